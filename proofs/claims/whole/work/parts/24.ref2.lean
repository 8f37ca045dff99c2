/-! ===== the reference: holds, sweeps, sweep, pay, look, send, sums ===== -/
theorem mGo_both {x : Int32} {wal : Nat → Int32} (hx : vp_in x 9) (hW : vW wal) : vp_in (mGo x wal) 9 ∧ mGo x wal = sBN x wal := by
  -- after each side both have seen the same neighbours
  have step : ∀ (d : Nat) (b : Int32) (a : Int32 × Int32), d < 4 → ((b = -1 ∧ a = (x, -1)) ∨ (vp_in b 9 ∧ a = (b, wal b.toNatClampNeg))) → ((mGo1 x wal d b = -1 ∧ sBN1 x wal d a = (x, -1)) ∨ (vp_in (mGo1 x wal d b) 9 ∧ sBN1 x wal d a = (mGo1 x wal d b, wal (mGo1 x wal d b).toNatClampNeg))) := by
    intro d b a hd hR
    unfold mGo1 sBN1
    by_cases h1 : sNb x d = -1
    · rw [if_pos h1, if_pos (by rw [h1]; decide)]
      exact hR
    · have h2 := (nb_in hx d hd).resolve_left h1
      rw [if_neg h1, if_neg (crV h2)]
      rcases hR with ⟨rfl, rfl⟩ | ⟨hb, rfl⟩
      · rw [if_pos rfl, if_neg (by
          intro z
          have h3 := hW _ h2
          rw [Int32.lt_iff_toInt_lt, Int32.toInt_zero] at h3
          have z := Int32.le_iff_toInt_le.mp z
          have e : ((-1 : Int32)).toInt = -1 := by decide
          show False
          have z : (wal (sNb x d).toNatClampNeg).toInt ≤ (-1 : Int32).toInt := z
          omega)]
        exact Or.inr ⟨h2, rfl⟩
      · have hbn : ¬ b = -1 := by
          intro z
          rw [z] at hb
          exact absurd hb (by unfold vp_in; decide)
        rw [if_neg hbn]
        by_cases h4 : wal (sNb x d).toNatClampNeg ≤ wal b.toNatClampNeg
        · rw [if_pos h4, if_pos h4]
          exact Or.inr ⟨hb, rfl⟩
        · rw [if_neg h4, if_neg h4]
          exact Or.inr ⟨h2, rfl⟩
  have loop : ∀ (k d : Nat) (b : Int32) (a : Int32 × Int32), d + k = 4 → ((b = -1 ∧ a = (x, -1)) ∨ (vp_in b 9 ∧ a = (b, wal b.toNatClampNeg))) → ((lpN (mGo1 x wal) k d b = -1 ∧ lpN (sBN1 x wal) k d a = (x, -1)) ∨ (vp_in (lpN (mGo1 x wal) k d b) 9 ∧ lpN (sBN1 x wal) k d a = (lpN (mGo1 x wal) k d b, wal (lpN (mGo1 x wal) k d b).toNatClampNeg))) := by
    intro k
    induction k with
    | zero => intro d b a _ h; exact h
    | succ k ih => intro d b a hd h; exact ih (d + 1) _ _ (by omega) (step d b a (by omega) h)
  have hne : ¬ mGo x wal = -1 := by
    obtain ⟨j, hj, rfl⟩ := vp_in_of hx (by decide)
    -- behind the first two sides a neighbour is known
    have st1 : ∀ d b, d < 4 → ¬ b = -1 → ¬ mGo1 (nI j) wal d b = -1 := by
      intro d b hd hb
      unfold mGo1
      split
      · exact hb
      · rename_i h
        split
        · exact hb
        · exact h
    have st2 : ∀ d b, d < 4 → ¬ sNb (nI j) d = -1 → ¬ mGo1 (nI j) wal d b = -1 := by
      intro d b hd h
      unfold mGo1
      rw [if_neg h]
      split
      · exact h
      · rename_i hb
        split
        · exact hb
        · exact h
    have h01 : ∀ j, j < 9 → ¬ sNb (nI j) 0 = -1 ∨ ¬ sNb (nI j) 1 = -1 := by decide +kernel
    show ¬ mGo1 (nI j) wal 3 (mGo1 (nI j) wal 2 (mGo1 (nI j) wal 1 (mGo1 (nI j) wal 0 (-1)))) = -1
    refine st1 3 _ (by decide) (st1 2 _ (by decide) ?_)
    rcases h01 j hj with h | h
    · exact st1 1 _ (by decide) (st2 0 _ (by decide) h)
    · exact st2 1 _ (by decide) h
  rcases loop 4 0 (-1) (x, -1) rfl (Or.inl ⟨rfl, rfl⟩) with ⟨h, -⟩ | ⟨h0, h⟩
  · exact absurd h hne
  · refine ⟨h0, ?_⟩
    show mGo x wal = (lpN (sBN1 x wal) 4 0 (x, -1)).1
    rw [h]
    rfl
theorem mGo_eq {x : Int32} {wal : Nat → Int32} (hx : vp_in x 9) (hW : vW wal) : mGo x wal = sBN x wal := (mGo_both hx hW).2
theorem sBN_in {x : Int32} {wal : Nat → Int32} (hx : vp_in x 9) (hW : vW wal) : vp_in (sBN x wal) 9 := by
  obtain ⟨h1, h2⟩ := mGo_both hx hW
  rw [← h2]; exact h1
theorem sWa_a {c : Int32} {mud wal : Nat → Int32} (hc : vp_in c 9) (h : ¬ 5 < mud c.toNatClampNeg) : sWa c mud wal = wal c.toNatClampNeg / 2 := by
  unfold sWa
  rw [if_neg (crV hc), if_pos, if_neg h]
  rw [Int32.lt_iff_toInt_lt] at h
  rw [Int32.le_iff_toInt_le]
  have e1 : (5 : Int32).toInt = 5 := by decide
  have e2 : (15 : Int32).toInt = 15 := by decide
  omega
theorem sWa_b {c : Int32} {mud wal : Nat → Int32} (hc : vp_in c 9) (h : 5 < mud c.toNatClampNeg) (h2 : ¬ 15 < mud c.toNatClampNeg) : sWa c mud wal = wal c.toNatClampNeg / 5 := by
  unfold sWa
  rw [if_neg (crV hc), if_pos (Int32.not_lt.mp h2), if_pos h]
theorem sWa_c {c : Int32} {mud wal : Nat → Int32} (hc : vp_in c 9) (h2 : 15 < mud c.toNatClampNeg) : sWa c mud wal = 0 := by
  unfold sWa
  rw [if_neg (crV hc), if_neg (Int32.not_le.mpr h2)]
set_option maxHeartbeats 2000000 in
theorem kX2_holds (th : Int32) (mud car wal hol paid rain place str bro pen swe dri : Nat → Int32) (N : Nat) (q : Int32) (i : Nat) (hN : N ≤ 8) (hi : i < N) (hP : vP N place) : AMet yX2_holds cX2_holds 2 (some .boolean) { frames := 0, cells := 0, slots := 0, locals := 0 } [.ref 0, .int (nI i)] (hS th mud car wal hol paid rain place str bro pen swe dri (nI N) q) (some (.int (sHP (nI i) (nI N) place hol))) (hS th mud car wal hol paid rain place str bro pen swe dri (nI N) q) := by
  refine AMet.of (by decide) rfl ?_
  intro G hR hE hI
  refine AW.blk (amX2_holds _) 0 8 (h' := hS th mud car wal hol paid rain place str bro pen swe dri (nI N) q) (pc' := 12) (lv' := [(0, .ref 0), (1, .int (nI i))]) (st' := [.int (nI i), .int (hol (place (nI i).toNatClampNeg).toNatClampNeg)]) (L := [vp_in (nI i) 8, vp_in (place (nI i).toNatClampNeg) 9]) rfl ⟨(vpi (by omega) rfl), (hP i hi)⟩ ?_
  refine AW.br (amX2_holds _) 8 (tgt := 19) (C := ¬ (hol (place (nI i).toNatClampNeg).toNatClampNeg) = (nI i)) (C' := (hol (place (nI i).toNatClampNeg).toNatClampNeg) = (nI i)) (st' := []) rfl rfl rfl (fun c1 => ?_) (fun c1 => ?_)
  · refine AW.blk (amX2_holds _) 11 1 (h' := hS th mud car wal hol paid rain place str bro pen swe dri (nI N) q) (pc' := 20) (lv' := [(0, .ref 0), (1, .int (nI i))]) (st' := [.int 0]) (L := []) rfl trivial ?_
    exact AW.iretE (amX2_holds _) 12 hE rfl rfl (by first | rfl | exact narrow_b _ (by decide)) rfl rfl (by simp only [sHP, if_neg (swN hN hi), if_neg (crV (hP i hi)), if_neg c1]) rfl
  · refine AW.blk (amX2_holds _) 9 2 (h' := hS th mud car wal hol paid rain place str bro pen swe dri (nI N) q) (pc' := 20) (lv' := [(0, .ref 0), (1, .int (nI i))]) (st' := [.int 1]) (L := []) rfl trivial ?_
    exact AW.iretE (amX2_holds _) 12 hE rfl rfl (by first | rfl | exact narrow_b _ (by decide)) rfl rfl (by simp only [sHP, if_neg (swN hN hi), if_neg (crV (hP i hi)), if_pos c1]) rfl
set_option maxHeartbeats 2000000 in
theorem kX2_sweeps (th : Int32) (mud car wal hol paid rain place str bro pen swe dri : Nat → Int32) (N : Nat) (q : Int32) (i : Nat) (hN : N ≤ 8) (hi : i < N) : AMet yX2_sweeps cX2_sweeps 2 (some .int) { frames := 0, cells := 0, slots := 0, locals := 0 } [.ref 0, .int (nI i)] (hS th mud car wal hol paid rain place str bro pen swe dri (nI N) q) (some (.int (sRe (nI i) (nI N) str bro))) (hS th mud car wal hol paid rain place str bro pen swe dri (nI N) q) := by
  refine AMet.of (by decide) rfl ?_
  intro G hR hE hI
  refine AW.blk (amX2_sweeps _) 0 12 (h' := hS th mud car wal hol paid rain place str bro pen swe dri (nI N) q) (pc' := 19) (lv' := [(0, .ref 0), (1, .int (nI i))]) (st' := [.int ((str (nI i).toNatClampNeg) + ((bro (nI i).toNatClampNeg) / 8))]) (L := [vp_in (nI i) 8, vp_in (nI i) 8, ¬ 8 = 0]) rfl ⟨(vpi (by omega) rfl), (vpi (by omega) rfl), (show ¬ (8 : Int32) = 0 by decide)⟩ ?_
  exact AW.iretE (amX2_sweeps _) 12 hE rfl rfl (by first | rfl | exact narrow_b _ (by decide)) rfl rfl (by simp only [sRe, if_neg (swN hN hi)]) rfl
set_option maxHeartbeats 2000000 in
theorem kX2_sweep (th : Int32) (mud car wal hol paid rain place str bro pen swe dri : Nat → Int32) (N : Nat) (q : Int32) (i : Nat) (hN : N ≤ 8) (hi : i < N) (hP : vP N place) : AMet yX2_sweep cX2_sweep 3 none { frames := 1, cells := 0, slots := 0, locals := 40 } [.ref 0, .int (nI i)] (hS th mud car wal hol paid rain place str bro pen swe dri (nI N) q) none (hS th (upd mud (place (nI i).toNatClampNeg).toNatClampNeg (mud (place (nI i).toNatClampNeg).toNatClampNeg - imin (mud (place (nI i).toNatClampNeg).toNatClampNeg) (sRe (nI i) (nI N) str bro))) car wal hol paid rain place str (upd bro (nI i).toNatClampNeg (imax 0 (bro (nI i).toNatClampNeg - 1))) pen (upd swe (nI i).toNatClampNeg (swe (nI i).toNatClampNeg + imin (mud (place (nI i).toNatClampNeg).toNatClampNeg) (sRe (nI i) (nI N) str bro))) dri (nI N) q) := by
  refine AMet.of (by decide) rfl ?_
  intro G hR hE hI
  refine AW.blk (amX2_sweep _) 0 9 (h' := hS th mud car wal hol paid rain place str bro pen swe dri (nI N) q) (pc' := 13) (lv' := [(0, .ref 0), (1, .int (nI i))]) (st' := [.int (nI i), .ref 0, .int (mud (place (nI i).toNatClampNeg).toNatClampNeg)]) (L := [vp_in (nI i) 8, vp_in (place (nI i).toNatClampNeg) 9]) rfl ⟨(vpi (by omega) rfl), (hP i hi)⟩ ?_
  refine AW.callV (amX2_sweep _) 9 (kX2_sweeps th mud car wal hol paid rain place str bro pen swe dri N q i hN hi) rfl rfl [0, 1, 2, 3, 4, 5, 6, 7, 8, 9, 10, 11, 12, 13] [100, 101, 102] ykX2_sweeps yiX2_sweeps yvX2_sweeps mlX2_57 rfl rfl rfl rfl hR ⟨Nat.le_of_ble_eq_true rfl, Nat.le_of_ble_eq_true rfl, Nat.le_of_ble_eq_true rfl, Nat.le_of_ble_eq_true rfl⟩ rfl rfl rfl rfl rfl (fun _ => rfl) (h1 := hS th mud car wal hol paid rain place str bro pen swe dri (nI N) q) rfl (st' := [.int (sRe (nI i) (nI N) str bro), .int (mud (place (nI i).toNatClampNeg).toNatClampNeg)]) rfl ?_
  refine AW.mmin (amX2_sweep _) 10 rfl kmmX2_61 hR rfl ⟨Nat.le_of_ble_eq_true rfl, Nat.le_of_ble_eq_true rfl, Nat.le_of_ble_eq_true rfl, Nat.le_of_ble_eq_true rfl⟩ ?_
  refine AW.blk (amX2_sweep _) 11 30 (h' := hS th (upd mud (place (nI i).toNatClampNeg).toNatClampNeg ((mud (place (nI i).toNatClampNeg).toNatClampNeg) - (imin (mud (place (nI i).toNatClampNeg).toNatClampNeg) (sRe (nI i) (nI N) str bro)))) car wal hol paid rain place str bro pen (upd swe (nI i).toNatClampNeg ((swe (nI i).toNatClampNeg) + (imin (mud (place (nI i).toNatClampNeg).toNatClampNeg) (sRe (nI i) (nI N) str bro)))) dri (nI N) q) (pc' := 59) (lv' := [(2, .int (imin (mud (place (nI i).toNatClampNeg).toNatClampNeg) (sRe (nI i) (nI N) str bro))), (0, .ref 0), (1, .int (nI i))]) (st' := [.int ((bro (nI i).toNatClampNeg) - 1), .int 0, .int (nI i), .ref 5]) (L := [vp_in (nI i) 8, vp_in (place (nI i).toNatClampNeg) 9, vp_in (place (nI i).toNatClampNeg) 9, vp_in (nI i) 8, vp_in (nI i) 8, vp_in (nI i) 8]) rfl ⟨(vpi (by omega) rfl), (hP i hi), (hP i hi), (vpi (by omega) rfl), (vpi (by omega) rfl), (vpi (by omega) rfl)⟩ ?_
  refine AW.mmax (amX2_sweep _) 41 rfl kmmX2_67 hR rfl ⟨Nat.le_of_ble_eq_true rfl, Nat.le_of_ble_eq_true rfl, Nat.le_of_ble_eq_true rfl, Nat.le_of_ble_eq_true rfl⟩ ?_
  refine AW.blk (amX2_sweep _) 42 1 (h' := hS th (upd mud (place (nI i).toNatClampNeg).toNatClampNeg ((mud (place (nI i).toNatClampNeg).toNatClampNeg) - (imin (mud (place (nI i).toNatClampNeg).toNatClampNeg) (sRe (nI i) (nI N) str bro)))) car wal hol paid rain place str (upd bro (nI i).toNatClampNeg (imax 0 ((bro (nI i).toNatClampNeg) - 1))) pen (upd swe (nI i).toNatClampNeg ((swe (nI i).toNatClampNeg) + (imin (mud (place (nI i).toNatClampNeg).toNatClampNeg) (sRe (nI i) (nI N) str bro)))) dri (nI N) q) (pc' := 63) (lv' := [(2, .int (imin (mud (place (nI i).toNatClampNeg).toNatClampNeg) (sRe (nI i) (nI N) str bro))), (0, .ref 0), (1, .int (nI i))]) (st' := []) (L := [vp_in (nI i) 8]) rfl (vpi (by omega) rfl) ?_
  exact AW.vretE (amX2_sweep _) 43 hE rfl rfl rfl rfl rfl
set_option maxHeartbeats 2000000 in
theorem kX2_pay (th : Int32) (mud car wal hol paid rain place str bro pen swe dri : Nat → Int32) (N : Nat) (q : Int32) (c : Nat) (hN : N ≤ 8) (hc : c < 9) (hH : vH N hol) (hne : ¬ hol (nI c).toNatClampNeg = -1) : AMet yX2_pay cX2_pay 3 (some .int) { frames := 0, cells := 0, slots := 0, locals := 0 } [.ref 0, .int (nI c)] (hS th mud car wal hol paid rain place str bro pen swe dri (nI N) q) (some (.int (sWa (nI c) mud wal))) (hS th mud car wal hol (upd paid (nI c).toNatClampNeg (paid (nI c).toNatClampNeg + sWa (nI c) mud wal)) rain place str bro (upd pen (hol (nI c).toNatClampNeg).toNatClampNeg (pen (hol (nI c).toNatClampNeg).toNatClampNeg + sWa (nI c) mud wal)) swe dri (nI N) q) := by
  refine AMet.of (by decide) rfl ?_
  intro G hR hE hI
  have J : ∀ (v : Int32), v = sWa (nI c) mud wal → AW G (yX2_pay.cls, cX2_pay, 3, 14) (hS th mud car wal hol paid rain place str bro pen swe dri (nI N) q) 0 0 50 [(0, .ref 0), (1, .int (nI c))] [.int v] := by
    intro v hv
    refine AW.blk (amX2_pay _) 29 21 (h' := hS th mud car wal hol (upd paid (nI c).toNatClampNeg ((paid (nI c).toNatClampNeg) + v)) rain place str bro (upd pen (hol (nI c).toNatClampNeg).toNatClampNeg ((pen (hol (nI c).toNatClampNeg).toNatClampNeg) + v)) swe dri (nI N) q) (pc' := 77) (lv' := [(2, .int v), (0, .ref 0), (1, .int (nI c))]) (st' := [.int v]) (L := [vp_in (nI c) 9, vp_in (nI c) 9, vp_in (nI c) 9, vp_in (hol (nI c).toNatClampNeg) 8, vp_in (hol (nI c).toNatClampNeg) 8]) rfl ⟨(vpi hc rfl), (vpi hc rfl), (vpi hc rfl), (vHin hN hH (vpi hc rfl) hne), (vHin hN hH (vpi hc rfl) hne)⟩ ?_
    exact AW.iretE (amX2_pay _) 50 hE rfl rfl rfl rfl rfl hv.symm (by rw [hv])
  refine AW.blk (amX2_pay _) 0 5 (h' := hS th mud car wal hol paid rain place str bro pen swe dri (nI N) q) (pc' := 7) (lv' := [(0, .ref 0), (1, .int (nI c))]) (st' := [.int 5, .int (mud (nI c).toNatClampNeg)]) (L := [vp_in (nI c) 9]) rfl (vpi hc rfl) ?_
  refine AW.br (amX2_pay _) 5 (tgt := 24) (C := 5 < (mud (nI c).toNatClampNeg)) (C' := ¬ 5 < (mud (nI c).toNatClampNeg)) (st' := []) rfl rfl rfl (fun c1 => ?_) (fun c1 => ?_)
  · refine AW.blk (amX2_pay _) 14 5 (h' := hS th mud car wal hol paid rain place str bro pen swe dri (nI N) q) (pc' := 32) (lv' := [(0, .ref 0), (1, .int (nI c))]) (st' := [.int 15, .int (mud (nI c).toNatClampNeg)]) (L := [vp_in (nI c) 9]) rfl (vpi hc rfl) ?_
    refine AW.br (amX2_pay _) 19 (tgt := 49) (C := 15 < (mud (nI c).toNatClampNeg)) (C' := ¬ 15 < (mud (nI c).toNatClampNeg)) (st' := []) rfl rfl rfl (fun c2 => ?_) (fun c2 => ?_)
    · refine AW.blk (amX2_pay _) 28 1 (h' := hS th mud car wal hol paid rain place str bro pen swe dri (nI N) q) (pc' := 50) (lv' := [(0, .ref 0), (1, .int (nI c))]) (st' := [.int 0]) (L := []) rfl trivial ?_
      exact J _ (sWa_c (vpi hc rfl) c2).symm
    · refine AW.blk (amX2_pay _) 20 8 (h' := hS th mud car wal hol paid rain place str bro pen swe dri (nI N) q) (pc' := 50) (lv' := [(0, .ref 0), (1, .int (nI c))]) (st' := [.int ((wal (nI c).toNatClampNeg) / 5)]) (L := [vp_in (nI c) 9, ¬ 5 = 0]) rfl ⟨(vpi hc rfl), (show ¬ (5 : Int32) = 0 by decide)⟩ ?_
      exact J _ (sWa_b (vpi hc rfl) c1 c2).symm
  · refine AW.blk (amX2_pay _) 6 8 (h' := hS th mud car wal hol paid rain place str bro pen swe dri (nI N) q) (pc' := 50) (lv' := [(0, .ref 0), (1, .int (nI c))]) (st' := [.int ((wal (nI c).toNatClampNeg) / 2)]) (L := [vp_in (nI c) 9, ¬ 2 = 0]) rfl ⟨(vpi hc rfl), (show ¬ (2 : Int32) = 0 by decide)⟩ ?_
    exact J _ (sWa_a (vpi hc rfl) c1).symm
set_option maxHeartbeats 2000000 in
theorem kX2_look (th : Int32) (mud car wal hol paid rain place str bro pen swe dri : Nat → Int32) (N : Nat) (q : Int32) (i : Nat) (hN : N ≤ 8) (hi : i < N) (hP : vP N place) (hH : vH N hol) (hW : vW wal) : AMet yX2_look cX2_look 4 none { frames := 2, cells := 0, slots := 0, locals := 45 } [.ref 0, .int (nI i)] (hS th mud car wal hol paid rain place str bro pen swe dri (nI N) q) none (hS th mud car wal (sSkH (nI i) (nI N) str place hol) paid rain (sSkP (nI i) (nI N) str wal place hol) str bro pen swe (sSkD (nI i) (nI N) str place hol dri) (nI N) q) := by
  refine AMet.of (by decide) rfl ?_
  intro G hR hE hI
  refine AW.blk (amX2_look _) 0 12 (h' := hS th mud car wal hol paid rain place str bro pen swe dri (nI N) q) (pc' := 16) (lv' := [(3, .int (hol (place (nI i).toNatClampNeg).toNatClampNeg)), (2, .int (place (nI i).toNatClampNeg)), (0, .ref 0), (1, .int (nI i))]) (st' := [.int ((-1)), .int (hol (place (nI i).toNatClampNeg).toNatClampNeg)]) (L := [vp_in (nI i) 8, vp_in (place (nI i).toNatClampNeg) 9]) rfl ⟨(vpi (by omega) rfl), (hP i hi)⟩ ?_
  refine AW.br (amX2_look _) 12 (tgt := 55) (C := (hol (place (nI i).toNatClampNeg).toNatClampNeg) = (-1)) (C' := ¬ (hol (place (nI i).toNatClampNeg).toNatClampNeg) = (-1)) (st' := []) rfl rfl rfl (fun c1 => ?_) (fun c1 => ?_)
  · refine AW.blk (amX2_look _) 33 2 (h' := hS th mud car wal hol paid rain place str bro pen swe dri (nI N) q) (pc' := 57) (lv' := [(3, .int (hol (place (nI i).toNatClampNeg).toNatClampNeg)), (2, .int (place (nI i).toNatClampNeg)), (0, .ref 0), (1, .int (nI i))]) (st' := [.int ((-1)), .int (hol (place (nI i).toNatClampNeg).toNatClampNeg)]) (L := []) rfl trivial ?_
    refine AW.br (amX2_look _) 35 (tgt := 70) (C := (hol (place (nI i).toNatClampNeg).toNatClampNeg) = (-1)) (C' := ¬ (hol (place (nI i).toNatClampNeg).toNatClampNeg) = (-1)) (st' := []) rfl rfl rfl (fun e1 => ?_) (fun e1 => absurd c1 e1)
    refine AW.blk (amX2_look _) 44 5 (h' := hS th mud car wal (upd hol (place (nI i).toNatClampNeg).toNatClampNeg (nI i)) paid rain place str bro pen swe dri (nI N) q) (pc' := 77) (lv' := [(3, .int (hol (place (nI i).toNatClampNeg).toNatClampNeg)), (2, .int (place (nI i).toNatClampNeg)), (0, .ref 0), (1, .int (nI i))]) (st' := []) (L := [vp_in (place (nI i).toNatClampNeg) 9]) rfl (hP i hi) ?_
    exact AW.vretE (amX2_look _) 49 hE rfl rfl rfl rfl (by simp only [sSkP, sSkH, sSkD, if_neg (swN hN hi), if_neg (crV (hP i hi)), if_pos (show sSw (hol (place (nI i).toNatClampNeg).toNatClampNeg) (nI N) = 0 by rw [c1]; exact swM _)])
  · refine AW.blk (amX2_look _) 13 10 (h' := hS th mud car wal hol paid rain place str bro pen swe dri (nI N) q) (pc' := 37) (lv' := [(3, .int (hol (place (nI i).toNatClampNeg).toNatClampNeg)), (2, .int (place (nI i).toNatClampNeg)), (0, .ref 0), (1, .int (nI i))]) (st' := [.int (str (nI i).toNatClampNeg), .int (str (hol (place (nI i).toNatClampNeg).toNatClampNeg).toNatClampNeg)]) (L := [vp_in (hol (place (nI i).toNatClampNeg).toNatClampNeg) 8, vp_in (nI i) 8]) rfl ⟨(vHin hN hH (hP i hi) c1), (vpi (by omega) rfl)⟩ ?_
    refine AW.br (amX2_look _) 23 (tgt := 55) (C := (str (hol (place (nI i).toNatClampNeg).toNatClampNeg).toNatClampNeg) < (str (nI i).toNatClampNeg)) (C' := ¬ (str (hol (place (nI i).toNatClampNeg).toNatClampNeg).toNatClampNeg) < (str (nI i).toNatClampNeg)) (st' := []) rfl rfl rfl (fun d1 => ?_) (fun d1 => ?_)
    · refine AW.blk (amX2_look _) 33 2 (h' := hS th mud car wal hol paid rain place str bro pen swe dri (nI N) q) (pc' := 57) (lv' := [(3, .int (hol (place (nI i).toNatClampNeg).toNatClampNeg)), (2, .int (place (nI i).toNatClampNeg)), (0, .ref 0), (1, .int (nI i))]) (st' := [.int ((-1)), .int (hol (place (nI i).toNatClampNeg).toNatClampNeg)]) (L := []) rfl trivial ?_
      refine AW.br (amX2_look _) 35 (tgt := 70) (C := (hol (place (nI i).toNatClampNeg).toNatClampNeg) = (-1)) (C' := ¬ (hol (place (nI i).toNatClampNeg).toNatClampNeg) = (-1)) (st' := []) rfl rfl rfl (fun d2 => absurd d2 c1) (fun d2 => ?_)
      refine AW.blk (amX2_look _) 36 13 (h' := hS th mud car wal (upd hol (place (nI i).toNatClampNeg).toNatClampNeg (nI i)) paid rain place str bro pen swe (upd dri (hol (place (nI i).toNatClampNeg).toNatClampNeg).toNatClampNeg ((dri (hol (place (nI i).toNatClampNeg).toNatClampNeg).toNatClampNeg) + 1)) (nI N) q) (pc' := 77) (lv' := [(3, .int (hol (place (nI i).toNatClampNeg).toNatClampNeg)), (2, .int (place (nI i).toNatClampNeg)), (0, .ref 0), (1, .int (nI i))]) (st' := []) (L := [vp_in (hol (place (nI i).toNatClampNeg).toNatClampNeg) 8, vp_in (hol (place (nI i).toNatClampNeg).toNatClampNeg) 8, vp_in (place (nI i).toNatClampNeg) 9]) rfl ⟨(vHin hN hH (hP i hi) c1), (vHin hN hH (hP i hi) c1), (hP i hi)⟩ ?_
      exact AW.vretE (amX2_look _) 49 hE rfl rfl rfl rfl (by simp only [sSkP, sSkH, sSkD, if_neg (swN hN hi), if_neg (crV (hP i hi)), if_neg (vHsw hN hH (hP i hi) c1), if_neg (Int32.not_le.mpr d1)])
    · refine AW.blk (amX2_look _) 24 6 (h' := hS th mud car wal hol paid rain place str bro pen swe dri (nI N) q) (pc' := 50) (lv' := [(3, .int (hol (place (nI i).toNatClampNeg).toNatClampNeg)), (2, .int (place (nI i).toNatClampNeg)), (0, .ref 0), (1, .int (nI i))]) (st' := [.int (place (nI i).toNatClampNeg), .ref 9, .int (nI i), .ref 4]) (L := []) rfl trivial ?_
      refine AW.callV (amX2_look _) 30 (kX3_goesTo th (nI N) wal (place (nI i).toNatClampNeg) (hP i hi)) rfl rfl [9, 11] [100, 101, 102, 10, 12, 13] ykX3_goesTo yiX3_goesTo yvX3_goesTo mlX2_73 rfl rfl rfl rfl hR ⟨Nat.le_of_ble_eq_true rfl, Nat.le_of_ble_eq_true rfl, Nat.le_of_ble_eq_true rfl, Nat.le_of_ble_eq_true rfl⟩ rfl rfl rfl rfl rfl (fun _ => rfl) (h1 := hS th mud car wal hol paid rain place str bro pen swe dri (nI N) q) rfl (st' := [.int (mGo (place (nI i).toNatClampNeg) wal), .int (nI i), .ref 4]) rfl ?_
      rw [mGo_eq (hP i hi) hW]
      refine AW.blk (amX2_look _) 31 1 (h' := hS th mud car wal hol paid rain (upd place (nI i).toNatClampNeg (sBN (place (nI i).toNatClampNeg) wal)) str bro pen swe dri (nI N) q) (pc' := 54) (lv' := [(3, .int (hol (place (nI i).toNatClampNeg).toNatClampNeg)), (2, .int (place (nI i).toNatClampNeg)), (0, .ref 0), (1, .int (nI i))]) (st' := []) (L := [vp_in (nI i) 8]) rfl (vpi (by omega) rfl) ?_
      exact AW.vretE (amX2_look _) 32 hE rfl rfl rfl rfl (by simp only [sSkP, sSkH, sSkD, if_neg (swN hN hi), if_neg (crV (hP i hi)), if_neg (vHsw hN hH (hP i hi) c1), if_pos (Int32.not_lt.mp d1)])
set_option maxHeartbeats 2000000 in
theorem kX2_send (th : Int32) (mud car wal hol paid rain place str bro pen swe dri : Nat → Int32) (N : Nat) (q : Int32) (x : Int32) (i : Nat) (hN : N ≤ 8) (hi : i < N) (hP : vP N place) : AMet yX2_send cX2_send 4 (some .int) { frames := 1, cells := 0, slots := 0, locals := 21 } [.ref 0, .int (nI i), .int x] (hS th mud car wal hol paid rain place str bro pen swe dri (nI N) q) (some (.int (place (nI i).toNatClampNeg))) (hS th mud car wal (sMoH (nI i) (nI N) place hol) paid rain (sMoP (nI i) x (nI N) place) str bro pen swe dri (nI N) q) := by
  refine AMet.of (by decide) rfl ?_
  intro G hR hE hI
  have hh : (sHP (nI i) (nI N) place hol = 0) = ¬ hol (place (nI i).toNatClampNeg).toNatClampNeg = nI i := by
    simp only [sHP, if_neg (swN hN hi), if_neg (crV (hP i hi))]
    split
    · rename_i h; simp [h]
    · rename_i h; simp [h]
  refine AW.blk (amX2_send _) 0 7 (h' := hS th mud car wal hol paid rain place str bro pen swe dri (nI N) q) (pc' := 9) (lv' := [(3, .int (place (nI i).toNatClampNeg)), (0, .ref 0), (1, .int (nI i)), (2, .int x)]) (st' := [.int (nI i), .ref 0]) (L := [vp_in (nI i) 8]) rfl (vpi (by omega) rfl) ?_
  refine AW.callV (amX2_send _) 7 (kX2_holds th mud car wal hol paid rain place str bro pen swe dri N q i hN hi hP) rfl rfl [0, 1, 2, 3, 4, 5, 6, 7, 8, 9, 10, 11, 12, 13] [100, 101, 102] ykX2_holds yiX2_holds yvX2_holds mlX2_85 rfl rfl rfl rfl hR ⟨Nat.le_of_ble_eq_true rfl, Nat.le_of_ble_eq_true rfl, Nat.le_of_ble_eq_true rfl, Nat.le_of_ble_eq_true rfl⟩ rfl rfl rfl rfl rfl (fun _ => rfl) (h1 := hS th mud car wal hol paid rain place str bro pen swe dri (nI N) q) rfl (st' := [.int (sHP (nI i) (nI N) place hol)]) rfl ?_
  refine AW.br (amX2_send _) 8 (tgt := 22) (C := (sHP (nI i) (nI N) place hol) = 0) (C' := ¬ (sHP (nI i) (nI N) place hol) = 0) (st' := []) rfl rfl rfl (fun c1 => ?_) (fun c1 => ?_)
  · refine AW.blk (amX2_send _) 14 6 (h' := hS th mud car wal hol paid rain (upd place (nI i).toNatClampNeg x) str bro pen swe dri (nI N) q) (pc' := 30) (lv' := [(3, .int (place (nI i).toNatClampNeg)), (0, .ref 0), (1, .int (nI i)), (2, .int x)]) (st' := [.int (place (nI i).toNatClampNeg)]) (L := [vp_in (nI i) 8]) rfl (vpi (by omega) rfl) ?_
    exact AW.iretE (amX2_send _) 20 hE rfl rfl rfl rfl rfl rfl (by simp only [sMoP, sMoH, if_neg (swN hN hi), if_neg (crV (hP i hi)), if_neg (hh ▸ c1)])
  · refine AW.blk (amX2_send _) 9 11 (h' := hS th mud car wal (upd hol (place (nI i).toNatClampNeg).toNatClampNeg (-1)) paid rain (upd place (nI i).toNatClampNeg x) str bro pen swe dri (nI N) q) (pc' := 30) (lv' := [(3, .int (place (nI i).toNatClampNeg)), (0, .ref 0), (1, .int (nI i)), (2, .int x)]) (st' := [.int (place (nI i).toNatClampNeg)]) (L := [vp_in (place (nI i).toNatClampNeg) 9, vp_in (nI i) 8]) rfl ⟨(hP i hi), (vpi (by omega) rfl)⟩ ?_
    exact AW.iretE (amX2_send _) 20 hE rfl rfl rfl rfl rfl rfl (by simp only [sMoP, sMoH, if_neg (swN hN hi), if_neg (crV (hP i hi)), if_pos (Classical.not_not.mp (hh ▸ c1))])
