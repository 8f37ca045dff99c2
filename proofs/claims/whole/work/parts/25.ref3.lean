/-! ===== the reference: a quarter ===== -/
theorem lpS_N {α : Type} {N M : Nat} (f : Nat → α → α) (a : α) (hN : N ≤ M) (hM : M < 2 ^ 31) : lpS (nI N) f M 0 a = lpN f N 0 a := by
  have key : ∀ (j i k : Nat) (a : α), i + j = N → j ≤ k → lpS (nI N) f k i a = lpN f j i a := by
    intro j
    induction j with
    | zero =>
      intro i k a hi hk
      cases k with
      | zero => rfl
      | succ k =>
        have : nI N ≤ nI i := nI_le (by omega) (by omega)
        show (if nI N ≤ nI i then a else _) = a
        rw [if_pos this]
    | succ j ih =>
      intro i k a hi hk
      cases k with
      | zero => omega
      | succ k =>
        have : ¬ nI N ≤ nI i := nI_ge (by omega) (by omega)
        show (if nI N ≤ nI i then a else lpS (nI N) f k (i + 1) (f i a)) = lpN f j (i + 1) (f i a)
        rw [if_neg this]
        exact ih (i + 1) k (f i a) (by omega) (by omega)
  exact key N 0 M a (by omega) hN
theorem wet_m {q : Int32} {rain : Nat → Int32} (h : vp_in (q - q / 8 * 8) 8) : sWet q rain = rain (q - q / 8 * 8).toNatClampNeg := by
  unfold sWet
  obtain ⟨j, hj, e⟩ := vp_in_of h (by decide)
  rw [e, if_neg (nI_pos (by omega)), if_neg (show ¬ (8 : Int32) ≤ nI j from nle (N := 8) hj rfl)]
theorem sMd1_m {w : Int32} {car m : Nat → Int32} {i : Nat} (hi : i < 9) : sMd1 w car i m = upd m (nI i).toNatClampNeg (imin 50 (m (nI i).toNatClampNeg + car (nI i).toNatClampNeg + w)) := by
  unfold sMd1 sAM
  rw [if_neg (sCr_one hi), Int32.add_assoc]
theorem sSw1_m {N i : Nat} {place hol str : Nat → Int32} {a : (Nat → Int32) × (Nat → Int32) × (Nat → Int32)} (hN : N ≤ 8) (hi : i < N) (hP : vP N place) : sSw1 (nI N) place hol str i a = if sHP (nI i) (nI N) place hol = 0 then a else (upd a.1 (place (nI i).toNatClampNeg).toNatClampNeg (a.1 (place (nI i).toNatClampNeg).toNatClampNeg - imin (a.1 (place (nI i).toNatClampNeg).toNatClampNeg) (sRe (nI i) (nI N) str a.2.1)), upd a.2.1 (nI i).toNatClampNeg (imax 0 (a.2.1 (nI i).toNatClampNeg - 1)), upd a.2.2 (nI i).toNatClampNeg (a.2.2 (nI i).toNatClampNeg + imin (a.1 (place (nI i).toNatClampNeg).toNatClampNeg) (sRe (nI i) (nI N) str a.2.1))) := by
  unfold sSw1 sHP
  rw [if_neg (crV (hP i hi)), if_neg (swN hN hi), if_neg (crV (hP i hi))]
  by_cases h : hol (place (nI i).toNatClampNeg).toNatClampNeg = nI i
  · rw [if_pos h, if_pos h, if_neg (by decide)]
  · rw [if_neg h, if_neg h, if_pos rfl]
theorem sPy1_m {N c : Nat} {hol mud wal : Nat → Int32} {a : Int32 × (Nat → Int32) × (Nat → Int32)} (hN : N ≤ 8) (hc : c < 9) (hH : vH N hol) : sPy1 (nI N) hol mud wal c a = if hol (nI c).toNatClampNeg = -1 then a else (a.1 + sWa (nI c) mud wal, upd a.2.1 (hol (nI c).toNatClampNeg).toNatClampNeg (a.2.1 (hol (nI c).toNatClampNeg).toNatClampNeg + sWa (nI c) mud wal), upd a.2.2 (nI c).toNatClampNeg (a.2.2 (nI c).toNatClampNeg + sWa (nI c) mud wal)) := by
  unfold sPy1
  by_cases h : hol (nI c).toNatClampNeg = -1
  · rw [if_pos h, if_pos (by rw [h]; exact swM _)]
  · rw [if_neg h, if_neg (vHsw hN hH (vpi hc rfl) h)]
theorem look_P {N i : Nat} {str wal place hol : Nat → Int32} (hN : N ≤ 8) (hi : i < N) (hP : vP N place) (hW : vW wal) : vP N (sSkP (nI i) (nI N) str wal place hol) := by
  unfold sSkP
  rw [if_neg (swN hN hi), if_neg (crV (hP i hi))]
  split
  · exact hP
  · split
    · intro j hj
      by_cases h : j = i
      · subst h
        rw [pk_us]
        exact sBN_in (hP j hj) hW
      · rw [pk_un (by rw [nI_clamp (by omega), nI_clamp (by omega)]; exact h)]
        exact hP j hj
    · exact hP
theorem look_H {N i : Nat} {str place hol : Nat → Int32} (hN : N ≤ 8) (hi : i < N) (hP : vP N place) (hH : vH N hol) : vH N (sSkH (nI i) (nI N) str place hol) := by
  have hu : vH N (upd hol (place (nI i).toNatClampNeg).toNatClampNeg (nI i)) := by
    intro x hx
    by_cases h : x.toNatClampNeg = (place (nI i).toNatClampNeg).toNatClampNeg
    · right
      exact ⟨i, hi, by unfold upd; rw [if_pos h]⟩
    · rw [pk_un h]
      exact hH x hx
  unfold sSkH
  rw [if_neg (swN hN hi), if_neg (crV (hP i hi))]
  split
  · exact hu
  · split
    · exact hH
    · exact hu
theorem lk1_V {N i : Nat} {str wal : Nat → Int32} {a : (Nat → Int32) × (Nat → Int32) × (Nat → Int32)} (hN : N ≤ 8) (hi : i < N) (hP : vP N a.1) (hH : vH N a.2.1) (hW : vW wal) : vP N (sLk1 (nI N) str wal i a).1 ∧ vH N (sLk1 (nI N) str wal i a).2.1 := by
  unfold sLk1
  split
  · exact ⟨look_P hN hi hP hW, look_H hN hi hP hH⟩
  · exact ⟨hP, hH⟩
def hSt (th : Int32) (C : CS) : aH := hS th C.1 C.2.1 C.2.2.1 C.2.2.2.1 C.2.2.2.2.1 C.2.2.2.2.2.1 C.2.2.2.2.2.2.1 C.2.2.2.2.2.2.2.1 C.2.2.2.2.2.2.2.2.1 C.2.2.2.2.2.2.2.2.2.1 C.2.2.2.2.2.2.2.2.2.2.1 C.2.2.2.2.2.2.2.2.2.2.2.1 C.2.2.2.2.2.2.2.2.2.2.2.2.1 C.2.2.2.2.2.2.2.2.2.2.2.2.2
set_option maxHeartbeats 2000000 in
theorem kX2_pass (th : Int32) (mud car wal hol paid rain place str bro pen swe dri : Nat → Int32) (N : Nat) (q : Int32) (hN : N ≤ 8) (hP : vP N place) (hH : vH N hol) (hW : vW wal) (hq : vp_in (q - q / 8 * 8) 8) : AMet yX2_pass cX2_pass 4 (some .int) { frames := 3, cells := 0, slots := 0, locals := 68 } [.ref 0] (hS th mud car wal hol paid rain place str bro pen swe dri (nI N) q) (some (.int (sQ (mud, car, wal, hol, paid, rain, place, str, bro, pen, swe, dri, nI N, q)).1)) (hSt th (sQ (mud, car, wal, hol, paid, rain, place, str, bro, pen, swe, dri, nI N, q)).2) := by
  refine AMet.of (by decide) rfl ?_
  intro G hR hE hI
  obtain ⟨w, hw⟩ : ∃ z, z = sWet q rain := ⟨_, rfl⟩
  obtain ⟨S, hS'⟩ : ∃ z, z = sSwQ w (nI N) place hol str (sMd w car mud, bro, swe) := ⟨_, rfl⟩
  obtain ⟨Y, hY⟩ : ∃ z, z = sPyQ w (nI N) hol S.1 wal (0, pen, paid) := ⟨_, rfl⟩
  obtain ⟨L, hL⟩ : ∃ z, z = sLook (nI N) str wal (place, hol, dri) := ⟨_, rfl⟩
  have hfin : sQ (mud, car, wal, hol, paid, rain, place, str, bro, pen, swe, dri, nI N, q) = (Y.1, S.1, car, wal, L.2.1, Y.2.2, rain, L.1, str, S.2.1, Y.2.1, S.2.2, L.2.2, nI N, q + 1) := by subst hL; subst hY; subst hS'; subst hw; rfl
  rw [hfin] at hE
  have E2 : ∀ (p1 h1 d1 : Nat → Int32), (p1, h1, d1) = L → AW G (yX2_pass.cls, cX2_pass, 4, 14) (hS th S.1 car wal h1 Y.2.2 rain p1 str S.2.1 Y.2.1 S.2.2 d1 (nI N) q) 0 0 163 [(2, .int Y.1), (0, .ref 0)] [] := by
    intro p1 h1 d1 hf
    refine AW.blk (amX2_pass _) 90 7 (h' := hS th S.1 car wal h1 Y.2.2 rain p1 str S.2.1 Y.2.1 S.2.2 d1 (nI N) (q + 1)) (pc' := 174) (lv' := [(2, .int Y.1), (0, .ref 0)]) (st' := [.int Y.1]) (L := []) rfl trivial ?_
    exact AW.iretE (amX2_pass _) 97 hE rfl rfl rfl rfl rfl rfl (by rw [← hf]; rfl)
  have K4 : ∀ (k i : Nat) (p1 : Nat → Int32) (h1 : Nat → Int32) (d1 : Nat → Int32), vP N p1 → vH N h1 → i + k = N → lpN (sLk1 (nI N) str wal) k i (p1, h1, d1) = L → AW G (yX2_pass.cls, cX2_pass, 4, 14) (hS th S.1 car wal h1 Y.2.2 rain p1 str S.2.1 Y.2.1 S.2.2 d1 (nI N) q) 0 0 133 [(3, .int (nI i)), (2, .int Y.1), (0, .ref 0)] [] := by
    intro k
    induction k with
    | zero =>
      intro i p1 h1 d1 hP1 hH1 hi hf
      refine AW.blk (amX2_pass _) 76 4 (h' := hS th S.1 car wal h1 Y.2.2 rain p1 str S.2.1 Y.2.1 S.2.2 d1 (nI N) q) (pc' := 141) (lv' := [(3, .int (nI i)), (2, .int Y.1), (0, .ref 0)]) (st' := [.int (nI N), .int (nI i)]) (L := []) rfl trivial ?_
      refine AW.br (amX2_pass _) 80 (tgt := 163) (C := (nI N) ≤ (nI i)) (C' := ¬ (nI N) ≤ (nI i)) (st' := []) rfl rfl rfl (fun c1 => ?_) (fun c1 => absurd (nI_le (a := N) (b := i) (by omega) (by omega)) c1)
      refine AW.pick [1, 2] (lv' := [(2, .int Y.1), (0, .ref 0)]) rfl ?_
      exact E2 _ _ _ hf
    | succ k ih =>
      intro i p1 h1 d1 hP1 hH1 hi hf
      refine AW.blk (amX2_pass _) 76 4 (h' := hS th S.1 car wal h1 Y.2.2 rain p1 str S.2.1 Y.2.1 S.2.2 d1 (nI N) q) (pc' := 141) (lv' := [(3, .int (nI i)), (2, .int Y.1), (0, .ref 0)]) (st' := [.int (nI N), .int (nI i)]) (L := []) rfl trivial ?_
      refine AW.br (amX2_pass _) 80 (tgt := 163) (C := (nI N) ≤ (nI i)) (C' := ¬ (nI N) ≤ (nI i)) (st' := []) rfl rfl rfl (fun c1 => absurd c1 (nI_ge (a := i) (b := N) (by omega) (by omega))) (fun c1 => ?_)
      refine AW.blk (amX2_pass _) 81 2 (h' := hS th S.1 car wal h1 Y.2.2 rain p1 str S.2.1 Y.2.1 S.2.2 d1 (nI N) q) (pc' := 146) (lv' := [(3, .int (nI i)), (2, .int Y.1), (0, .ref 0)]) (st' := [.int (nI i), .ref 0]) (L := []) rfl trivial ?_
      refine AW.callV (amX2_pass _) 83 (kX2_holds th S.1 car wal h1 Y.2.2 rain p1 str S.2.1 Y.2.1 S.2.2 d1 N q i hN (by omega) hP1) rfl rfl [0, 1, 2, 3, 4, 5, 6, 7, 8, 9, 10, 11, 12, 13] [100, 101, 102] ykX2_holds yiX2_holds yvX2_holds mlX2_85 rfl rfl rfl rfl hR ⟨Nat.le_of_ble_eq_true rfl, Nat.le_of_ble_eq_true rfl, Nat.le_of_ble_eq_true rfl, Nat.le_of_ble_eq_true rfl⟩ rfl rfl rfl rfl rfl (fun _ => rfl) (h1 := hS th S.1 car wal h1 Y.2.2 rain p1 str S.2.1 Y.2.1 S.2.2 d1 (nI N) q) rfl (st' := [.int (sHP (nI i) (nI N) p1 h1)]) rfl ?_
      refine AW.br (amX2_pass _) 84 (tgt := 157) (C := ¬ (sHP (nI i) (nI N) p1 h1) = 0) (C' := (sHP (nI i) (nI N) p1 h1) = 0) (st' := []) rfl rfl rfl (fun c2 => ?_) (fun c2 => ?_)
      · refine AW.blk (amX2_pass _) 88 2 (h' := hS th S.1 car wal h1 Y.2.2 rain p1 str S.2.1 Y.2.1 S.2.2 d1 (nI N) q) (pc' := 133) (lv' := [(3, .int ((nI i) + 1)), (2, .int Y.1), (0, .ref 0)]) (st' := []) (L := []) rfl trivial ?_
        rw [nI_1 i]
        have hv := lk1_V (str := str) (a := (p1, h1, d1)) hN (show i < N by omega) hP1 hH1 hW
        simp only [sLk1, if_neg c1, if_neg c2] at hv
        exact ih (i + 1) _ _ _ hv.1 hv.2 (by omega) (by rw [← hf]; simp only [lpN, sLk1, if_neg c1, if_neg c2])
      · refine AW.blk (amX2_pass _) 85 2 (h' := hS th S.1 car wal h1 Y.2.2 rain p1 str S.2.1 Y.2.1 S.2.2 d1 (nI N) q) (pc' := 154) (lv' := [(3, .int (nI i)), (2, .int Y.1), (0, .ref 0)]) (st' := [.int (nI i), .ref 0]) (L := []) rfl trivial ?_
        refine AW.callV (amX2_pass _) 87 (kX2_look th S.1 car wal h1 Y.2.2 rain p1 str S.2.1 Y.2.1 S.2.2 d1 N q i hN (by omega) hP1 hH1 hW) rfl rfl [0, 1, 2, 3, 4, 5, 6, 7, 8, 9, 10, 11, 12, 13] [100, 101, 102] ykX2_look yiX2_look yvX2_look mlX2_96 rfl rfl rfl rfl hR ⟨Nat.le_of_ble_eq_true rfl, Nat.le_of_ble_eq_true rfl, Nat.le_of_ble_eq_true rfl, Nat.le_of_ble_eq_true rfl⟩ rfl rfl rfl rfl rfl (fun _ => rfl) (h1 := hS th S.1 car wal (sSkH (nI i) (nI N) str p1 h1) Y.2.2 rain (sSkP (nI i) (nI N) str wal p1 h1) str S.2.1 Y.2.1 S.2.2 (sSkD (nI i) (nI N) str p1 h1 d1) (nI N) q) rfl (st' := []) rfl ?_
        refine AW.blk (amX2_pass _) 88 2 (h' := hS th S.1 car wal (sSkH (nI i) (nI N) str p1 h1) Y.2.2 rain (sSkP (nI i) (nI N) str wal p1 h1) str S.2.1 Y.2.1 S.2.2 (sSkD (nI i) (nI N) str p1 h1 d1) (nI N) q) (pc' := 133) (lv' := [(3, .int ((nI i) + 1)), (2, .int Y.1), (0, .ref 0)]) (st' := []) (L := []) rfl trivial ?_
        rw [nI_1 i]
        have hv := lk1_V (str := str) (a := (p1, h1, d1)) hN (show i < N by omega) hP1 hH1 hW
        simp only [sLk1, if_neg c1, if_pos c2] at hv
        exact ih (i + 1) _ _ _ hv.1 hv.2 (by omega) (by rw [← hf]; simp only [lpN, sLk1, if_neg c1, if_pos c2])
  have J : AW G (yX2_pass.cls, cX2_pass, 4, 14) (hS th S.1 car wal hol Y.2.2 rain place str S.2.1 Y.2.1 S.2.2 dri (nI N) q) 0 0 131 [(2, .int Y.1), (0, .ref 0)] [] := by
    refine AW.blk (amX2_pass _) 74 2 (h' := hS th S.1 car wal hol Y.2.2 rain place str S.2.1 Y.2.1 S.2.2 dri (nI N) q) (pc' := 133) (lv' := [(3, .int 0), (2, .int Y.1), (0, .ref 0)]) (st' := []) (L := []) rfl trivial ?_
    exact K4 N 0 place hol dri hP hH (by omega) (by rw [hL, sLook, lpS_N _ _ hN (by decide)])
  have P0 : ¬ 6 ≤ w → AW G (yX2_pass.cls, cX2_pass, 4, 14) (hS th S.1 car wal hol paid rain place str S.2.1 pen S.2.2 dri (nI N) q) 0 0 99 [(2, .int 0), (0, .ref 0)] [] := by
    intro h6
    have hY' : lpN (sPy1 (nI N) hol S.1 wal) 9 0 (0, pen, paid) = Y := by rw [hY, sPyQ, if_neg h6, sPay]
    have E : ∀ (y0 : Int32) (y1 y2 : Nat → Int32), (y0, y1, y2) = Y → AW G (yX2_pass.cls, cX2_pass, 4, 14) (hS th S.1 car wal hol y2 rain place str S.2.1 y1 S.2.2 dri (nI N) q) 0 0 131 [(2, .int y0), (0, .ref 0)] [] := by
      intro y0 y1 y2 hf
      rw [← hf] at J
      exact J
    have K : ∀ (k i : Nat) (y0 : Int32) (y1 : Nat → Int32) (y2 : Nat → Int32), i + k = 9 → lpN (sPy1 (nI N) hol S.1 wal) k i (y0, y1, y2) = Y → AW G (yX2_pass.cls, cX2_pass, 4, 14) (hS th S.1 car wal hol y2 rain place str S.2.1 y1 S.2.2 dri (nI N) q) 0 0 101 [(3, .int (nI i)), (2, .int y0), (0, .ref 0)] [] := by
      intro k
      induction k with
      | zero =>
        intro i y0 y1 y2 hi hf
        refine AW.blk (amX2_pass _) 57 2 (h' := hS th S.1 car wal hol y2 rain place str S.2.1 y1 S.2.2 dri (nI N) q) (pc' := 104) (lv' := [(3, .int (nI i)), (2, .int y0), (0, .ref 0)]) (st' := [.int 9, .int (nI i)]) (L := []) rfl trivial ?_
        refine AW.br (amX2_pass _) 59 (tgt := 131) (C := 9 ≤ (nI i)) (C' := ¬ 9 ≤ (nI i)) (st' := []) rfl rfl rfl (fun c1 => ?_) (fun c1 => absurd (nI_le (a := 9) (b := i) (by omega) (by omega)) c1)
        refine AW.pick [1, 2] (lv' := [(2, .int y0), (0, .ref 0)]) rfl ?_
        exact E _ _ _ hf
      | succ k ih =>
        intro i y0 y1 y2 hi hf
        refine AW.blk (amX2_pass _) 57 2 (h' := hS th S.1 car wal hol y2 rain place str S.2.1 y1 S.2.2 dri (nI N) q) (pc' := 104) (lv' := [(3, .int (nI i)), (2, .int y0), (0, .ref 0)]) (st' := [.int 9, .int (nI i)]) (L := []) rfl trivial ?_
        refine AW.br (amX2_pass _) 59 (tgt := 131) (C := 9 ≤ (nI i)) (C' := ¬ 9 ≤ (nI i)) (st' := []) rfl rfl rfl (fun c1 => absurd c1 (nI_ge (a := i) (b := 9) (by omega) (by omega))) (fun c1 => ?_)
        refine AW.blk (amX2_pass _) 60 5 (h' := hS th S.1 car wal hol y2 rain place str S.2.1 y1 S.2.2 dri (nI N) q) (pc' := 114) (lv' := [(3, .int (nI i)), (2, .int y0), (0, .ref 0)]) (st' := [.int ((-1)), .int (hol (nI i).toNatClampNeg)]) (L := [vp_in (nI i) 9]) rfl (vpi (by omega) rfl) ?_
        refine AW.br (amX2_pass _) 65 (tgt := 125) (C := (hol (nI i).toNatClampNeg) = (-1)) (C' := ¬ (hol (nI i).toNatClampNeg) = (-1)) (st' := []) rfl rfl rfl (fun c2 => ?_) (fun c2 => ?_)
        · refine AW.blk (amX2_pass _) 72 2 (h' := hS th S.1 car wal hol y2 rain place str S.2.1 y1 S.2.2 dri (nI N) q) (pc' := 101) (lv' := [(3, .int ((nI i) + 1)), (2, .int y0), (0, .ref 0)]) (st' := []) (L := []) rfl trivial ?_
          rw [nI_1 i]
          exact ih (i + 1) _ _ _ (by omega) (by rw [← hf]; simp only [lpN, sPy1_m hN (show i < 9 by omega) hH, if_neg c1, if_pos c2])
        · refine AW.blk (amX2_pass _) 66 3 (h' := hS th S.1 car wal hol y2 rain place str S.2.1 y1 S.2.2 dri (nI N) q) (pc' := 120) (lv' := [(3, .int (nI i)), (2, .int y0), (0, .ref 0)]) (st' := [.int (nI i), .ref 0, .int y0]) (L := []) rfl trivial ?_
          refine AW.callV (amX2_pass _) 69 (kX2_pay th S.1 car wal hol y2 rain place str S.2.1 y1 S.2.2 dri N q i hN (by omega) hH c2) rfl rfl [0, 1, 2, 3, 4, 5, 6, 7, 8, 9, 10, 11, 12, 13] [100, 101, 102] ykX2_pay yiX2_pay yvX2_pay mlX2_93 rfl rfl rfl rfl hR ⟨Nat.le_of_ble_eq_true rfl, Nat.le_of_ble_eq_true rfl, Nat.le_of_ble_eq_true rfl, Nat.le_of_ble_eq_true rfl⟩ rfl rfl rfl rfl rfl (fun _ => rfl) (h1 := hS th S.1 car wal hol (upd y2 (nI i).toNatClampNeg (y2 (nI i).toNatClampNeg + sWa (nI i) S.1 wal)) rain place str S.2.1 (upd y1 (hol (nI i).toNatClampNeg).toNatClampNeg (y1 (hol (nI i).toNatClampNeg).toNatClampNeg + sWa (nI i) S.1 wal)) S.2.2 dri (nI N) q) rfl (st' := [.int (sWa (nI i) S.1 wal), .int y0]) rfl ?_
          refine AW.blk (amX2_pass _) 70 4 (h' := hS th S.1 car wal hol (upd y2 (nI i).toNatClampNeg (y2 (nI i).toNatClampNeg + sWa (nI i) S.1 wal)) rain place str S.2.1 (upd y1 (hol (nI i).toNatClampNeg).toNatClampNeg (y1 (hol (nI i).toNatClampNeg).toNatClampNeg + sWa (nI i) S.1 wal)) S.2.2 dri (nI N) q) (pc' := 101) (lv' := [(3, .int ((nI i) + 1)), (2, .int (y0 + (sWa (nI i) S.1 wal))), (0, .ref 0)]) (st' := []) (L := []) rfl trivial ?_
          rw [nI_1 i]
          exact ih (i + 1) _ _ _ (by omega) (by rw [← hf]; simp only [lpN, sPy1_m hN (show i < 9 by omega) hH, if_neg c1, if_neg c2])
    refine AW.blk (amX2_pass _) 55 2 (h' := hS th S.1 car wal hol paid rain place str S.2.1 pen S.2.2 dri (nI N) q) (pc' := 101) (lv' := [(3, .int 0), (2, .int 0), (0, .ref 0)]) (st' := []) (L := []) rfl trivial ?_
    exact K 9 0 0 pen paid rfl hY'
  have P1 : ∀ (m1 : Nat → Int32), m1 = sMd w car mud → ¬ 6 ≤ w → AW G (yX2_pass.cls, cX2_pass, 4, 14) (hS th m1 car wal hol paid rain place str bro pen swe dri (nI N) q) 0 0 67 [(2, .int 0), (0, .ref 0)] [] := by
    intro m1 hm1 h6
    have hS2 : lpN (sSw1 (nI N) place hol str) N 0 (m1, bro, swe) = S := by rw [hS', sSwQ, if_neg h6, sSweep, lpS_N _ _ hN (by decide), hm1]
    have E : ∀ (s0 s1 s2 : Nat → Int32), (s0, s1, s2) = S → AW G (yX2_pass.cls, cX2_pass, 4, 14) (hS th s0 car wal hol paid rain place str s1 pen s2 dri (nI N) q) 0 0 99 [(2, .int 0), (0, .ref 0)] [] := by
      intro s0 s1 s2 hf
      have hx := P0 h6
      rw [← hf] at hx
      exact hx
    have K : ∀ (k i : Nat) (s0 : Nat → Int32) (s1 : Nat → Int32) (s2 : Nat → Int32), i + k = N → lpN (sSw1 (nI N) place hol str) k i (s0, s1, s2) = S → AW G (yX2_pass.cls, cX2_pass, 4, 14) (hS th s0 car wal hol paid rain place str s1 pen s2 dri (nI N) q) 0 0 69 [(3, .int (nI i)), (2, .int 0), (0, .ref 0)] [] := by
      intro k
      induction k with
      | zero =>
        intro i s0 s1 s2 hi hf
        refine AW.blk (amX2_pass _) 41 4 (h' := hS th s0 car wal hol paid rain place str s1 pen s2 dri (nI N) q) (pc' := 77) (lv' := [(3, .int (nI i)), (2, .int 0), (0, .ref 0)]) (st' := [.int (nI N), .int (nI i)]) (L := []) rfl trivial ?_
        refine AW.br (amX2_pass _) 45 (tgt := 99) (C := (nI N) ≤ (nI i)) (C' := ¬ (nI N) ≤ (nI i)) (st' := []) rfl rfl rfl (fun c1 => ?_) (fun c1 => absurd (nI_le (a := N) (b := i) (by omega) (by omega)) c1)
        refine AW.pick [1, 2] (lv' := [(2, .int 0), (0, .ref 0)]) rfl ?_
        exact E _ _ _ hf
      | succ k ih =>
        intro i s0 s1 s2 hi hf
        refine AW.blk (amX2_pass _) 41 4 (h' := hS th s0 car wal hol paid rain place str s1 pen s2 dri (nI N) q) (pc' := 77) (lv' := [(3, .int (nI i)), (2, .int 0), (0, .ref 0)]) (st' := [.int (nI N), .int (nI i)]) (L := []) rfl trivial ?_
        refine AW.br (amX2_pass _) 45 (tgt := 99) (C := (nI N) ≤ (nI i)) (C' := ¬ (nI N) ≤ (nI i)) (st' := []) rfl rfl rfl (fun c1 => absurd c1 (nI_ge (a := i) (b := N) (by omega) (by omega))) (fun c1 => ?_)
        refine AW.blk (amX2_pass _) 46 2 (h' := hS th s0 car wal hol paid rain place str s1 pen s2 dri (nI N) q) (pc' := 82) (lv' := [(3, .int (nI i)), (2, .int 0), (0, .ref 0)]) (st' := [.int (nI i), .ref 0]) (L := []) rfl trivial ?_
        refine AW.callV (amX2_pass _) 48 (kX2_holds th s0 car wal hol paid rain place str s1 pen s2 dri N q i hN (by omega) hP) rfl rfl [0, 1, 2, 3, 4, 5, 6, 7, 8, 9, 10, 11, 12, 13] [100, 101, 102] ykX2_holds yiX2_holds yvX2_holds mlX2_85 rfl rfl rfl rfl hR ⟨Nat.le_of_ble_eq_true rfl, Nat.le_of_ble_eq_true rfl, Nat.le_of_ble_eq_true rfl, Nat.le_of_ble_eq_true rfl⟩ rfl rfl rfl rfl rfl (fun _ => rfl) (h1 := hS th s0 car wal hol paid rain place str s1 pen s2 dri (nI N) q) rfl (st' := [.int (sHP (nI i) (nI N) place hol)]) rfl ?_
        refine AW.br (amX2_pass _) 49 (tgt := 93) (C := (sHP (nI i) (nI N) place hol) = 0) (C' := ¬ (sHP (nI i) (nI N) place hol) = 0) (st' := []) rfl rfl rfl (fun c2 => ?_) (fun c2 => ?_)
        · refine AW.blk (amX2_pass _) 53 2 (h' := hS th s0 car wal hol paid rain place str s1 pen s2 dri (nI N) q) (pc' := 69) (lv' := [(3, .int ((nI i) + 1)), (2, .int 0), (0, .ref 0)]) (st' := []) (L := []) rfl trivial ?_
          rw [nI_1 i]
          exact ih (i + 1) _ _ _ (by omega) (by rw [← hf]; simp only [lpN, sSw1_m hN (show i < N by omega) hP, if_neg c1, if_pos c2])
        · refine AW.blk (amX2_pass _) 50 2 (h' := hS th s0 car wal hol paid rain place str s1 pen s2 dri (nI N) q) (pc' := 90) (lv' := [(3, .int (nI i)), (2, .int 0), (0, .ref 0)]) (st' := [.int (nI i), .ref 0]) (L := []) rfl trivial ?_
          refine AW.callV (amX2_pass _) 52 (kX2_sweep th s0 car wal hol paid rain place str s1 pen s2 dri N q i hN (by omega) hP) rfl rfl [0, 1, 2, 3, 4, 5, 6, 7, 8, 9, 10, 11, 12, 13] [100, 101, 102] ykX2_sweep yiX2_sweep yvX2_sweep mlX2_89 rfl rfl rfl rfl hR ⟨Nat.le_of_ble_eq_true rfl, Nat.le_of_ble_eq_true rfl, Nat.le_of_ble_eq_true rfl, Nat.le_of_ble_eq_true rfl⟩ rfl rfl rfl rfl rfl (fun _ => rfl) (h1 := hS th (upd s0 (place (nI i).toNatClampNeg).toNatClampNeg (s0 (place (nI i).toNatClampNeg).toNatClampNeg - imin (s0 (place (nI i).toNatClampNeg).toNatClampNeg) (sRe (nI i) (nI N) str s1))) car wal hol paid rain place str (upd s1 (nI i).toNatClampNeg (imax 0 (s1 (nI i).toNatClampNeg - 1))) pen (upd s2 (nI i).toNatClampNeg (s2 (nI i).toNatClampNeg + imin (s0 (place (nI i).toNatClampNeg).toNatClampNeg) (sRe (nI i) (nI N) str s1))) dri (nI N) q) rfl (st' := []) rfl ?_
          refine AW.blk (amX2_pass _) 53 2 (h' := hS th (upd s0 (place (nI i).toNatClampNeg).toNatClampNeg (s0 (place (nI i).toNatClampNeg).toNatClampNeg - imin (s0 (place (nI i).toNatClampNeg).toNatClampNeg) (sRe (nI i) (nI N) str s1))) car wal hol paid rain place str (upd s1 (nI i).toNatClampNeg (imax 0 (s1 (nI i).toNatClampNeg - 1))) pen (upd s2 (nI i).toNatClampNeg (s2 (nI i).toNatClampNeg + imin (s0 (place (nI i).toNatClampNeg).toNatClampNeg) (sRe (nI i) (nI N) str s1))) dri (nI N) q) (pc' := 69) (lv' := [(3, .int ((nI i) + 1)), (2, .int 0), (0, .ref 0)]) (st' := []) (L := []) rfl trivial ?_
          rw [nI_1 i]
          exact ih (i + 1) _ _ _ (by omega) (by rw [← hf]; simp only [lpN, sSw1_m hN (show i < N by omega) hP, if_neg c1, if_neg c2])
    refine AW.blk (amX2_pass _) 39 2 (h' := hS th m1 car wal hol paid rain place str bro pen swe dri (nI N) q) (pc' := 69) (lv' := [(3, .int 0), (2, .int 0), (0, .ref 0)]) (st' := []) (L := []) rfl trivial ?_
    exact K N 0 m1 bro swe (by omega) hS2
  have E1 : ∀ (m1 : Nat → Int32), m1 = sMd w car mud → AW G (yX2_pass.cls, cX2_pass, 4, 14) (hS th m1 car wal hol paid rain place str bro pen swe dri (nI N) q) 0 0 59 [(1, .int w), (0, .ref 0)] [] := by
    intro m1 hf
    refine AW.blk (amX2_pass _) 34 4 (h' := hS th m1 car wal hol paid rain place str bro pen swe dri (nI N) q) (pc' := 64) (lv' := [(2, .int 0), (1, .int w), (0, .ref 0)]) (st' := [.int 6, .int w]) (L := []) rfl trivial ?_
    refine AW.br (amX2_pass _) 38 (tgt := 131) (C := 6 ≤ w) (C' := ¬ 6 ≤ w) (st' := []) rfl rfl rfl (fun c1 => ?_) (fun c1 => ?_)
    · have hS2 : S = (m1, bro, swe) := by rw [hS', hf, sSwQ, if_pos c1]
      have hY2 : Y = (0, pen, paid) := by rw [hY, sPyQ, if_pos c1]
      rw [hS2, hY2] at J
      refine AW.pick [0, 2] (lv' := [(2, .int 0), (0, .ref 0)]) rfl ?_
      exact J
    · refine AW.pick [0, 2] (lv' := [(2, .int 0), (0, .ref 0)]) rfl ?_
      exact P1 m1 hf c1
  have K1 : ∀ (k i : Nat) (m1 : Nat → Int32), i + k = 9 → lpN (sMd1 w car) k i m1 = sMd w car mud → AW G (yX2_pass.cls, cX2_pass, 4, 14) (hS th m1 car wal hol paid rain place str bro pen swe dri (nI N) q) 0 0 18 [(2, .int (nI i)), (1, .int w), (0, .ref 0)] [] := by
    intro k
    induction k with
    | zero =>
      intro i m1 hi hf
      refine AW.blk (amX2_pass _) 11 2 (h' := hS th m1 car wal hol paid rain place str bro pen swe dri (nI N) q) (pc' := 21) (lv' := [(2, .int (nI i)), (1, .int w), (0, .ref 0)]) (st' := [.int 9, .int (nI i)]) (L := []) rfl trivial ?_
      refine AW.br (amX2_pass _) 13 (tgt := 59) (C := 9 ≤ (nI i)) (C' := ¬ 9 ≤ (nI i)) (st' := []) rfl rfl rfl (fun c1 => ?_) (fun c1 => absurd (nI_le (a := 9) (b := i) (by omega) (by omega)) c1)
      refine AW.pick [1, 2] (lv' := [(1, .int w), (0, .ref 0)]) rfl ?_
      exact E1 _ hf
    | succ k ih =>
      intro i m1 hi hf
      refine AW.blk (amX2_pass _) 11 2 (h' := hS th m1 car wal hol paid rain place str bro pen swe dri (nI N) q) (pc' := 21) (lv' := [(2, .int (nI i)), (1, .int w), (0, .ref 0)]) (st' := [.int 9, .int (nI i)]) (L := []) rfl trivial ?_
      refine AW.br (amX2_pass _) 13 (tgt := 59) (C := 9 ≤ (nI i)) (C' := ¬ 9 ≤ (nI i)) (st' := []) rfl rfl rfl (fun c1 => absurd c1 (nI_ge (a := i) (b := 9) (by omega) (by omega))) (fun c1 => ?_)
      refine AW.blk (amX2_pass _) 14 16 (h' := hS th m1 car wal hol paid rain place str bro pen swe dri (nI N) q) (pc' := 49) (lv' := [(2, .int (nI i)), (1, .int w), (0, .ref 0)]) (st' := [.int (((m1 (nI i).toNatClampNeg) + (car (nI i).toNatClampNeg)) + w), .int 50, .int (nI i), .ref 1]) (L := [vp_in (nI i) 9, vp_in (nI i) 9]) rfl ⟨(vpi (by omega) rfl), (vpi (by omega) rfl)⟩ ?_
      refine AW.mmin (amX2_pass _) 30 rfl kmmX2_61 hR rfl ⟨Nat.le_of_ble_eq_true rfl, Nat.le_of_ble_eq_true rfl, Nat.le_of_ble_eq_true rfl, Nat.le_of_ble_eq_true rfl⟩ ?_
      refine AW.blk (amX2_pass _) 31 3 (h' := hS th (upd m1 (nI i).toNatClampNeg (imin 50 (((m1 (nI i).toNatClampNeg) + (car (nI i).toNatClampNeg)) + w))) car wal hol paid rain place str bro pen swe dri (nI N) q) (pc' := 18) (lv' := [(2, .int ((nI i) + 1)), (1, .int w), (0, .ref 0)]) (st' := []) (L := [vp_in (nI i) 9]) rfl (vpi (by omega) rfl) ?_
      rw [nI_1 i]
      exact ih (i + 1) _ (by omega) (by rw [← hf]; simp only [lpN, sMd1_m (show i < 9 by omega), if_neg c1])
  have hw2 : rain (q - q / 8 * 8).toNatClampNeg = w := by rw [hw, wet_m hq]
  refine AW.blk (amX2_pass _) 0 8 (h' := hS th mud car wal hol paid rain place str bro pen swe dri (nI N) q) (pc' := 15) (lv' := [(0, .ref 0)]) (st' := [.int (rain (q - q / 8 * 8).toNatClampNeg)]) (L := [¬ 8 = 0, vp_in (q - q / 8 * 8) 8]) rfl ⟨(show ¬ (8 : Int32) = 0 by decide), hq⟩ ?_
  rw [hw2]
  refine AW.blk (amX2_pass _) 8 3 (h' := hS th mud car wal hol paid rain place str bro pen swe dri (nI N) q) (pc' := 18) (lv' := [(2, .int 0), (1, .int w), (0, .ref 0)]) (st' := []) (L := []) rfl trivial ?_
  exact K1 9 0 mud rfl rfl
