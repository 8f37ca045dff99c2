/-! ===== the reference: its state's methods ===== -/
def hS (th : Int32) (mud car wal hol paid rain place str bro pen swe dri : Nat → Int32) (n q : Int32) : aH := [aO 2 [.int q, .ref 1, .ref 2, .ref 3, .ref 4, .ref 5, .ref 6, .ref 7, .ref 8, .ref 9], aI 9 mud, aI 9 hol, aI 9 paid, aI 8 place, aI 8 bro, aI 8 pen, aI 8 swe, aI 8 dri, aO 3 [.int th, .ref 10, .ref 11, .ref 12, .int n, .ref 13, .ref 100, .ref 101, .ref 102], aI 9 car, aI 9 wal, aI 8 rain, aI 8 str]
def vP (N : Nat) (place : Nat → Int32) : Prop := ∀ i, i < N → vp_in (place (nI i).toNatClampNeg) 9
def vH (N : Nat) (hol : Nat → Int32) : Prop := ∀ x : Int32, vp_in x 9 → hol x.toNatClampNeg = -1 ∨ ∃ h, h < N ∧ hol x.toNatClampNeg = nI h
def vW (wal : Nat → Int32) : Prop := ∀ x : Int32, vp_in x 9 → ¬ wal x.toNatClampNeg < 0
theorem swN {N i : Nat} (hN : N ≤ 8) (hi : i < N) : ¬ sSw (nI i) (nI N) = 0 := sSw_one (by omega) (nI_ge hi (by omega))
theorem crV {x : Int32} (h : vp_in x 9) : ¬ sCr x = 0 := by
  obtain ⟨j, hj, rfl⟩ := vp_in_of h (by decide)
  exact sCr_one hj
theorem swM (n : Int32) : sSw (-1) n = 0 := by unfold sSw; rw [if_pos (by decide)]
theorem vHin {N : Nat} {hol : Nat → Int32} {x : Int32} (hN : N ≤ 8) (hH : vH N hol) (hx : vp_in x 9) (hne : ¬ hol x.toNatClampNeg = -1) : vp_in (hol x.toNatClampNeg) 8 := by
  rcases hH x hx with h | ⟨j, hj, h⟩
  · exact absurd h hne
  · rw [h]; exact vpi (by omega) rfl
theorem vHsw {N : Nat} {hol : Nat → Int32} {x : Int32} (hN : N ≤ 8) (hH : vH N hol) (hx : vp_in x 9) (hne : ¬ hol x.toNatClampNeg = -1) : ¬ sSw (hol x.toNatClampNeg) (nI N) = 0 := by
  rcases hH x hx with h | ⟨j, hj, h⟩
  · exact absurd h hne
  · rw [h]; exact swN hN hj
theorem nb_in {x : Int32} (hx : vp_in x 9) : ∀ (d : Nat), d < 4 → sNb x d = -1 ∨ vp_in (sNb x d) 9 := by
  obtain ⟨j, hj, rfl⟩ := vp_in_of hx (by decide)
  have key : ∀ j, j < 9 → ∀ d, d < 4 → sNb (nI j) d = -1 ∨ ∃ k, k < 9 ∧ sNb (nI j) d = nI k := by decide +kernel
  intro d hd
  rcases key j hj d hd with h | ⟨k, hk, h⟩
  · exact Or.inl h
  · exact Or.inr (by rw [h]; exact vpi hk rfl)
set_option maxHeartbeats 2000000 in
theorem kX3_beside_0 (c : Int32) : AMet yX3_beside cX3_beside 2 (some .int) { frames := 0, cells := 0, slots := 0, locals := 0 } [.int c, .int (nI 0)] ([]) (some (.int (sNb c 0))) ([]) := by
  refine AMet.of (by decide) rfl ?_
  intro G hR hE hI
  refine AW.blk (amX3_beside _) 0 1 (h' := []) (pc' := 1) (lv' := [(0, .int c), (1, .int (nI 0))]) (st' := [.int (nI 0)]) (L := []) rfl trivial ?_
  refine AW.br (amX3_beside _) 1 (tgt := 18) (C := ¬ (nI 0) = 0) (C' := (nI 0) = 0) (st' := []) rfl rfl rfl (fun c1 => absurd (show (nI 0 : Int32) = 0 by decide) c1) (fun c1 => ?_)
  refine AW.blk (amX3_beside _) 2 3 (h' := []) (pc' := 7) (lv' := [(0, .int c), (1, .int (nI 0))]) (st' := [.int (c - c / 3 * 3)]) (L := [¬ 3 = 0]) rfl (show ¬ (3 : Int32) = 0 by decide) ?_
  refine AW.br (amX3_beside _) 5 (tgt := 16) (C := (c - c / 3 * 3) ≤ 0) (C' := ¬ (c - c / 3 * 3) ≤ 0) (st' := []) rfl rfl rfl (fun c2 => ?_) (fun c2 => ?_)
  · refine AW.blk (amX3_beside _) 10 1 (h' := []) (pc' := 17) (lv' := [(0, .int c), (1, .int (nI 0))]) (st' := [.int ((-1))]) (L := []) rfl trivial ?_
    exact AW.iretE (amX3_beside _) 11 hE rfl rfl (by first | rfl | exact narrow_b _ (by decide)) rfl rfl (by simp only [sNb, if_pos c1, if_pos c2]) rfl
  · refine AW.blk (amX3_beside _) 6 4 (h' := []) (pc' := 17) (lv' := [(0, .int c), (1, .int (nI 0))]) (st' := [.int (c - 1)]) (L := []) rfl trivial ?_
    exact AW.iretE (amX3_beside _) 11 hE rfl rfl (by first | rfl | exact narrow_b _ (by decide)) rfl rfl (by simp only [sNb, if_pos c1, if_neg c2]) rfl
set_option maxHeartbeats 2000000 in
theorem kX3_beside_1 (c : Int32) : AMet yX3_beside cX3_beside 2 (some .int) { frames := 0, cells := 0, slots := 0, locals := 0 } [.int c, .int (nI 1)] ([]) (some (.int (sNb c 1))) ([]) := by
  refine AMet.of (by decide) rfl ?_
  intro G hR hE hI
  refine AW.blk (amX3_beside _) 0 1 (h' := []) (pc' := 1) (lv' := [(0, .int c), (1, .int (nI 1))]) (st' := [.int (nI 1)]) (L := []) rfl trivial ?_
  refine AW.br (amX3_beside _) 1 (tgt := 18) (C := ¬ (nI 1) = 0) (C' := (nI 1) = 0) (st' := []) rfl rfl rfl (fun c1 => ?_) (fun c1 => absurd c1 (show ¬ (nI 1 : Int32) = 0 by decide))
  refine AW.blk (amX3_beside _) 12 2 (h' := []) (pc' := 20) (lv' := [(0, .int c), (1, .int (nI 1))]) (st' := [.int 1, .int (nI 1)]) (L := []) rfl trivial ?_
  refine AW.br (amX3_beside _) 14 (tgt := 38) (C := ¬ (nI 1) = 1) (C' := (nI 1) = 1) (st' := []) rfl rfl rfl (fun c2 => absurd (show (nI 1 : Int32) = 1 by decide) c2) (fun c2 => ?_)
  refine AW.blk (amX3_beside _) 15 4 (h' := []) (pc' := 27) (lv' := [(0, .int c), (1, .int (nI 1))]) (st' := [.int 2, .int (c - c / 3 * 3)]) (L := [¬ 3 = 0]) rfl (show ¬ (3 : Int32) = 0 by decide) ?_
  refine AW.br (amX3_beside _) 19 (tgt := 36) (C := 2 ≤ (c - c / 3 * 3)) (C' := ¬ 2 ≤ (c - c / 3 * 3)) (st' := []) rfl rfl rfl (fun c3 => ?_) (fun c3 => ?_)
  · refine AW.blk (amX3_beside _) 24 1 (h' := []) (pc' := 37) (lv' := [(0, .int c), (1, .int (nI 1))]) (st' := [.int ((-1))]) (L := []) rfl trivial ?_
    exact AW.iretE (amX3_beside _) 25 hE rfl rfl (by first | rfl | exact narrow_b _ (by decide)) rfl rfl (by simp only [sNb, if_neg c1, if_pos c2, if_pos c3]) rfl
  · refine AW.blk (amX3_beside _) 20 4 (h' := []) (pc' := 37) (lv' := [(0, .int c), (1, .int (nI 1))]) (st' := [.int (c + 1)]) (L := []) rfl trivial ?_
    exact AW.iretE (amX3_beside _) 25 hE rfl rfl (by first | rfl | exact narrow_b _ (by decide)) rfl rfl (by simp only [sNb, if_neg c1, if_pos c2, if_neg c3]) rfl
set_option maxHeartbeats 2000000 in
theorem kX3_beside_2 (c : Int32) : AMet yX3_beside cX3_beside 2 (some .int) { frames := 0, cells := 0, slots := 0, locals := 0 } [.int c, .int (nI 2)] ([]) (some (.int (sNb c 2))) ([]) := by
  refine AMet.of (by decide) rfl ?_
  intro G hR hE hI
  refine AW.blk (amX3_beside _) 0 1 (h' := []) (pc' := 1) (lv' := [(0, .int c), (1, .int (nI 2))]) (st' := [.int (nI 2)]) (L := []) rfl trivial ?_
  refine AW.br (amX3_beside _) 1 (tgt := 18) (C := ¬ (nI 2) = 0) (C' := (nI 2) = 0) (st' := []) rfl rfl rfl (fun c1 => ?_) (fun c1 => absurd c1 (show ¬ (nI 2 : Int32) = 0 by decide))
  refine AW.blk (amX3_beside _) 12 2 (h' := []) (pc' := 20) (lv' := [(0, .int c), (1, .int (nI 2))]) (st' := [.int 1, .int (nI 2)]) (L := []) rfl trivial ?_
  refine AW.br (amX3_beside _) 14 (tgt := 38) (C := ¬ (nI 2) = 1) (C' := (nI 2) = 1) (st' := []) rfl rfl rfl (fun c2 => ?_) (fun c2 => absurd c2 (show ¬ (nI 2 : Int32) = 1 by decide))
  refine AW.blk (amX3_beside _) 26 2 (h' := []) (pc' := 40) (lv' := [(0, .int c), (1, .int (nI 2))]) (st' := [.int 2, .int (nI 2)]) (L := []) rfl trivial ?_
  refine AW.br (amX3_beside _) 28 (tgt := 58) (C := ¬ (nI 2) = 2) (C' := (nI 2) = 2) (st' := []) rfl rfl rfl (fun c3 => absurd (show (nI 2 : Int32) = 2 by decide) c3) (fun c3 => ?_)
  refine AW.blk (amX3_beside _) 29 2 (h' := []) (pc' := 45) (lv' := [(0, .int c), (1, .int (nI 2))]) (st' := [.int 3, .int c]) (L := []) rfl trivial ?_
  refine AW.br (amX3_beside _) 31 (tgt := 54) (C := c < 3) (C' := ¬ c < 3) (st' := []) rfl rfl rfl (fun c4 => ?_) (fun c4 => ?_)
  · refine AW.blk (amX3_beside _) 36 2 (h' := []) (pc' := 71) (lv' := [(0, .int c), (1, .int (nI 2))]) (st' := [.int ((-1))]) (L := []) rfl trivial ?_
    exact AW.iretE (amX3_beside _) 46 hE rfl rfl (by first | rfl | exact narrow_b _ (by decide)) rfl rfl (by simp only [sNb, if_neg c1, if_neg c2, if_pos c3, if_pos c4]) rfl
  · refine AW.blk (amX3_beside _) 32 4 (h' := []) (pc' := 71) (lv' := [(0, .int c), (1, .int (nI 2))]) (st' := [.int (c - 3)]) (L := []) rfl trivial ?_
    exact AW.iretE (amX3_beside _) 46 hE rfl rfl (by first | rfl | exact narrow_b _ (by decide)) rfl rfl (by simp only [sNb, if_neg c1, if_neg c2, if_pos c3, if_neg c4]) rfl
set_option maxHeartbeats 2000000 in
theorem kX3_beside_3 (c : Int32) : AMet yX3_beside cX3_beside 2 (some .int) { frames := 0, cells := 0, slots := 0, locals := 0 } [.int c, .int (nI 3)] ([]) (some (.int (sNb c 3))) ([]) := by
  refine AMet.of (by decide) rfl ?_
  intro G hR hE hI
  refine AW.blk (amX3_beside _) 0 1 (h' := []) (pc' := 1) (lv' := [(0, .int c), (1, .int (nI 3))]) (st' := [.int (nI 3)]) (L := []) rfl trivial ?_
  refine AW.br (amX3_beside _) 1 (tgt := 18) (C := ¬ (nI 3) = 0) (C' := (nI 3) = 0) (st' := []) rfl rfl rfl (fun c1 => ?_) (fun c1 => absurd c1 (show ¬ (nI 3 : Int32) = 0 by decide))
  refine AW.blk (amX3_beside _) 12 2 (h' := []) (pc' := 20) (lv' := [(0, .int c), (1, .int (nI 3))]) (st' := [.int 1, .int (nI 3)]) (L := []) rfl trivial ?_
  refine AW.br (amX3_beside _) 14 (tgt := 38) (C := ¬ (nI 3) = 1) (C' := (nI 3) = 1) (st' := []) rfl rfl rfl (fun c2 => ?_) (fun c2 => absurd c2 (show ¬ (nI 3 : Int32) = 1 by decide))
  refine AW.blk (amX3_beside _) 26 2 (h' := []) (pc' := 40) (lv' := [(0, .int c), (1, .int (nI 3))]) (st' := [.int 2, .int (nI 3)]) (L := []) rfl trivial ?_
  refine AW.br (amX3_beside _) 28 (tgt := 58) (C := ¬ (nI 3) = 2) (C' := (nI 3) = 2) (st' := []) rfl rfl rfl (fun c3 => ?_) (fun c3 => absurd c3 (show ¬ (nI 3 : Int32) = 2 by decide))
  refine AW.blk (amX3_beside _) 38 2 (h' := []) (pc' := 61) (lv' := [(0, .int c), (1, .int (nI 3))]) (st' := [.int 6, .int c]) (L := []) rfl trivial ?_
  refine AW.br (amX3_beside _) 40 (tgt := 70) (C := 6 ≤ c) (C' := ¬ 6 ≤ c) (st' := []) rfl rfl rfl (fun c4 => ?_) (fun c4 => ?_)
  · refine AW.blk (amX3_beside _) 45 1 (h' := []) (pc' := 71) (lv' := [(0, .int c), (1, .int (nI 3))]) (st' := [.int ((-1))]) (L := []) rfl trivial ?_
    exact AW.iretE (amX3_beside _) 46 hE rfl rfl (by first | rfl | exact narrow_b _ (by decide)) rfl rfl (by simp only [sNb, if_neg c1, if_neg c2, if_neg c3, if_pos c4]) rfl
  · refine AW.blk (amX3_beside _) 41 4 (h' := []) (pc' := 71) (lv' := [(0, .int c), (1, .int (nI 3))]) (st' := [.int (c + 3)]) (L := []) rfl trivial ?_
    exact AW.iretE (amX3_beside _) 46 hE rfl rfl (by first | rfl | exact narrow_b _ (by decide)) rfl rfl (by simp only [sNb, if_neg c1, if_neg c2, if_neg c3, if_neg c4]) rfl
theorem kX3_beside (c : Int32) : ∀ (d : Nat), d < 4 → AMet yX3_beside cX3_beside 2 (some .int) { frames := 0, cells := 0, slots := 0, locals := 0 } [.int c, .int (nI d)] [] (some (.int (sNb c d))) []
  | 0, _ => kX3_beside_0 c
  | 1, _ => kX3_beside_1 c
  | 2, _ => kX3_beside_2 c
  | 3, _ => kX3_beside_3 c
  | n + 4, h => absurd h (by omega)
def hG (th n : Int32) (wal : Nat → Int32) : aH := [aO 3 [.int th, .ref 103, .ref 1, .ref 104, .int n, .ref 105, .ref 100, .ref 101, .ref 102], aI 9 wal]
def mGo1 (x : Int32) (wal : Nat → Int32) (d : Nat) (b : Int32) : Int32 := if sNb x d = -1 then b else if b = -1 then sNb x d else if wal (sNb x d).toNatClampNeg ≤ wal b.toNatClampNeg then b else sNb x d
def mGo (x : Int32) (wal : Nat → Int32) : Int32 := lpN (mGo1 x wal) 4 0 (-1)
theorem mGo1_in {x b : Int32} {wal : Nat → Int32} {d : Nat} (hx : vp_in x 9) (hd : d < 4) (hb : b = -1 ∨ vp_in b 9) : mGo1 x wal d b = -1 ∨ vp_in (mGo1 x wal d b) 9 := by
  unfold mGo1
  split
  · exact hb
  · rename_i h
    have h2 := (nb_in hx d hd).resolve_left h
    split
    · exact Or.inr h2
    · split
      · exact hb
      · exact Or.inr h2
set_option maxHeartbeats 2000000 in
theorem kX3_goesTo (th n : Int32) (wal : Nat → Int32) (x : Int32) (hx : vp_in x 9) : AMet yX3_goesTo cX3_goesTo 5 (some .int) { frames := 1, cells := 0, slots := 0, locals := 21 } [.ref 0, .int x] (hG th n wal) (some (.int (mGo x wal))) (hG th n wal) := by
  refine AMet.of (by decide) rfl ?_
  intro G hR hE hI
  have E : ∀ (b : Int32), b = mGo x wal → AW G (yX3_goesTo.cls, cX3_goesTo, 5, 2) (hG th n wal) 0 0 52 [(2, .int b), (0, .ref 0)] [] := by
    intro b hf
    refine AW.blk (amX3_goesTo _) 30 1 (h' := hG th n wal) (pc' := 53) (lv' := [(2, .int b), (0, .ref 0)]) (st' := [.int b]) (L := []) rfl trivial ?_
    exact AW.iretE (amX3_goesTo _) 31 hE rfl rfl (by first | rfl | exact narrow_b _ (by decide)) rfl rfl (by rw [← hf]) (by first | rfl | (rw [← hf]))
  have K : ∀ (k i : Nat) (b : Int32), (b = -1 ∨ vp_in b 9) → i + k = 4 → lpN (mGo1 x wal) k i b = mGo x wal → AW G (yX3_goesTo.cls, cX3_goesTo, 5, 2) (hG th n wal) 0 0 4 [(3, .int (nI i)), (1, .int x), (2, .int b), (0, .ref 0)] [] := by
    intro k
    induction k with
    | zero =>
      intro i b hb hi hf
      refine AW.blk (amX3_goesTo _) 4 2 (h' := hG th n wal) (pc' := 6) (lv' := [(3, .int (nI i)), (1, .int x), (2, .int b), (0, .ref 0)]) (st' := [.int 4, .int (nI i)]) (L := []) rfl trivial ?_
      refine AW.br (amX3_goesTo _) 6 (tgt := 52) (C := 4 ≤ (nI i)) (C' := ¬ 4 ≤ (nI i)) (st' := []) rfl rfl rfl (fun c1 => ?_) (fun c1 => absurd (nI_le (a := 4) (b := i) (by omega) (by omega)) c1)
      refine AW.pick [2, 3] (lv' := [(2, .int b), (0, .ref 0)]) rfl ?_
      exact E _ hf
    | succ k ih =>
      intro i b hb hi hf
      refine AW.blk (amX3_goesTo _) 4 2 (h' := hG th n wal) (pc' := 6) (lv' := [(3, .int (nI i)), (1, .int x), (2, .int b), (0, .ref 0)]) (st' := [.int 4, .int (nI i)]) (L := []) rfl trivial ?_
      refine AW.br (amX3_goesTo _) 6 (tgt := 52) (C := 4 ≤ (nI i)) (C' := ¬ 4 ≤ (nI i)) (st' := []) rfl rfl rfl (fun c1 => absurd c1 (nI_ge (a := i) (b := 4) (by omega) (by decide))) (fun c1 => ?_)
      refine AW.blk (amX3_goesTo _) 7 2 (h' := hG th n wal) (pc' := 11) (lv' := [(3, .int (nI i)), (1, .int x), (2, .int b), (0, .ref 0)]) (st' := [.int (nI i), .int x]) (L := []) rfl trivial ?_
      refine AW.callS (amX3_goesTo _) 9 (kX3_beside x i (by omega)) [] [] ykX3_beside ysX3_beside mlX3_51 rfl rfl rfl rfl hR ⟨Nat.le_of_ble_eq_true rfl, Nat.le_of_ble_eq_true rfl, Nat.le_of_ble_eq_true rfl, Nat.le_of_ble_eq_true rfl⟩ rfl rfl rfl rfl rfl (fun _ => rfl) (h1 := hG th n wal) rfl (st' := [.int (sNb x i)]) rfl ?_
      refine AW.blk (amX3_goesTo _) 10 3 (h' := hG th n wal) (pc' := 19) (lv' := [(4, .int (sNb x i)), (3, .int (nI i)), (1, .int x), (2, .int b), (0, .ref 0)]) (st' := [.int ((-1)), .int (sNb x i)]) (L := []) rfl trivial ?_
      refine AW.br (amX3_goesTo _) 13 (tgt := 46) (C := (sNb x i) = (-1)) (C' := ¬ (sNb x i) = (-1)) (st' := []) rfl rfl rfl (fun c2 => ?_) (fun c2 => ?_)
      · refine AW.blk (amX3_goesTo _) 28 2 (h' := hG th n wal) (pc' := 4) (lv' := [(3, .int ((nI i) + 1)), (4, .int (sNb x i)), (1, .int x), (2, .int b), (0, .ref 0)]) (st' := []) (L := []) rfl trivial ?_
        refine AW.pick [0, 2, 3, 4] (lv' := [(3, .int ((nI i) + 1)), (1, .int x), (2, .int b), (0, .ref 0)]) rfl ?_
        rw [nI_1 i]
        have hs := mGo1_in (wal := wal) hx (show i < 4 by omega) hb
        have hf2 : lpN (mGo1 x wal) k (i + 1) (mGo1 x wal i b) = mGo x wal := hf
        simp only [mGo1, if_neg c1, if_pos c2] at hs hf2
        exact ih (i + 1) _ hs (by omega) hf2
      · refine AW.blk (amX3_goesTo _) 14 2 (h' := hG th n wal) (pc' := 24) (lv' := [(4, .int (sNb x i)), (3, .int (nI i)), (1, .int x), (2, .int b), (0, .ref 0)]) (st' := [.int ((-1)), .int b]) (L := []) rfl trivial ?_
        refine AW.br (amX3_goesTo _) 16 (tgt := 43) (C := b = (-1)) (C' := ¬ b = (-1)) (st' := []) rfl rfl rfl (fun c3 => ?_) (fun c3 => ?_)
        · refine AW.blk (amX3_goesTo _) 26 4 (h' := hG th n wal) (pc' := 4) (lv' := [(3, .int ((nI i) + 1)), (2, .int (sNb x i)), (4, .int (sNb x i)), (1, .int x), (0, .ref 0)]) (st' := []) (L := []) rfl trivial ?_
          refine AW.pick [0, 3, 1, 4] (lv' := [(3, .int ((nI i) + 1)), (1, .int x), (2, .int (sNb x i)), (0, .ref 0)]) rfl ?_
          rw [nI_1 i]
          have hs := mGo1_in (wal := wal) hx (show i < 4 by omega) hb
          have hf2 : lpN (mGo1 x wal) k (i + 1) (mGo1 x wal i b) = mGo x wal := hf
          simp only [mGo1, if_neg c1, if_neg c2, if_pos c3] at hs hf2
          exact ih (i + 1) _ hs (by omega) hf2
        · refine AW.blk (amX3_goesTo _) 17 8 (h' := hG th n wal) (pc' := 40) (lv' := [(4, .int (sNb x i)), (3, .int (nI i)), (1, .int x), (2, .int b), (0, .ref 0)]) (st' := [.int (wal b.toNatClampNeg), .int (wal (sNb x i).toNatClampNeg)]) (L := [vp_in (sNb x i) 9, vp_in b 9]) rfl ⟨((nb_in hx i (by omega)).resolve_left c2), (hb.resolve_left c3)⟩ ?_
          refine AW.br (amX3_goesTo _) 25 (tgt := 46) (C := (wal (sNb x i).toNatClampNeg) ≤ (wal b.toNatClampNeg)) (C' := ¬ (wal (sNb x i).toNatClampNeg) ≤ (wal b.toNatClampNeg)) (st' := []) rfl rfl rfl (fun c4 => ?_) (fun c4 => ?_)
          · refine AW.blk (amX3_goesTo _) 28 2 (h' := hG th n wal) (pc' := 4) (lv' := [(3, .int ((nI i) + 1)), (4, .int (sNb x i)), (1, .int x), (2, .int b), (0, .ref 0)]) (st' := []) (L := []) rfl trivial ?_
            refine AW.pick [0, 2, 3, 4] (lv' := [(3, .int ((nI i) + 1)), (1, .int x), (2, .int b), (0, .ref 0)]) rfl ?_
            rw [nI_1 i]
            have hs := mGo1_in (wal := wal) hx (show i < 4 by omega) hb
            have hf2 : lpN (mGo1 x wal) k (i + 1) (mGo1 x wal i b) = mGo x wal := hf
            simp only [mGo1, if_neg c1, if_neg c2, if_neg c3, if_pos c4] at hs hf2
            exact ih (i + 1) _ hs (by omega) hf2
          · refine AW.blk (amX3_goesTo _) 26 4 (h' := hG th n wal) (pc' := 4) (lv' := [(3, .int ((nI i) + 1)), (2, .int (sNb x i)), (4, .int (sNb x i)), (1, .int x), (0, .ref 0)]) (st' := []) (L := []) rfl trivial ?_
            refine AW.pick [0, 3, 1, 4] (lv' := [(3, .int ((nI i) + 1)), (1, .int x), (2, .int (sNb x i)), (0, .ref 0)]) rfl ?_
            rw [nI_1 i]
            have hs := mGo1_in (wal := wal) hx (show i < 4 by omega) hb
            have hf2 : lpN (mGo1 x wal) k (i + 1) (mGo1 x wal i b) = mGo x wal := hf
            simp only [mGo1, if_neg c1, if_neg c2, if_neg c3, if_neg c4] at hs hf2
            exact ih (i + 1) _ hs (by omega) hf2
  refine AW.blk (amX3_goesTo _) 0 4 (h' := hG th n wal) (pc' := 4) (lv' := [(3, .int 0), (2, .int ((-1))), (0, .ref 0), (1, .int x)]) (st' := []) (L := []) rfl trivial ?_
  refine AW.pick [0, 3, 1, 2] (lv' := [(3, .int 0), (1, .int x), (2, .int ((-1))), (0, .ref 0)]) rfl ?_
  exact K 4 0 (-1) (Or.inl rfl) rfl rfl
