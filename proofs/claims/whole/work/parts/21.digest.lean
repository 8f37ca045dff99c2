/-! ===== the checksum; a new object ===== -/
theorem sSw_one {n : Int32} {i : Nat} (h : i < 8) (h2 : ¬ n ≤ nI i) : ¬ sSw (nI i) n = 0 := by
  unfold sSw
  rw [if_neg (nI_pos (by omega)), if_neg (show ¬ (8 : Int32) ≤ nI i from nle (N := 8) h rfl), if_neg h2]
  decide
theorem sCr_one {i : Nat} (h : i < 9) : ¬ sCr (nI i) = 0 := by
  unfold sCr
  rw [if_neg (nI_pos (by omega)), if_neg (show ¬ (9 : Int32) ≤ nI i from nle (N := 9) h rfl)]
  decide
def dg1 (g : Nat → Int32) (i : Nat) (d : Int64) : Int64 := d * 31 + (g i).toInt64
def dgG (C : CS) : Nat → Int32 := sGF C.2.2.2.2.2.2.2.2.2.2.2.2.1 C.2.2.2.2.2.2.2.2.2.2.2.2.2 C.1 C.2.2.2.1 C.2.2.2.2.2.2.2.2.2.1 C.2.2.2.2.2.2.2.2.2.2.1 C.2.2.2.2.2.2.2.2.2.2.2.1
def dgC (C : CS) (c : Nat) : Nat → Int32 := sCF (nI c) C.2.2.2.2.2.2.2.2.2.2.2.2.1 C.1 C.2.1 C.2.2.1 C.2.2.2.1 C.2.2.2.2.1 C.2.2.2.2.2.2.1
def dgR (C : CS) (i : Nat) : Int32 := C.2.2.2.2.2.1 (nI i).toNatClampNeg
def dgS (C : CS) (c : Nat) : Nat → Int32 := sSF (nI c) C.2.2.2.2.2.2.2.2.2.2.2.2.1 C.2.2.2.1 C.2.2.2.2.2.2.1 C.2.2.2.2.2.2.2.1 C.2.2.2.2.2.2.2.2.1 C.2.2.2.2.2.2.2.2.2.1 C.2.2.2.2.2.2.2.2.2.2.1 C.2.2.2.2.2.2.2.2.2.2.2.1
def dg2 (C : CS) (c : Nat) (d : Int64) : Int64 := lpN (dg1 (dgC C c)) 6 0 d
def dg4 (C : CS) (c : Nat) (d : Int64) : Int64 := lpN (dg1 (dgS C c)) 8 0 d
def sDig (C : CS) : Int64 := lpS C.2.2.2.2.2.2.2.2.2.2.2.2.1 (dg4 C) 8 0 (lpN (dg1 (dgR C)) 8 0 (lpN (dg2 C) 9 0 (lpN (dg1 (dgG C)) 8 0 1033)))
set_option maxRecDepth 4000 in
set_option maxHeartbeats 2000000 in
theorem kX1_digest (C T : CS) (L : Nat → Int32) : AMet yX1_digest cX1_digest 5 (some .long) { frames := 3, cells := 0, slots := 0, locals := 64 } [.ref 0] (hM C T L) (some (.long (sDig C))) (hM C T L) := by
  refine AMet.of (by decide) rfl ?_
  intro G hR hE hI
  obtain ⟨FA, hFA⟩ : ∃ z, z = sDig C := ⟨_, rfl⟩
  rw [← hFA] at hE
  have E4 : ∀ (d : Int64), d = FA → AW G (yX1_digest.cls, cX1_digest, 5, 28) (hM C T L) 0 0 172 [(1, .long d), (0, .ref 0)] [] := by
    intro d hf
    refine AW.blk (amX1_digest _) 92 1 (h' := hM C T L) (pc' := 173) (lv' := [(1, .long d), (0, .ref 0)]) (st' := [.long d]) (L := []) rfl trivial ?_
    exact AW.lretE (amX1_digest _) 93 hE rfl rfl rfl rfl hf.symm rfl
  obtain ⟨F4, hF4⟩ : ∃ z, z = FA := ⟨_, rfl⟩
  rw [← hF4] at E4
  have K4I : ∀ (c : Nat) (F1 : Int64), c < 8 → ¬ sSw (nI c) C.2.2.2.2.2.2.2.2.2.2.2.2.1 = 0 → (AW G (yX1_digest.cls, cX1_digest, 5, 28) (hM C T L) 0 0 166 [(3, .int (nI c)), (1, .long F1), (0, .ref 0)] []) → ∀ (d0 : Int64), dg4 C c d0 = F1 → AW G (yX1_digest.cls, cX1_digest, 5, 28) (hM C T L) 0 0 132 [(3, .int (nI c)), (1, .long d0), (0, .ref 0)] [] := by
    intro c F1 hc9 hs E81 d0 hb0
    have EI : ∀ (d : Int64), d = F1 → AW G (yX1_digest.cls, cX1_digest, 5, 28) (hM C T L) 0 0 166 [(3, .int (nI c)), (1, .long d), (0, .ref 0)] [] := fun d hb => by rw [hb]; exact E81
    have K : ∀ (k i : Nat) (d : Int64), i + k = 8 → lpN (dg1 (dgS C c)) k i d = F1 → AW G (yX1_digest.cls, cX1_digest, 5, 28) (hM C T L) 0 0 135 [(4, .int (nI i)), (3, .int (nI c)), (1, .long d), (0, .ref 0)] [] := by
      intro k
      induction k with
      | zero =>
        intro i d hi hf
        refine AW.blk (amX1_digest _) 74 2 (h' := hM C T L) (pc' := 139) (lv' := [(4, .int (nI i)), (3, .int (nI c)), (1, .long d), (0, .ref 0)]) (st' := [.int 8, .int (nI i)]) (L := []) rfl trivial ?_
        refine AW.br (amX1_digest _) 76 (tgt := 166) (C := 8 ≤ (nI i)) (C' := ¬ 8 ≤ (nI i)) (st' := []) rfl rfl rfl (fun c1 => ?_) (fun c1 => absurd (nI_le (a := 8) (b := i) (by omega) (by omega)) c1)
        refine AW.pick [1, 2, 3] (lv' := [(3, .int (nI c)), (1, .long d), (0, .ref 0)]) rfl ?_
        exact EI _ hf
      | succ k ih =>
        intro i d hi hf
        refine AW.blk (amX1_digest _) 74 2 (h' := hM C T L) (pc' := 139) (lv' := [(4, .int (nI i)), (3, .int (nI c)), (1, .long d), (0, .ref 0)]) (st' := [.int 8, .int (nI i)]) (L := []) rfl trivial ?_
        refine AW.br (amX1_digest _) 76 (tgt := 166) (C := 8 ≤ (nI i)) (C' := ¬ 8 ≤ (nI i)) (st' := []) rfl rfl rfl (fun c1 => absurd c1 (nI_ge (a := i) (b := 8) (by omega) (by decide))) (fun c1 => ?_)
        refine AW.blk (amX1_digest _) 77 1 (h' := hM C T L) (pc' := 143) (lv' := [(4, .int (nI i)), (3, .int (nI c)), (1, .long d), (0, .ref 0)]) (st' := [.long d]) (L := []) rfl trivial ?_
        refine AW.ldcL (amX1_digest _) 78 31 rfl kcX1_135 ?_
        refine AW.blk (amX1_digest _) 79 5 (h' := hM C T L) (pc' := 154) (lv' := [(4, .int (nI i)), (3, .int (nI c)), (1, .long d), (0, .ref 0)]) (st' := [.int (nI i), .int (nI c), .ref 1, .long (d * 31)]) (L := []) rfl trivial ?_
        refine AW.callVp (amX1_digest _) 84 (kX0_sweeperFact C.1 C.2.1 C.2.2.1 C.2.2.2.1 C.2.2.2.2.1 C.2.2.2.2.2.1 C.2.2.2.2.2.2.1 C.2.2.2.2.2.2.2.1 C.2.2.2.2.2.2.2.2.1 C.2.2.2.2.2.2.2.2.2.1 C.2.2.2.2.2.2.2.2.2.2.1 C.2.2.2.2.2.2.2.2.2.2.2.1 C.2.2.2.2.2.2.2.2.2.2.2.2.1 C.2.2.2.2.2.2.2.2.2.2.2.2.2 (nI c) hs i (by omega)) rfl rfl [1, 2, 3, 4, 5, 6, 7, 8, 9, 10, 11, 12, 13] [] ykX0_sweeperFact yiX0_sweeperFact yvX0_sweeperFact mlX1_96 rfl rfl rfl rfl hR ⟨Nat.le_of_ble_eq_true rfl, Nat.le_of_ble_eq_true rfl, Nat.le_of_ble_eq_true rfl, Nat.le_of_ble_eq_true rfl⟩ rfl rfl rfl rfl rfl (fun _ => rfl) (h1 := hM C T L) rfl (st' := [.int (sSF (nI c) C.2.2.2.2.2.2.2.2.2.2.2.2.1 C.2.2.2.1 C.2.2.2.2.2.2.1 C.2.2.2.2.2.2.2.1 C.2.2.2.2.2.2.2.2.1 C.2.2.2.2.2.2.2.2.2.1 C.2.2.2.2.2.2.2.2.2.2.1 C.2.2.2.2.2.2.2.2.2.2.2.1 i), .long (d * 31)]) rfl ?_
        refine AW.blk (amX1_digest _) 85 5 (h' := hM C T L) (pc' := 135) (lv' := [(4, .int ((nI i) + 1)), (1, .long ((d * 31) + ((sSF (nI c) C.2.2.2.2.2.2.2.2.2.2.2.2.1 C.2.2.2.1 C.2.2.2.2.2.2.1 C.2.2.2.2.2.2.2.1 C.2.2.2.2.2.2.2.2.1 C.2.2.2.2.2.2.2.2.2.1 C.2.2.2.2.2.2.2.2.2.2.1 C.2.2.2.2.2.2.2.2.2.2.2.1 i).toInt64))), (3, .int (nI c)), (0, .ref 0)]) (st' := []) (L := []) rfl trivial ?_
        refine AW.pick [0, 2, 1, 3] (lv' := [(4, .int ((nI i) + 1)), (3, .int (nI c)), (1, .long ((d * 31) + ((sSF (nI c) C.2.2.2.2.2.2.2.2.2.2.2.2.1 C.2.2.2.1 C.2.2.2.2.2.2.1 C.2.2.2.2.2.2.2.1 C.2.2.2.2.2.2.2.2.1 C.2.2.2.2.2.2.2.2.2.1 C.2.2.2.2.2.2.2.2.2.2.1 C.2.2.2.2.2.2.2.2.2.2.2.1 i).toInt64))), (0, .ref 0)]) rfl ?_
        rw [nI_1 i]
        exact ih (i + 1) _ (by omega) (by rw [← hf]; simp only [lpN, dg1, dgS, if_neg c1])
    refine AW.blk (amX1_digest _) 72 2 (h' := hM C T L) (pc' := 135) (lv' := [(4, .int 0), (3, .int (nI c)), (1, .long d0), (0, .ref 0)]) (st' := []) (L := []) rfl trivial ?_
    exact K 8 0 d0 rfl hb0
  have K4O : ∀ (k i : Nat) (d : Int64), i + k = 8 → lpS C.2.2.2.2.2.2.2.2.2.2.2.2.1 (dg4 C) k i d = F4 → AW G (yX1_digest.cls, cX1_digest, 5, 28) (hM C T L) 0 0 115 [(3, .int (nI i)), (1, .long d), (0, .ref 0)] [] := by
    intro k
    induction k with
    | zero =>
      intro i d hi hf
      refine AW.blk (amX1_digest _) 64 2 (h' := hM C T L) (pc' := 118) (lv' := [(3, .int (nI i)), (1, .long d), (0, .ref 0)]) (st' := [.int 8, .int (nI i)]) (L := []) rfl trivial ?_
      refine AW.br (amX1_digest _) 66 (tgt := 172) (C := 8 ≤ (nI i)) (C' := ¬ 8 ≤ (nI i)) (st' := []) rfl rfl rfl (fun c1 => ?_) (fun c1 => absurd (nI_le (a := 8) (b := i) (by omega) (by omega)) c1)
      refine AW.pick [1, 2] (lv' := [(1, .long d), (0, .ref 0)]) rfl ?_
      exact E4 _ hf
    | succ k ih =>
      intro i d hi hf
      refine AW.blk (amX1_digest _) 64 2 (h' := hM C T L) (pc' := 118) (lv' := [(3, .int (nI i)), (1, .long d), (0, .ref 0)]) (st' := [.int 8, .int (nI i)]) (L := []) rfl trivial ?_
      refine AW.br (amX1_digest _) 66 (tgt := 172) (C := 8 ≤ (nI i)) (C' := ¬ 8 ≤ (nI i)) (st' := []) rfl rfl rfl (fun c1 => absurd c1 (nI_ge (a := i) (b := 8) (by omega) (by decide))) (fun c1 => ?_)
      refine AW.blk (amX1_digest _) 67 4 (h' := hM C T L) (pc' := 129) (lv' := [(3, .int (nI i)), (1, .long d), (0, .ref 0)]) (st' := [.int C.2.2.2.2.2.2.2.2.2.2.2.2.1, .int (nI i)]) (L := []) rfl trivial ?_
      refine AW.br (amX1_digest _) 71 (tgt := 172) (C := C.2.2.2.2.2.2.2.2.2.2.2.2.1 ≤ (nI i)) (C' := ¬ C.2.2.2.2.2.2.2.2.2.2.2.2.1 ≤ (nI i)) (st' := []) rfl rfl rfl (fun c2 => ?_) (fun c2 => ?_)
      · refine AW.pick [1, 2] (lv' := [(1, .long d), (0, .ref 0)]) rfl ?_
        exact E4 _ (by rw [← hf]; simp only [lpS, if_neg c1, if_pos c2])
      · refine K4I i _ (by omega) (sSw_one (by omega) c2) ?_ d rfl
        refine AW.blk (amX1_digest _) 90 2 (h' := hM C T L) (pc' := 115) (lv' := [(3, .int ((nI i) + 1)), (1, .long (dg4 C i d)), (0, .ref 0)]) (st' := []) (L := []) rfl trivial ?_
        rw [nI_1 i]
        exact ih (i + 1) _ (by omega) (by rw [← hf]; simp only [lpS, if_neg c2])
  obtain ⟨F3, hF3⟩ : ∃ z, z = lpN (dg1 (dgR C)) 8 0 (lpN (dg2 C) 9 0 (lpN (dg1 (dgG C)) 8 0 1033)) := ⟨_, rfl⟩
  have E3 : ∀ (d : Int64), d = F3 → AW G (yX1_digest.cls, cX1_digest, 5, 28) (hM C T L) 0 0 113 [(1, .long d), (0, .ref 0)] [] := by
    intro d hf
    refine AW.blk (amX1_digest _) 62 2 (h' := hM C T L) (pc' := 115) (lv' := [(3, .int 0), (1, .long d), (0, .ref 0)]) (st' := []) (L := []) rfl trivial ?_
    exact K4O 8 0 d rfl (by rw [hF4, hFA, hf, hF3]; rfl)
  have K3 : ∀ (k i : Nat) (d : Int64), i + k = 8 → lpN (dg1 (dgR C)) k i d = F3 → AW G (yX1_digest.cls, cX1_digest, 5, 28) (hM C T L) 0 0 84 [(3, .int (nI i)), (1, .long d), (0, .ref 0)] [] := by
    intro k
    induction k with
    | zero =>
      intro i d hi hf
      refine AW.blk (amX1_digest _) 46 2 (h' := hM C T L) (pc' := 87) (lv' := [(3, .int (nI i)), (1, .long d), (0, .ref 0)]) (st' := [.int 8, .int (nI i)]) (L := []) rfl trivial ?_
      refine AW.br (amX1_digest _) 48 (tgt := 113) (C := 8 ≤ (nI i)) (C' := ¬ 8 ≤ (nI i)) (st' := []) rfl rfl rfl (fun c1 => ?_) (fun c1 => absurd (nI_le (a := 8) (b := i) (by omega) (by omega)) c1)
      refine AW.pick [1, 2] (lv' := [(1, .long d), (0, .ref 0)]) rfl ?_
      exact E3 _ hf
    | succ k ih =>
      intro i d hi hf
      refine AW.blk (amX1_digest _) 46 2 (h' := hM C T L) (pc' := 87) (lv' := [(3, .int (nI i)), (1, .long d), (0, .ref 0)]) (st' := [.int 8, .int (nI i)]) (L := []) rfl trivial ?_
      refine AW.br (amX1_digest _) 48 (tgt := 113) (C := 8 ≤ (nI i)) (C' := ¬ 8 ≤ (nI i)) (st' := []) rfl rfl rfl (fun c1 => absurd c1 (nI_ge (a := i) (b := 8) (by omega) (by decide))) (fun c1 => ?_)
      refine AW.blk (amX1_digest _) 49 1 (h' := hM C T L) (pc' := 91) (lv' := [(3, .int (nI i)), (1, .long d), (0, .ref 0)]) (st' := [.long d]) (L := []) rfl trivial ?_
      refine AW.ldcL (amX1_digest _) 50 31 rfl kcX1_135 ?_
      refine AW.blk (amX1_digest _) 51 11 (h' := hM C T L) (pc' := 84) (lv' := [(3, .int ((nI i) + 1)), (1, .long ((d * 31) + ((C.2.2.2.2.2.1 (nI i).toNatClampNeg).toInt64))), (0, .ref 0)]) (st' := []) (L := [vp_in (nI i) 8]) rfl (vpi (by omega) rfl) ?_
      rw [nI_1 i]
      exact ih (i + 1) _ (by omega) (by rw [← hf]; simp only [lpN, dg1, dgR, if_neg c1])
  obtain ⟨F2, hF2⟩ : ∃ z, z = lpN (dg2 C) 9 0 (lpN (dg1 (dgG C)) 8 0 1033) := ⟨_, rfl⟩
  have E2 : ∀ (d : Int64), d = F2 → AW G (yX1_digest.cls, cX1_digest, 5, 28) (hM C T L) 0 0 82 [(1, .long d), (0, .ref 0)] [] := by
    intro d hf
    refine AW.blk (amX1_digest _) 44 2 (h' := hM C T L) (pc' := 84) (lv' := [(3, .int 0), (1, .long d), (0, .ref 0)]) (st' := []) (L := []) rfl trivial ?_
    exact K3 8 0 d rfl (by rw [hF3, hf, hF2])
  have K2I : ∀ (c : Nat) (F1 : Int64), c < 9 → (AW G (yX1_digest.cls, cX1_digest, 5, 28) (hM C T L) 0 0 76 [(3, .int (nI c)), (1, .long F1), (0, .ref 0)] []) → ∀ (d0 : Int64), dg2 C c d0 = F1 → AW G (yX1_digest.cls, cX1_digest, 5, 28) (hM C T L) 0 0 42 [(3, .int (nI c)), (1, .long d0), (0, .ref 0)] [] := by
    intro c F1 hc9 E81 d0 hb0
    have EI : ∀ (d : Int64), d = F1 → AW G (yX1_digest.cls, cX1_digest, 5, 28) (hM C T L) 0 0 76 [(3, .int (nI c)), (1, .long d), (0, .ref 0)] [] := fun d hb => by rw [hb]; exact E81
    have K : ∀ (k i : Nat) (d : Int64), i + k = 6 → lpN (dg1 (dgC C c)) k i d = F1 → AW G (yX1_digest.cls, cX1_digest, 5, 28) (hM C T L) 0 0 45 [(4, .int (nI i)), (3, .int (nI c)), (1, .long d), (0, .ref 0)] [] := by
      intro k
      induction k with
      | zero =>
        intro i d hi hf
        refine AW.blk (amX1_digest _) 26 2 (h' := hM C T L) (pc' := 49) (lv' := [(4, .int (nI i)), (3, .int (nI c)), (1, .long d), (0, .ref 0)]) (st' := [.int 6, .int (nI i)]) (L := []) rfl trivial ?_
        refine AW.br (amX1_digest _) 28 (tgt := 76) (C := 6 ≤ (nI i)) (C' := ¬ 6 ≤ (nI i)) (st' := []) rfl rfl rfl (fun c1 => ?_) (fun c1 => absurd (nI_le (a := 6) (b := i) (by omega) (by omega)) c1)
        refine AW.pick [1, 2, 3] (lv' := [(3, .int (nI c)), (1, .long d), (0, .ref 0)]) rfl ?_
        exact EI _ hf
      | succ k ih =>
        intro i d hi hf
        refine AW.blk (amX1_digest _) 26 2 (h' := hM C T L) (pc' := 49) (lv' := [(4, .int (nI i)), (3, .int (nI c)), (1, .long d), (0, .ref 0)]) (st' := [.int 6, .int (nI i)]) (L := []) rfl trivial ?_
        refine AW.br (amX1_digest _) 28 (tgt := 76) (C := 6 ≤ (nI i)) (C' := ¬ 6 ≤ (nI i)) (st' := []) rfl rfl rfl (fun c1 => absurd c1 (nI_ge (a := i) (b := 6) (by omega) (by decide))) (fun c1 => ?_)
        refine AW.blk (amX1_digest _) 29 1 (h' := hM C T L) (pc' := 53) (lv' := [(4, .int (nI i)), (3, .int (nI c)), (1, .long d), (0, .ref 0)]) (st' := [.long d]) (L := []) rfl trivial ?_
        refine AW.ldcL (amX1_digest _) 30 31 rfl kcX1_135 ?_
        refine AW.blk (amX1_digest _) 31 5 (h' := hM C T L) (pc' := 64) (lv' := [(4, .int (nI i)), (3, .int (nI c)), (1, .long d), (0, .ref 0)]) (st' := [.int (nI i), .int (nI c), .ref 1, .long (d * 31)]) (L := []) rfl trivial ?_
        refine AW.callVp (amX1_digest _) 36 (kX0_crossingFact C.1 C.2.1 C.2.2.1 C.2.2.2.1 C.2.2.2.2.1 C.2.2.2.2.2.1 C.2.2.2.2.2.2.1 C.2.2.2.2.2.2.2.1 C.2.2.2.2.2.2.2.2.1 C.2.2.2.2.2.2.2.2.2.1 C.2.2.2.2.2.2.2.2.2.2.1 C.2.2.2.2.2.2.2.2.2.2.2.1 C.2.2.2.2.2.2.2.2.2.2.2.2.1 C.2.2.2.2.2.2.2.2.2.2.2.2.2 (nI c) (sCr_one hc9) i (by omega)) rfl rfl [1, 2, 3, 4, 5, 6, 7, 8, 9, 10, 11, 12, 13] [] ykX0_crossingFact yiX0_crossingFact yvX0_crossingFact mlX1_99 rfl rfl rfl rfl hR ⟨Nat.le_of_ble_eq_true rfl, Nat.le_of_ble_eq_true rfl, Nat.le_of_ble_eq_true rfl, Nat.le_of_ble_eq_true rfl⟩ rfl rfl rfl rfl rfl (fun _ => rfl) (h1 := hM C T L) rfl (st' := [.int (sCF (nI c) C.2.2.2.2.2.2.2.2.2.2.2.2.1 C.1 C.2.1 C.2.2.1 C.2.2.2.1 C.2.2.2.2.1 C.2.2.2.2.2.2.1 i), .long (d * 31)]) rfl ?_
        refine AW.blk (amX1_digest _) 37 5 (h' := hM C T L) (pc' := 45) (lv' := [(4, .int ((nI i) + 1)), (1, .long ((d * 31) + ((sCF (nI c) C.2.2.2.2.2.2.2.2.2.2.2.2.1 C.1 C.2.1 C.2.2.1 C.2.2.2.1 C.2.2.2.2.1 C.2.2.2.2.2.2.1 i).toInt64))), (3, .int (nI c)), (0, .ref 0)]) (st' := []) (L := []) rfl trivial ?_
        refine AW.pick [0, 2, 1, 3] (lv' := [(4, .int ((nI i) + 1)), (3, .int (nI c)), (1, .long ((d * 31) + ((sCF (nI c) C.2.2.2.2.2.2.2.2.2.2.2.2.1 C.1 C.2.1 C.2.2.1 C.2.2.2.1 C.2.2.2.2.1 C.2.2.2.2.2.2.1 i).toInt64))), (0, .ref 0)]) rfl ?_
        rw [nI_1 i]
        exact ih (i + 1) _ (by omega) (by rw [← hf]; simp only [lpN, dg1, dgC, if_neg c1])
    refine AW.blk (amX1_digest _) 24 2 (h' := hM C T L) (pc' := 45) (lv' := [(4, .int 0), (3, .int (nI c)), (1, .long d0), (0, .ref 0)]) (st' := []) (L := []) rfl trivial ?_
    exact K 6 0 d0 rfl hb0
  have K2O : ∀ (k i : Nat) (d : Int64), i + k = 9 → lpN (dg2 C) k i d = F2 → AW G (yX1_digest.cls, cX1_digest, 5, 28) (hM C T L) 0 0 36 [(3, .int (nI i)), (1, .long d), (0, .ref 0)] [] := by
    intro k
    induction k with
    | zero =>
      intro i d hi hf
      refine AW.blk (amX1_digest _) 21 2 (h' := hM C T L) (pc' := 39) (lv' := [(3, .int (nI i)), (1, .long d), (0, .ref 0)]) (st' := [.int 9, .int (nI i)]) (L := []) rfl trivial ?_
      refine AW.br (amX1_digest _) 23 (tgt := 82) (C := 9 ≤ (nI i)) (C' := ¬ 9 ≤ (nI i)) (st' := []) rfl rfl rfl (fun c1 => ?_) (fun c1 => absurd (nI_le (a := 9) (b := i) (by omega) (by omega)) c1)
      refine AW.pick [1, 2] (lv' := [(1, .long d), (0, .ref 0)]) rfl ?_
      exact E2 _ hf
    | succ k ih =>
      intro i d hi hf
      refine AW.blk (amX1_digest _) 21 2 (h' := hM C T L) (pc' := 39) (lv' := [(3, .int (nI i)), (1, .long d), (0, .ref 0)]) (st' := [.int 9, .int (nI i)]) (L := []) rfl trivial ?_
      refine AW.br (amX1_digest _) 23 (tgt := 82) (C := 9 ≤ (nI i)) (C' := ¬ 9 ≤ (nI i)) (st' := []) rfl rfl rfl (fun c1 => absurd c1 (nI_ge (a := i) (b := 9) (by omega) (by decide))) (fun c1 => ?_)
      refine K2I i _ (by omega) ?_ d rfl
      refine AW.blk (amX1_digest _) 42 2 (h' := hM C T L) (pc' := 36) (lv' := [(3, .int ((nI i) + 1)), (1, .long (dg2 C i d)), (0, .ref 0)]) (st' := []) (L := []) rfl trivial ?_
      rw [nI_1 i]
      exact ih (i + 1) _ (by omega) (by rw [← hf]; simp only [lpN])
  obtain ⟨F1, hF1⟩ : ∃ z, z = lpN (dg1 (dgG C)) 8 0 1033 := ⟨_, rfl⟩
  have E1 : ∀ (d : Int64), d = F1 → AW G (yX1_digest.cls, cX1_digest, 5, 28) (hM C T L) 0 0 34 [(1, .long d), (0, .ref 0)] [] := by
    intro d hf
    refine AW.blk (amX1_digest _) 19 2 (h' := hM C T L) (pc' := 36) (lv' := [(3, .int 0), (1, .long d), (0, .ref 0)]) (st' := []) (L := []) rfl trivial ?_
    exact K2O 9 0 d rfl (by rw [hF2, hf, hF1])
  have K1 : ∀ (k i : Nat) (d : Int64), i + k = 8 → lpN (dg1 (dgG C)) k i d = F1 → AW G (yX1_digest.cls, cX1_digest, 5, 28) (hM C T L) 0 0 6 [(3, .int (nI i)), (1, .long d), (0, .ref 0)] [] := by
    intro k
    induction k with
    | zero =>
      intro i d hi hf
      refine AW.blk (amX1_digest _) 4 2 (h' := hM C T L) (pc' := 9) (lv' := [(3, .int (nI i)), (1, .long d), (0, .ref 0)]) (st' := [.int 8, .int (nI i)]) (L := []) rfl trivial ?_
      refine AW.br (amX1_digest _) 6 (tgt := 34) (C := 8 ≤ (nI i)) (C' := ¬ 8 ≤ (nI i)) (st' := []) rfl rfl rfl (fun c1 => ?_) (fun c1 => absurd (nI_le (a := 8) (b := i) (by omega) (by omega)) c1)
      refine AW.pick [1, 2] (lv' := [(1, .long d), (0, .ref 0)]) rfl ?_
      exact E1 _ hf
    | succ k ih =>
      intro i d hi hf
      refine AW.blk (amX1_digest _) 4 2 (h' := hM C T L) (pc' := 9) (lv' := [(3, .int (nI i)), (1, .long d), (0, .ref 0)]) (st' := [.int 8, .int (nI i)]) (L := []) rfl trivial ?_
      refine AW.br (amX1_digest _) 6 (tgt := 34) (C := 8 ≤ (nI i)) (C' := ¬ 8 ≤ (nI i)) (st' := []) rfl rfl rfl (fun c1 => absurd c1 (nI_ge (a := i) (b := 8) (by omega) (by decide))) (fun c1 => ?_)
      refine AW.blk (amX1_digest _) 7 1 (h' := hM C T L) (pc' := 13) (lv' := [(3, .int (nI i)), (1, .long d), (0, .ref 0)]) (st' := [.long d]) (L := []) rfl trivial ?_
      refine AW.ldcL (amX1_digest _) 8 31 rfl kcX1_135 ?_
      refine AW.blk (amX1_digest _) 9 4 (h' := hM C T L) (pc' := 22) (lv' := [(3, .int (nI i)), (1, .long d), (0, .ref 0)]) (st' := [.int (nI i), .ref 1, .long (d * 31)]) (L := []) rfl trivial ?_
      refine AW.callVp (amX1_digest _) 13 (kX0_cityFact C.1 C.2.1 C.2.2.1 C.2.2.2.1 C.2.2.2.2.1 C.2.2.2.2.2.1 C.2.2.2.2.2.2.1 C.2.2.2.2.2.2.2.1 C.2.2.2.2.2.2.2.2.1 C.2.2.2.2.2.2.2.2.2.1 C.2.2.2.2.2.2.2.2.2.2.1 C.2.2.2.2.2.2.2.2.2.2.2.1 C.2.2.2.2.2.2.2.2.2.2.2.2.1 C.2.2.2.2.2.2.2.2.2.2.2.2.2 i (by omega)) rfl rfl [1, 2, 3, 4, 5, 6, 7, 8, 9, 10, 11, 12, 13] [] ykX0_cityFact yiX0_cityFact yvX0_cityFact mlX1_102 rfl rfl rfl rfl hR ⟨Nat.le_of_ble_eq_true rfl, Nat.le_of_ble_eq_true rfl, Nat.le_of_ble_eq_true rfl, Nat.le_of_ble_eq_true rfl⟩ rfl rfl rfl rfl rfl (fun _ => rfl) (h1 := hM C T L) rfl (st' := [.int (sGF C.2.2.2.2.2.2.2.2.2.2.2.2.1 C.2.2.2.2.2.2.2.2.2.2.2.2.2 C.1 C.2.2.2.1 C.2.2.2.2.2.2.2.2.2.1 C.2.2.2.2.2.2.2.2.2.2.1 C.2.2.2.2.2.2.2.2.2.2.2.1 i), .long (d * 31)]) rfl ?_
      refine AW.blk (amX1_digest _) 14 5 (h' := hM C T L) (pc' := 6) (lv' := [(3, .int ((nI i) + 1)), (1, .long ((d * 31) + ((sGF C.2.2.2.2.2.2.2.2.2.2.2.2.1 C.2.2.2.2.2.2.2.2.2.2.2.2.2 C.1 C.2.2.2.1 C.2.2.2.2.2.2.2.2.2.1 C.2.2.2.2.2.2.2.2.2.2.1 C.2.2.2.2.2.2.2.2.2.2.2.1 i).toInt64))), (0, .ref 0)]) (st' := []) (L := []) rfl trivial ?_
      rw [nI_1 i]
      exact ih (i + 1) _ (by omega) (by rw [← hf]; simp only [lpN, dg1, dgG, if_neg c1])
  refine AW.ldcL (amX1_digest _) 0 1033 rfl kcX1_133 ?_
  refine AW.blk (amX1_digest _) 1 3 (h' := hM C T L) (pc' := 6) (lv' := [(3, .int 0), (1, .long 1033), (0, .ref 0)]) (st' := []) (L := []) rfl trivial ?_
  exact K1 8 0 1033 rfl hF1.symm
