/-! ===== ways, what would be, the checksum ===== -/
def sWy1 (mud : Nat → Int32) (c d : Nat) (L : Nat → Int32) : Nat → Int32 := if sCr (sNb (nI c) d) = 0 then L else if L (nI c).toNatClampNeg ≤ L (sNb (nI c) d).toNatClampNeg + mud (nI c).toNatClampNeg then L else upd L (nI c).toNatClampNeg (L (sNb (nI c) d).toNatClampNeg + mud (nI c).toNatClampNeg)
def sWyC (mud : Nat → Int32) (c : Nat) (L : Nat → Int32) : Nat → Int32 := lpN (sWy1 mud c) 4 0 L
def sShort (mud L : Nat → Int32) : Nat → Int32 := lpN (sWyC mud) 9 0 L
set_option maxHeartbeats 2000000 in
theorem kX1_shortenWays (C T : CS) (L : Nat → Int32) : AMet yX1_shortenWays cX1_shortenWays 4 none { frames := 1, cells := 0, slots := 0, locals := 21 } [.ref 0] (hM C T L) none (hM C T (sShort C.1 L)) := by
  refine AMet.of (by decide) rfl ?_
  intro G hR hE hI
  have E : ∀ (a : Nat → Int32), a = sShort C.1 L → AW G (yX1_shortenWays.cls, cX1_shortenWays, 4, 28) (hM C T a) 0 0 87 [(0, .ref 0)] [] := by
    intro a hf
    exact AW.vretE (amX1_shortenWays _) 50 hE rfl rfl rfl rfl (by rw [← hf])
  have KI : ∀ (c : Nat) (F1 : Nat → Int32), c < 9 → (AW G (yX1_shortenWays.cls, cX1_shortenWays, 4, 28) (hM C T F1) 0 0 81 [(1, .int (nI c)), (0, .ref 0)] []) → ∀ (b : Nat → Int32), sWyC C.1 c b = F1 → AW G (yX1_shortenWays.cls, cX1_shortenWays, 4, 28) (hM C T b) 0 0 8 [(1, .int (nI c)), (0, .ref 0)] [] := by
    intro c F1 hc9 E81 b0 hb0
    have EI : ∀ (b : Nat → Int32), b = F1 → AW G (yX1_shortenWays.cls, cX1_shortenWays, 4, 28) (hM C T b) 0 0 81 [(1, .int (nI c)), (0, .ref 0)] [] := fun b hb => by rw [hb]; exact E81
    have K : ∀ (k i : Nat) (b : Nat → Int32), i + k = 4 → lpN (sWy1 C.1 c) k i b = F1 → AW G (yX1_shortenWays.cls, cX1_shortenWays, 4, 28) (hM C T b) 0 0 10 [(2, .int (nI i)), (1, .int (nI c)), (0, .ref 0)] [] := by
      intro k
      induction k with
      | zero =>
        intro i b hi hf
        refine AW.blk (amX1_shortenWays _) 7 2 (h' := hM C T b) (pc' := 12) (lv' := [(2, .int (nI i)), (1, .int (nI c)), (0, .ref 0)]) (st' := [.int 4, .int (nI i)]) (L := []) rfl trivial ?_
        refine AW.br (amX1_shortenWays _) 9 (tgt := 81) (C := 4 ≤ (nI i)) (C' := ¬ 4 ≤ (nI i)) (st' := []) rfl rfl rfl (fun c1 => ?_) (fun c1 => absurd (nI_le (a := 4) (b := i) (by omega) (by omega)) c1)
        refine AW.pick [1, 2] (lv' := [(1, .int (nI c)), (0, .ref 0)]) rfl ?_
        exact EI _ hf
      | succ k ih =>
        intro i b hi hf
        refine AW.blk (amX1_shortenWays _) 7 2 (h' := hM C T b) (pc' := 12) (lv' := [(2, .int (nI i)), (1, .int (nI c)), (0, .ref 0)]) (st' := [.int 4, .int (nI i)]) (L := []) rfl trivial ?_
        refine AW.br (amX1_shortenWays _) 9 (tgt := 81) (C := 4 ≤ (nI i)) (C' := ¬ 4 ≤ (nI i)) (st' := []) rfl rfl rfl (fun c1 => absurd c1 (nI_ge (a := i) (b := 4) (by omega) (by decide))) (fun c1 => ?_)
        refine AW.blk (amX1_shortenWays _) 10 2 (h' := hM C T b) (pc' := 17) (lv' := [(2, .int (nI i)), (1, .int (nI c)), (0, .ref 0)]) (st' := [.int (nI i), .int (nI c)]) (L := []) rfl trivial ?_
        refine AW.callSp (amX1_shortenWays _) 12 (kX1_neighbour (nI c) i (by omega)) [] [] ykX1_neighbour ysX1_neighbour mlX1_152 rfl rfl rfl rfl hR ⟨Nat.le_of_ble_eq_true rfl, Nat.le_of_ble_eq_true rfl, Nat.le_of_ble_eq_true rfl, Nat.le_of_ble_eq_true rfl⟩ rfl rfl rfl rfl rfl (fun _ => rfl) (h1 := hM C T b) rfl (st' := [.int (sNb (nI c) i)]) rfl ?_
        refine AW.blk (amX1_shortenWays _) 13 2 (h' := hM C T b) (pc' := 22) (lv' := [(3, .int (sNb (nI c) i)), (2, .int (nI i)), (1, .int (nI c)), (0, .ref 0)]) (st' := [.int (sNb (nI c) i)]) (L := []) rfl trivial ?_
        refine AW.callSp (amX1_shortenWays _) 15 (kX1_isCrossing (sNb (nI c) i)) [] [] ykX1_isCrossing ysX1_isCrossing mlX1_137 rfl rfl rfl rfl hR ⟨Nat.le_of_ble_eq_true rfl, Nat.le_of_ble_eq_true rfl, Nat.le_of_ble_eq_true rfl, Nat.le_of_ble_eq_true rfl⟩ rfl rfl rfl rfl rfl (fun _ => rfl) (h1 := hM C T b) rfl (st' := [.int (sCr (sNb (nI c) i))]) rfl ?_
        refine AW.br (amX1_shortenWays _) 16 (tgt := 75) (C := (sCr (sNb (nI c) i)) = 0) (C' := ¬ (sCr (sNb (nI c) i)) = 0) (st' := []) rfl rfl rfl (fun c2 => ?_) (fun c2 => ?_)
        · refine AW.blk (amX1_shortenWays _) 46 2 (h' := hM C T b) (pc' := 10) (lv' := [(2, .int ((nI i) + 1)), (3, .int (sNb (nI c) i)), (1, .int (nI c)), (0, .ref 0)]) (st' := []) (L := []) rfl trivial ?_
          refine AW.pick [0, 2, 3] (lv' := [(2, .int ((nI i) + 1)), (1, .int (nI c)), (0, .ref 0)]) rfl ?_
          rw [nI_1 i]
          exact ih (i + 1) _ (by omega) (by rw [← hf]; simp only [lpN, sWy1, if_neg c1, if_pos c2])
        · refine AW.blk (amX1_shortenWays _) 17 14 (h' := hM C T b) (pc' := 50) (lv' := [(3, .int (sNb (nI c) i)), (2, .int (nI i)), (1, .int (nI c)), (0, .ref 0)]) (st' := [.int (b (nI c).toNatClampNeg), .int ((b (sNb (nI c) i).toNatClampNeg) + (C.1 (nI c).toNatClampNeg))]) (L := [vp_in (sNb (nI c) i) 9, vp_in (nI c) 9, vp_in (nI c) 9]) rfl ⟨(sCr_in c2), (vpi (by omega) rfl), (vpi (by omega) rfl)⟩ ?_
          refine AW.br (amX1_shortenWays _) 31 (tgt := 75) (C := (b (nI c).toNatClampNeg) ≤ ((b (sNb (nI c) i).toNatClampNeg) + (C.1 (nI c).toNatClampNeg))) (C' := ¬ (b (nI c).toNatClampNeg) ≤ ((b (sNb (nI c) i).toNatClampNeg) + (C.1 (nI c).toNatClampNeg))) (st' := []) rfl rfl rfl (fun c3 => ?_) (fun c3 => ?_)
          · refine AW.blk (amX1_shortenWays _) 46 2 (h' := hM C T b) (pc' := 10) (lv' := [(2, .int ((nI i) + 1)), (3, .int (sNb (nI c) i)), (1, .int (nI c)), (0, .ref 0)]) (st' := []) (L := []) rfl trivial ?_
            refine AW.pick [0, 2, 3] (lv' := [(2, .int ((nI i) + 1)), (1, .int (nI c)), (0, .ref 0)]) rfl ?_
            rw [nI_1 i]
            exact ih (i + 1) _ (by omega) (by rw [← hf]; simp only [lpN, sWy1, if_neg c1, if_neg c2, if_pos c3])
          · refine AW.blk (amX1_shortenWays _) 32 16 (h' := hM C T (upd b (nI c).toNatClampNeg ((b (sNb (nI c) i).toNatClampNeg) + (C.1 (nI c).toNatClampNeg)))) (pc' := 10) (lv' := [(2, .int ((nI i) + 1)), (3, .int (sNb (nI c) i)), (1, .int (nI c)), (0, .ref 0)]) (st' := []) (L := [vp_in (sNb (nI c) i) 9, vp_in (nI c) 9, vp_in (nI c) 9]) rfl ⟨(sCr_in c2), (vpi (by omega) rfl), (vpi (by omega) rfl)⟩ ?_
            refine AW.pick [0, 2, 3] (lv' := [(2, .int ((nI i) + 1)), (1, .int (nI c)), (0, .ref 0)]) rfl ?_
            rw [nI_1 i]
            exact ih (i + 1) _ (by omega) (by rw [← hf]; simp only [lpN, sWy1, if_neg c1, if_neg c2, if_neg c3])
    refine AW.blk (amX1_shortenWays _) 5 2 (h' := hM C T b0) (pc' := 10) (lv' := [(2, .int 0), (1, .int (nI c)), (0, .ref 0)]) (st' := []) (L := []) rfl trivial ?_
    exact K 4 0 b0 rfl hb0
  have KO : ∀ (k i : Nat) (a : Nat → Int32), i + k = 9 → lpN (sWyC C.1) k i a = sShort C.1 L → AW G (yX1_shortenWays.cls, cX1_shortenWays, 4, 28) (hM C T a) 0 0 2 [(1, .int (nI i)), (0, .ref 0)] [] := by
    intro k
    induction k with
    | zero =>
      intro i a hi hf
      refine AW.blk (amX1_shortenWays _) 2 2 (h' := hM C T a) (pc' := 5) (lv' := [(1, .int (nI i)), (0, .ref 0)]) (st' := [.int 9, .int (nI i)]) (L := []) rfl trivial ?_
      refine AW.br (amX1_shortenWays _) 4 (tgt := 87) (C := 9 ≤ (nI i)) (C' := ¬ 9 ≤ (nI i)) (st' := []) rfl rfl rfl (fun c1 => ?_) (fun c1 => absurd (nI_le (a := 9) (b := i) (by omega) (by omega)) c1)
      refine AW.pick [1] (lv' := [(0, .ref 0)]) rfl ?_
      exact E _ hf
    | succ k ih =>
      intro i a hi hf
      refine AW.blk (amX1_shortenWays _) 2 2 (h' := hM C T a) (pc' := 5) (lv' := [(1, .int (nI i)), (0, .ref 0)]) (st' := [.int 9, .int (nI i)]) (L := []) rfl trivial ?_
      refine AW.br (amX1_shortenWays _) 4 (tgt := 87) (C := 9 ≤ (nI i)) (C' := ¬ 9 ≤ (nI i)) (st' := []) rfl rfl rfl (fun c1 => absurd c1 (nI_ge (a := i) (b := 9) (by omega) (by decide))) (fun c1 => ?_)
      refine KI i _ (by omega) ?_ a rfl
      refine AW.blk (amX1_shortenWays _) 48 2 (h' := hM C T (sWyC C.1 i a)) (pc' := 2) (lv' := [(1, .int ((nI i) + 1)), (0, .ref 0)]) (st' := []) (L := []) rfl trivial ?_
      rw [nI_1 i]
      exact ih (i + 1) _ (by omega) (by rw [← hf]; simp only [lpN])
  refine AW.blk (amX1_shortenWays _) 0 2 (h' := hM C T L) (pc' := 2) (lv' := [(1, .int 0), (0, .ref 0)]) (st' := []) (L := []) rfl trivial ?_
  exact KO 9 0 L rfl rfl
def sW0 (i : Nat) (L : Nat → Int32) : Nat → Int32 := upd L (nI i).toNatClampNeg 1000000
def sWay0 (a : Int32) (mud L : Nat → Int32) : Nat → Int32 := upd (lpN sW0 9 0 L) a.toNatClampNeg (mud a.toNatClampNeg)
def sWayR (mud : Nat → Int32) (_ : Nat) (L : Nat → Int32) : Nat → Int32 := sShort mud L
def sWay (a : Int32) (mud L : Nat → Int32) : Nat → Int32 := lpN (sWayR mud) 8 1 (sWay0 a mud L)
set_option maxHeartbeats 2000000 in
theorem kX1_way (C T : CS) (L : Nat → Int32) (a b : Int32) (ha : ¬ sCr a = 0) (hb : ¬ sCr b = 0) : AMet yX1_way cX1_way 4 (some .int) { frames := 2, cells := 0, slots := 0, locals := 60 } [.ref 0, .int a, .int b] (hM C T L) (some (.int (sWay a C.1 L b.toNatClampNeg))) (hM C T (sWay a C.1 L)) := by
  refine AMet.of (by decide) rfl ?_
  intro G hR hE hI
  have E : ∀ (z : Nat → Int32), z = sWay a C.1 L → AW G (yX1_way.cls, cX1_way, 4, 28) (hM C T z) 0 0 63 [(2, .int b), (0, .ref 0)] [] := by
    intro z hf
    refine AW.blk (amX1_way _) 34 4 (h' := hM C T z) (pc' := 69) (lv' := [(2, .int b), (0, .ref 0)]) (st' := [.int (z b.toNatClampNeg)]) (L := [vp_in b 9]) rfl (sCr_in hb) ?_
    exact AW.iretE (amX1_way _) 38 hE rfl rfl (by first | rfl | exact narrow_b _ (by decide)) rfl rfl (by rw [← hf]) (by first | rfl | (rw [← hf]))
  have K2 : ∀ (k i : Nat) (z : Nat → Int32), i + k = 9 → lpN (sWayR C.1) k i z = sWay a C.1 L → AW G (yX1_way.cls, cX1_way, 4, 28) (hM C T z) 0 0 47 [(3, .int (nI i)), (2, .int b), (0, .ref 0)] [] := by
    intro k
    induction k with
    | zero =>
      intro i z hi hf
      refine AW.blk (amX1_way _) 27 2 (h' := hM C T z) (pc' := 50) (lv' := [(3, .int (nI i)), (2, .int b), (0, .ref 0)]) (st' := [.int 9, .int (nI i)]) (L := []) rfl trivial ?_
      refine AW.br (amX1_way _) 29 (tgt := 63) (C := 9 ≤ (nI i)) (C' := ¬ 9 ≤ (nI i)) (st' := []) rfl rfl rfl (fun c1 => ?_) (fun c1 => absurd (nI_le (a := 9) (b := i) (by omega) (by omega)) c1)
      refine AW.pick [1, 2] (lv' := [(2, .int b), (0, .ref 0)]) rfl ?_
      exact E _ hf
    | succ k ih =>
      intro i z hi hf
      refine AW.blk (amX1_way _) 27 2 (h' := hM C T z) (pc' := 50) (lv' := [(3, .int (nI i)), (2, .int b), (0, .ref 0)]) (st' := [.int 9, .int (nI i)]) (L := []) rfl trivial ?_
      refine AW.br (amX1_way _) 29 (tgt := 63) (C := 9 ≤ (nI i)) (C' := ¬ 9 ≤ (nI i)) (st' := []) rfl rfl rfl (fun c1 => absurd c1 (nI_ge (a := i) (b := 9) (by omega) (by decide))) (fun c1 => ?_)
      refine AW.blk (amX1_way _) 30 1 (h' := hM C T z) (pc' := 54) (lv' := [(3, .int (nI i)), (2, .int b), (0, .ref 0)]) (st' := [.ref 0]) (L := []) rfl trivial ?_
      refine AW.callVp (amX1_way _) 31 (kX1_shortenWays C T z) rfl rfl [0, 1, 2, 3, 4, 5, 6, 7, 8, 9, 10, 11, 12, 13, 14, 15, 16, 17, 18, 19, 20, 21, 22, 23, 24, 25, 26, 27] [] ykX1_shortenWays yiX1_shortenWays yvX1_shortenWays mlX1_113 rfl rfl rfl rfl hR ⟨Nat.le_of_ble_eq_true rfl, Nat.le_of_ble_eq_true rfl, Nat.le_of_ble_eq_true rfl, Nat.le_of_ble_eq_true rfl⟩ rfl rfl rfl rfl rfl (fun _ => rfl) (h1 := hM C T (sShort C.1 z)) rfl (st' := []) rfl ?_
      refine AW.blk (amX1_way _) 32 2 (h' := hM C T (sShort C.1 z)) (pc' := 47) (lv' := [(3, .int ((nI i) + 1)), (2, .int b), (0, .ref 0)]) (st' := []) (L := []) rfl trivial ?_
      rw [nI_1 i]
      exact ih (i + 1) _ (by omega) (by rw [← hf]; simp only [lpN, sWayR, if_neg c1])
  have E1 : ∀ (z : Nat → Int32), z = lpN sW0 9 0 L → AW G (yX1_way.cls, cX1_way, 4, 28) (hM C T z) 0 0 30 [(1, .int a), (2, .int b), (0, .ref 0)] [] := by
    intro z hf
    refine AW.blk (amX1_way _) 16 11 (h' := hM C T (upd z a.toNatClampNeg (C.1 a.toNatClampNeg))) (pc' := 47) (lv' := [(3, .int 1), (1, .int a), (2, .int b), (0, .ref 0)]) (st' := []) (L := [vp_in a 9, vp_in a 9]) rfl ⟨(sCr_in ha), (sCr_in ha)⟩ ?_
    refine AW.pick [0, 2, 3] (lv' := [(3, .int 1), (2, .int b), (0, .ref 0)]) rfl ?_
    exact K2 8 1 _ rfl (by rw [hf]; rfl)
  have K1 : ∀ (k i : Nat) (z : Nat → Int32), i + k = 9 → lpN sW0 k i z = lpN sW0 9 0 L → AW G (yX1_way.cls, cX1_way, 4, 28) (hM C T z) 0 0 10 [(3, .int (nI i)), (1, .int a), (2, .int b), (0, .ref 0)] [] := by
    intro k
    induction k with
    | zero =>
      intro i z hi hf
      refine AW.blk (amX1_way _) 6 2 (h' := hM C T z) (pc' := 13) (lv' := [(3, .int (nI i)), (1, .int a), (2, .int b), (0, .ref 0)]) (st' := [.int 9, .int (nI i)]) (L := []) rfl trivial ?_
      refine AW.br (amX1_way _) 8 (tgt := 30) (C := 9 ≤ (nI i)) (C' := ¬ 9 ≤ (nI i)) (st' := []) rfl rfl rfl (fun c1 => ?_) (fun c1 => absurd (nI_le (a := 9) (b := i) (by omega) (by omega)) c1)
      refine AW.pick [1, 2, 3] (lv' := [(1, .int a), (2, .int b), (0, .ref 0)]) rfl ?_
      exact E1 _ hf
    | succ k ih =>
      intro i z hi hf
      refine AW.blk (amX1_way _) 6 2 (h' := hM C T z) (pc' := 13) (lv' := [(3, .int (nI i)), (1, .int a), (2, .int b), (0, .ref 0)]) (st' := [.int 9, .int (nI i)]) (L := []) rfl trivial ?_
      refine AW.br (amX1_way _) 8 (tgt := 30) (C := 9 ≤ (nI i)) (C' := ¬ 9 ≤ (nI i)) (st' := []) rfl rfl rfl (fun c1 => absurd c1 (nI_ge (a := i) (b := 9) (by omega) (by decide))) (fun c1 => ?_)
      refine AW.blk (amX1_way _) 9 3 (h' := hM C T z) (pc' := 21) (lv' := [(3, .int (nI i)), (1, .int a), (2, .int b), (0, .ref 0)]) (st' := [.int (nI i), .ref 27]) (L := []) rfl trivial ?_
      refine AW.ldcI (amX1_way _) 12 1000000 rfl kcX1_112 ?_
      refine AW.blk (amX1_way _) 13 3 (h' := hM C T (upd z (nI i).toNatClampNeg 1000000)) (pc' := 10) (lv' := [(3, .int ((nI i) + 1)), (1, .int a), (2, .int b), (0, .ref 0)]) (st' := []) (L := [vp_in (nI i) 9]) rfl (vpi (by omega) rfl) ?_
      rw [nI_1 i]
      exact ih (i + 1) _ (by omega) (by rw [← hf]; simp only [lpN, sW0, if_neg c1])
  refine AW.blk (amX1_way _) 0 1 (h' := hM C T L) (pc' := 1) (lv' := [(0, .ref 0), (1, .int a), (2, .int b)]) (st' := [.int a]) (L := []) rfl trivial ?_
  refine AW.callSp (amX1_way _) 1 (kX1_needCrossing a ha) [] [] ykX1_needCrossing ysX1_needCrossing mlX1_23 rfl rfl rfl rfl hR ⟨Nat.le_of_ble_eq_true rfl, Nat.le_of_ble_eq_true rfl, Nat.le_of_ble_eq_true rfl, Nat.le_of_ble_eq_true rfl⟩ rfl rfl rfl rfl rfl (fun _ => rfl) (h1 := hM C T L) rfl (st' := []) rfl ?_
  refine AW.blk (amX1_way _) 2 1 (h' := hM C T L) (pc' := 5) (lv' := [(0, .ref 0), (1, .int a), (2, .int b)]) (st' := [.int b]) (L := []) rfl trivial ?_
  refine AW.callSp (amX1_way _) 3 (kX1_needCrossing b hb) [] [] ykX1_needCrossing ysX1_needCrossing mlX1_23 rfl rfl rfl rfl hR ⟨Nat.le_of_ble_eq_true rfl, Nat.le_of_ble_eq_true rfl, Nat.le_of_ble_eq_true rfl, Nat.le_of_ble_eq_true rfl⟩ rfl rfl rfl rfl rfl (fun _ => rfl) (h1 := hM C T L) rfl (st' := []) rfl ?_
  refine AW.blk (amX1_way _) 4 2 (h' := hM C T L) (pc' := 10) (lv' := [(3, .int 0), (0, .ref 0), (1, .int a), (2, .int b)]) (st' := []) (L := []) rfl trivial ?_
  refine AW.pick [0, 2, 3, 1] (lv' := [(3, .int 0), (1, .int a), (2, .int b), (0, .ref 0)]) rfl ?_
  exact K1 9 0 L rfl rfl
def cMove (s c : Int32) (C : CS) : CS := (C.1, C.2.1, C.2.2.1, sMoH s C.2.2.2.2.2.2.2.2.2.2.2.2.1 C.2.2.2.2.2.2.1 C.2.2.2.1, C.2.2.2.2.1, C.2.2.2.2.2.1, sMoP s c C.2.2.2.2.2.2.2.2.2.2.2.2.1 C.2.2.2.2.2.2.1, C.2.2.2.2.2.2.2)
def sEaC (s c : Int32) (C : CS) : CS := if sCr c = 0 then C else cMove s c C
def sEa (s c t : Int32) (C : CS) : Int32 × CS := ((sLive t (sEaC s c C)).2.2.2.2.2.2.2.2.2.2.1 s.toNatClampNeg - (sEaC s c C).2.2.2.2.2.2.2.2.2.1 s.toNatClampNeg, (sLive t (sEaC s c C)).2)
set_option maxHeartbeats 2000000 in
theorem kX1_earned (C T : CS) (L : Nat → Int32) (s c t : Int32) (hs : ¬ sSw s C.2.2.2.2.2.2.2.2.2.2.2.2.1 = 0) : AMet yX1_earned cX1_earned 5 (some .int) { frames := 5, cells := 0, slots := 0, locals := 116 } [.ref 0, .int s, .int c, .int t] (hM C T L) (some (.int (sEa s c t C).1)) (hM C (sEa s c t C).2 L) := by
  refine AMet.of (by decide) rfl ?_
  intro G hR hE hI
  have J : ∀ (D : CS), D = sEaC s c C → AW G (yX1_earned.cls, cX1_earned, 5, 28) (hM C D L) 0 0 40 [(3, .int t), (1, .int s), (0, .ref 0)] [] := by
    intro D hD
    refine AW.blk (amX1_earned _) 20 9 (h' := hM C D L) (pc' := 56) (lv' := [(4, .int (D.2.2.2.2.2.2.2.2.2.1 s.toNatClampNeg)), (3, .int t), (1, .int s), (0, .ref 0)]) (st' := [.int t, .ref 14]) (L := [vp_in s 8]) rfl (sSw_in hs) ?_
    refine AW.callVp (amX1_earned _) 29 (kX0_live D t) rfl rfl [14, 15, 16, 17, 18, 19, 20, 21, 22, 23, 24, 25, 26] [] ykX0_live yiX0_live yvX0_live mlX1_109 rfl rfl rfl rfl hR ⟨Nat.le_of_ble_eq_true rfl, Nat.le_of_ble_eq_true rfl, Nat.le_of_ble_eq_true rfl, Nat.le_of_ble_eq_true rfl⟩ rfl rfl rfl rfl rfl (fun _ => rfl) (h1 := hM C ((sLive t D).2) L) rfl (st' := [.int ((sLive t D).1)]) rfl ?_
    refine AW.blk (amX1_earned _) 30 8 (h' := hM C ((sLive t D).2) L) (pc' := 72) (lv' := [(4, .int (D.2.2.2.2.2.2.2.2.2.1 s.toNatClampNeg)), (3, .int t), (1, .int s), (0, .ref 0)]) (st' := [.int ((((sLive t D).2.2.2.2.2.2.2.2.2.2.1) s.toNatClampNeg) - (D.2.2.2.2.2.2.2.2.2.1 s.toNatClampNeg))]) (L := [vp_in s 8]) rfl (sSw_in hs) ?_
    exact AW.iretE (amX1_earned _) 38 hE rfl rfl rfl rfl rfl (by rw [hD]; rfl) (by rw [hD]; rfl)
  refine AW.blk (amX1_earned _) 0 3 (h' := hM C T L) (pc' := 5) (lv' := [(0, .ref 0), (1, .int s), (2, .int c), (3, .int t)]) (st' := [.int s, .ref 1]) (L := []) rfl trivial ?_
  refine AW.callVp (amX1_earned _) 3 (kX0_isSweeper C.1 C.2.1 C.2.2.1 C.2.2.2.1 C.2.2.2.2.1 C.2.2.2.2.2.1 C.2.2.2.2.2.2.1 C.2.2.2.2.2.2.2.1 C.2.2.2.2.2.2.2.2.1 C.2.2.2.2.2.2.2.2.2.1 C.2.2.2.2.2.2.2.2.2.2.1 C.2.2.2.2.2.2.2.2.2.2.2.1 C.2.2.2.2.2.2.2.2.2.2.2.2.1 C.2.2.2.2.2.2.2.2.2.2.2.2.2 s) rfl rfl [1, 2, 3, 4, 5, 6, 7, 8, 9, 10, 11, 12, 13] [] ykX0_isSweeper yiX0_isSweeper yvX0_isSweeper mlX1_143 rfl rfl rfl rfl hR ⟨Nat.le_of_ble_eq_true rfl, Nat.le_of_ble_eq_true rfl, Nat.le_of_ble_eq_true rfl, Nat.le_of_ble_eq_true rfl⟩ rfl rfl rfl rfl rfl (fun _ => rfl) (h1 := hM C T L) rfl (st' := [.int (sSw s C.2.2.2.2.2.2.2.2.2.2.2.2.1)]) rfl ?_
  refine AW.br (amX1_earned _) 4 (tgt := 13) (C := ¬ (sSw s C.2.2.2.2.2.2.2.2.2.2.2.2.1) = 0) (C' := (sSw s C.2.2.2.2.2.2.2.2.2.2.2.2.1) = 0) (st' := []) rfl rfl rfl (fun c1 => ?_) (fun c1 => absurd c1 hs)
  refine AW.blk (amX1_earned _) 7 4 (h' := hM C T L) (pc' := 21) (lv' := [(0, .ref 0), (1, .int s), (2, .int c), (3, .int t)]) (st' := [.ref 1, .ref 14]) (L := []) rfl trivial ?_
  refine AW.callVp (amX1_earned _) 11 (kX0_copyFrom T C) rfl rfl [14, 15, 16, 17, 18, 19, 20, 21, 22, 23, 24, 25, 26, 1, 2, 3, 4, 5, 6, 7, 8, 9, 10, 11, 12, 13] [] ykX0_copyFrom yiX0_copyFrom yvX0_copyFrom mlX1_120 rfl rfl rfl rfl hR ⟨Nat.le_of_ble_eq_true rfl, Nat.le_of_ble_eq_true rfl, Nat.le_of_ble_eq_true rfl, Nat.le_of_ble_eq_true rfl⟩ rfl rfl rfl rfl rfl (fun _ => rfl) (h1 := hM C C L) rfl (st' := []) rfl ?_
  refine AW.blk (amX1_earned _) 12 1 (h' := hM C C L) (pc' := 25) (lv' := [(0, .ref 0), (1, .int s), (2, .int c), (3, .int t)]) (st' := [.int c]) (L := []) rfl trivial ?_
  refine AW.callSp (amX1_earned _) 13 (kX1_isCrossing c) [] [] ykX1_isCrossing ysX1_isCrossing mlX1_137 rfl rfl rfl rfl hR ⟨Nat.le_of_ble_eq_true rfl, Nat.le_of_ble_eq_true rfl, Nat.le_of_ble_eq_true rfl, Nat.le_of_ble_eq_true rfl⟩ rfl rfl rfl rfl rfl (fun _ => rfl) (h1 := hM C C L) rfl (st' := [.int (sCr c)]) rfl ?_
  refine AW.br (amX1_earned _) 14 (tgt := 40) (C := (sCr c) = 0) (C' := ¬ (sCr c) = 0) (st' := []) rfl rfl rfl (fun c2 => ?_) (fun c2 => ?_)
  · refine AW.pick [3, 1, 0] (lv' := [(3, .int t), (1, .int s), (0, .ref 0)]) rfl ?_
    exact J _ (by rw [sEaC, if_pos c2])
  · refine AW.blk (amX1_earned _) 15 4 (h' := hM C C L) (pc' := 37) (lv' := [(0, .ref 0), (1, .int s), (2, .int c), (3, .int t)]) (st' := [.int c, .int s, .ref 14]) (L := []) rfl trivial ?_
    refine AW.callVp (amX1_earned _) 19 (kX0_moveTo C.1 C.2.1 C.2.2.1 C.2.2.2.1 C.2.2.2.2.1 C.2.2.2.2.2.1 C.2.2.2.2.2.2.1 C.2.2.2.2.2.2.2.1 C.2.2.2.2.2.2.2.2.1 C.2.2.2.2.2.2.2.2.2.1 C.2.2.2.2.2.2.2.2.2.2.1 C.2.2.2.2.2.2.2.2.2.2.2.1 C.2.2.2.2.2.2.2.2.2.2.2.2.1 C.2.2.2.2.2.2.2.2.2.2.2.2.2 s c) rfl rfl [14, 15, 16, 17, 18, 19, 20, 21, 22, 23, 24, 25, 26] [] ykX0_moveTo yiX0_moveTo yvX0_moveTo mlX1_82 rfl rfl rfl rfl hR ⟨Nat.le_of_ble_eq_true rfl, Nat.le_of_ble_eq_true rfl, Nat.le_of_ble_eq_true rfl, Nat.le_of_ble_eq_true rfl⟩ rfl rfl rfl rfl rfl (fun _ => rfl) (h1 := hM C (C.1, C.2.1, C.2.2.1, sMoH s C.2.2.2.2.2.2.2.2.2.2.2.2.1 C.2.2.2.2.2.2.1 C.2.2.2.1, C.2.2.2.2.1, C.2.2.2.2.2.1, sMoP s c C.2.2.2.2.2.2.2.2.2.2.2.2.1 C.2.2.2.2.2.2.1, C.2.2.2.2.2.2.2.1, C.2.2.2.2.2.2.2.2.1, C.2.2.2.2.2.2.2.2.2.1, C.2.2.2.2.2.2.2.2.2.2.1, C.2.2.2.2.2.2.2.2.2.2.2.1, C.2.2.2.2.2.2.2.2.2.2.2.2.1, C.2.2.2.2.2.2.2.2.2.2.2.2.2) L) rfl (st' := []) rfl ?_
    refine AW.pick [3, 1, 0] (lv' := [(3, .int t), (1, .int s), (0, .ref 0)]) rfl ?_
    exact J _ (by rw [sEaC, if_neg c2]; rfl)
set_option maxHeartbeats 2000000 in
theorem kX1_earns (C T : CS) (L : Nat → Int32) (s t : Int32) (hs : ¬ sSw s C.2.2.2.2.2.2.2.2.2.2.2.2.1 = 0) (h1 : ¬ t < 1) (h2 : t ≤ 96) : AMet yX1_earns cX1_earns 3 (some .int) { frames := 6, cells := 0, slots := 0, locals := 140 } [.ref 0, .int s, .int t] (hM C T L) (some (.int (sEa s (-1) t C).1)) (hM C (sEa s (-1) t C).2 L) := by
  refine AMet.of (by decide) rfl ?_
  intro G hR hE hI
  refine AW.blk (amX1_earns _) 0 2 (h' := hM C T L) (pc' := 2) (lv' := [(0, .ref 0), (1, .int s), (2, .int t)]) (st' := [.int s, .ref 0]) (L := []) rfl trivial ?_
  refine AW.callVp (amX1_earns _) 2 (kX1_needSweeper C T L s hs) rfl rfl [0, 1, 2, 3, 4, 5, 6, 7, 8, 9, 10, 11, 12, 13, 14, 15, 16, 17, 18, 19, 20, 21, 22, 23, 24, 25, 26, 27] [] ykX1_needSweeper yiX1_needSweeper yvX1_needSweeper mlX1_76 rfl rfl rfl rfl hR ⟨Nat.le_of_ble_eq_true rfl, Nat.le_of_ble_eq_true rfl, Nat.le_of_ble_eq_true rfl, Nat.le_of_ble_eq_true rfl⟩ rfl rfl rfl rfl rfl (fun _ => rfl) (h1 := hM C T L) rfl (st' := []) rfl ?_
  refine AW.blk (amX1_earns _) 3 1 (h' := hM C T L) (pc' := 6) (lv' := [(0, .ref 0), (1, .int s), (2, .int t)]) (st' := [.int t]) (L := []) rfl trivial ?_
  refine AW.callSp (amX1_earns _) 4 (kX1_needQuarters t h1 h2) [] [] ykX1_needQuarters ysX1_needQuarters mlX1_106 rfl rfl rfl rfl hR ⟨Nat.le_of_ble_eq_true rfl, Nat.le_of_ble_eq_true rfl, Nat.le_of_ble_eq_true rfl, Nat.le_of_ble_eq_true rfl⟩ rfl rfl rfl rfl rfl (fun _ => rfl) (h1 := hM C T L) rfl (st' := []) rfl ?_
  refine AW.blk (amX1_earns _) 5 4 (h' := hM C T L) (pc' := 13) (lv' := [(0, .ref 0), (1, .int s), (2, .int t)]) (st' := [.int t, .int ((-1)), .int s, .ref 0]) (L := []) rfl trivial ?_
  refine AW.callVp (amX1_earns _) 9 (kX1_earned C T L s (-1) t hs) rfl rfl [0, 1, 2, 3, 4, 5, 6, 7, 8, 9, 10, 11, 12, 13, 14, 15, 16, 17, 18, 19, 20, 21, 22, 23, 24, 25, 26, 27] [] ykX1_earned yiX1_earned yvX1_earned mlX1_116 rfl rfl rfl rfl hR ⟨Nat.le_of_ble_eq_true rfl, Nat.le_of_ble_eq_true rfl, Nat.le_of_ble_eq_true rfl, Nat.le_of_ble_eq_true rfl⟩ rfl rfl rfl rfl rfl (fun _ => rfl) (h1 := hM C ((sEa s (-1) t C).2) L) rfl (st' := [.int ((sEa s (-1) t C).1)]) rfl ?_
  exact AW.iretE (amX1_earns _) 10 hE rfl rfl (by first | rfl | exact narrow_b _ (by decide)) rfl rfl (rfl) rfl
def sAd1 (s t : Int32) (C : CS) (i : Nat) (a : Int32 × Int32 × CS) : Int32 × Int32 × CS := if (sEa s (nI i) t C).1 ≤ a.2.1 then (a.1, a.2.1, (sEa s (nI i) t C).2) else (nI i, (sEa s (nI i) t C).1, (sEa s (nI i) t C).2)
def sAdv (s t : Int32) (C : CS) : Int32 × Int32 × CS := lpN (sAd1 s t C) 9 0 (-1, (sEa s (-1) t C).1, (sEa s (-1) t C).2)
set_option maxHeartbeats 2000000 in
theorem kX1_advise (C T : CS) (L : Nat → Int32) (s t : Int32) (hs : ¬ sSw s C.2.2.2.2.2.2.2.2.2.2.2.2.1 = 0) (h1 : ¬ t < 1) (h2 : t ≤ 96) : AMet yX1_advise cX1_advise 7 (some .int) { frames := 6, cells := 0, slots := 0, locals := 140 } [.ref 0, .int s, .int t] (hM C T L) (some (.int (sAdv s t C).1)) (hM C (sAdv s t C).2.2 L) := by
  refine AMet.of (by decide) rfl ?_
  intro G hR hE hI
  have E : ∀ (b m : Int32) (D : CS), (b, m, D) = sAdv s t C → AW G (yX1_advise.cls, cX1_advise, 7, 28) (hM C D L) 0 0 60 [(3, .int b), (0, .ref 0)] [] := by
    intro b m D hf
    refine AW.blk (amX1_advise _) 33 1 (h' := hM C D L) (pc' := 61) (lv' := [(3, .int b), (0, .ref 0)]) (st' := [.int b]) (L := []) rfl trivial ?_
    exact AW.iretE (amX1_advise _) 34 hE rfl rfl rfl rfl rfl (by rw [← hf]) (by rw [← hf])
  have K : ∀ (k i : Nat) (b : Int32) (m : Int32) (D : CS), i + k = 9 → lpN (sAd1 s t C) k i (b, m, D) = sAdv s t C → AW G (yX1_advise.cls, cX1_advise, 7, 28) (hM C D L) 0 0 23 [(5, .int (nI i)), (4, .int m), (3, .int b), (1, .int s), (2, .int t), (0, .ref 0)] [] := by
    intro k
    induction k with
    | zero =>
      intro i b m D hi hf
      refine AW.blk (amX1_advise _) 15 2 (h' := hM C D L) (pc' := 27) (lv' := [(5, .int (nI i)), (4, .int m), (3, .int b), (1, .int s), (2, .int t), (0, .ref 0)]) (st' := [.int 9, .int (nI i)]) (L := []) rfl trivial ?_
      refine AW.br (amX1_advise _) 17 (tgt := 60) (C := 9 ≤ (nI i)) (C' := ¬ 9 ≤ (nI i)) (st' := []) rfl rfl rfl (fun c1 => ?_) (fun c1 => absurd (nI_le (a := 9) (b := i) (by omega) (by omega)) c1)
      refine AW.pick [2, 5] (lv' := [(3, .int b), (0, .ref 0)]) rfl ?_
      exact E _ _ _ hf
    | succ k ih =>
      intro i b m D hi hf
      refine AW.blk (amX1_advise _) 15 2 (h' := hM C D L) (pc' := 27) (lv' := [(5, .int (nI i)), (4, .int m), (3, .int b), (1, .int s), (2, .int t), (0, .ref 0)]) (st' := [.int 9, .int (nI i)]) (L := []) rfl trivial ?_
      refine AW.br (amX1_advise _) 17 (tgt := 60) (C := 9 ≤ (nI i)) (C' := ¬ 9 ≤ (nI i)) (st' := []) rfl rfl rfl (fun c1 => absurd c1 (nI_ge (a := i) (b := 9) (by omega) (by decide))) (fun c1 => ?_)
      refine AW.blk (amX1_advise _) 18 4 (h' := hM C D L) (pc' := 35) (lv' := [(5, .int (nI i)), (4, .int m), (3, .int b), (1, .int s), (2, .int t), (0, .ref 0)]) (st' := [.int t, .int (nI i), .int s, .ref 0]) (L := []) rfl trivial ?_
      refine AW.callVp (amX1_advise _) 22 (kX1_earned C D L s (nI i) t hs) rfl rfl [0, 1, 2, 3, 4, 5, 6, 7, 8, 9, 10, 11, 12, 13, 14, 15, 16, 17, 18, 19, 20, 21, 22, 23, 24, 25, 26, 27] [] ykX1_earned yiX1_earned yvX1_earned mlX1_116 rfl rfl rfl rfl hR ⟨Nat.le_of_ble_eq_true rfl, Nat.le_of_ble_eq_true rfl, Nat.le_of_ble_eq_true rfl, Nat.le_of_ble_eq_true rfl⟩ rfl rfl rfl rfl rfl (fun _ => rfl) (h1 := hM C ((sEa s (nI i) t C).2) L) rfl (st' := [.int ((sEa s (nI i) t C).1)]) rfl ?_
      refine AW.blk (amX1_advise _) 23 3 (h' := hM C ((sEa s (nI i) t C).2) L) (pc' := 44) (lv' := [(6, .int ((sEa s (nI i) t C).1)), (5, .int (nI i)), (4, .int m), (3, .int b), (1, .int s), (2, .int t), (0, .ref 0)]) (st' := [.int m, .int ((sEa s (nI i) t C).1)]) (L := []) rfl trivial ?_
      refine AW.br (amX1_advise _) 26 (tgt := 54) (C := ((sEa s (nI i) t C).1) ≤ m) (C' := ¬ ((sEa s (nI i) t C).1) ≤ m) (st' := []) rfl rfl rfl (fun c2 => ?_) (fun c2 => ?_)
      · refine AW.blk (amX1_advise _) 31 2 (h' := hM C ((sEa s (nI i) t C).2) L) (pc' := 23) (lv' := [(5, .int ((nI i) + 1)), (6, .int ((sEa s (nI i) t C).1)), (4, .int m), (3, .int b), (1, .int s), (2, .int t), (0, .ref 0)]) (st' := []) (L := []) rfl trivial ?_
        refine AW.pick [0, 2, 3, 4, 5, 6] (lv' := [(5, .int ((nI i) + 1)), (4, .int m), (3, .int b), (1, .int s), (2, .int t), (0, .ref 0)]) rfl ?_
        rw [nI_1 i]
        exact ih (i + 1) _ _ _ (by omega) (by rw [← hf]; simp only [lpN, sAd1, if_neg c1, if_pos c2])
      · refine AW.blk (amX1_advise _) 27 6 (h' := hM C ((sEa s (nI i) t C).2) L) (pc' := 23) (lv' := [(5, .int ((nI i) + 1)), (3, .int (nI i)), (4, .int ((sEa s (nI i) t C).1)), (6, .int ((sEa s (nI i) t C).1)), (1, .int s), (2, .int t), (0, .ref 0)]) (st' := []) (L := []) rfl trivial ?_
        refine AW.pick [0, 2, 1, 4, 5, 6] (lv' := [(5, .int ((nI i) + 1)), (4, .int ((sEa s (nI i) t C).1)), (3, .int (nI i)), (1, .int s), (2, .int t), (0, .ref 0)]) rfl ?_
        rw [nI_1 i]
        exact ih (i + 1) _ _ _ (by omega) (by rw [← hf]; simp only [lpN, sAd1, if_neg c1, if_neg c2])
  refine AW.blk (amX1_advise _) 0 2 (h' := hM C T L) (pc' := 2) (lv' := [(0, .ref 0), (1, .int s), (2, .int t)]) (st' := [.int s, .ref 0]) (L := []) rfl trivial ?_
  refine AW.callVp (amX1_advise _) 2 (kX1_needSweeper C T L s hs) rfl rfl [0, 1, 2, 3, 4, 5, 6, 7, 8, 9, 10, 11, 12, 13, 14, 15, 16, 17, 18, 19, 20, 21, 22, 23, 24, 25, 26, 27] [] ykX1_needSweeper yiX1_needSweeper yvX1_needSweeper mlX1_76 rfl rfl rfl rfl hR ⟨Nat.le_of_ble_eq_true rfl, Nat.le_of_ble_eq_true rfl, Nat.le_of_ble_eq_true rfl, Nat.le_of_ble_eq_true rfl⟩ rfl rfl rfl rfl rfl (fun _ => rfl) (h1 := hM C T L) rfl (st' := []) rfl ?_
  refine AW.blk (amX1_advise _) 3 1 (h' := hM C T L) (pc' := 6) (lv' := [(0, .ref 0), (1, .int s), (2, .int t)]) (st' := [.int t]) (L := []) rfl trivial ?_
  refine AW.callSp (amX1_advise _) 4 (kX1_needQuarters t h1 h2) [] [] ykX1_needQuarters ysX1_needQuarters mlX1_106 rfl rfl rfl rfl hR ⟨Nat.le_of_ble_eq_true rfl, Nat.le_of_ble_eq_true rfl, Nat.le_of_ble_eq_true rfl, Nat.le_of_ble_eq_true rfl⟩ rfl rfl rfl rfl rfl (fun _ => rfl) (h1 := hM C T L) rfl (st' := []) rfl ?_
  refine AW.blk (amX1_advise _) 5 6 (h' := hM C T L) (pc' := 15) (lv' := [(3, .int ((-1))), (0, .ref 0), (1, .int s), (2, .int t)]) (st' := [.int t, .int ((-1)), .int s, .ref 0]) (L := []) rfl trivial ?_
  refine AW.callVp (amX1_advise _) 11 (kX1_earned C T L s (-1) t hs) rfl rfl [0, 1, 2, 3, 4, 5, 6, 7, 8, 9, 10, 11, 12, 13, 14, 15, 16, 17, 18, 19, 20, 21, 22, 23, 24, 25, 26, 27] [] ykX1_earned yiX1_earned yvX1_earned mlX1_116 rfl rfl rfl rfl hR ⟨Nat.le_of_ble_eq_true rfl, Nat.le_of_ble_eq_true rfl, Nat.le_of_ble_eq_true rfl, Nat.le_of_ble_eq_true rfl⟩ rfl rfl rfl rfl rfl (fun _ => rfl) (h1 := hM C ((sEa s (-1) t C).2) L) rfl (st' := [.int ((sEa s (-1) t C).1)]) rfl ?_
  refine AW.blk (amX1_advise _) 12 3 (h' := hM C ((sEa s (-1) t C).2) L) (pc' := 23) (lv' := [(5, .int 0), (4, .int ((sEa s (-1) t C).1)), (3, .int ((-1))), (0, .ref 0), (1, .int s), (2, .int t)]) (st' := []) (L := []) rfl trivial ?_
  refine AW.pick [0, 1, 2, 4, 5, 3] (lv' := [(5, .int 0), (4, .int ((sEa s (-1) t C).1)), (3, .int ((-1))), (1, .int s), (2, .int t), (0, .ref 0)]) rfl ?_
  exact K 9 0 _ _ _ rfl rfl
def sFo (t : Int32) (C : CS) : Nat → Int32
  | 0 => (sLive t C).1
  | 1 => sSum (sLive t C).2.1 9
  | _ => sHeld (sLive t C).2.2.2.2.2.2.2.2.2.2.2.2.2.1 (sLive t C).2.2.2.2.1
set_option maxHeartbeats 2000000 in
theorem kX1_foresee_0 (C T : CS) (L : Nat → Int32) (t : Int32) (h1 : ¬ t < 1) (h2 : t ≤ 96) : AMet yX1_foresee cX1_foresee 4 (some .int) { frames := 5, cells := 0, slots := 0, locals := 116 } [.ref 0, .int t, .int (nI 0)] (hM C T L) (some (.int (sFo t C 0))) (hM C (sLive t C).2 L) := by
  refine AMet.of (by decide) rfl ?_
  intro G hR hE hI
  refine AW.blk (amX1_foresee _) 0 1 (h' := hM C T L) (pc' := 1) (lv' := [(0, .ref 0), (1, .int t), (2, .int (nI 0))]) (st' := [.int t]) (L := []) rfl trivial ?_
  refine AW.callSp (amX1_foresee _) 1 (kX1_needQuarters t h1 h2) [] [] ykX1_needQuarters ysX1_needQuarters mlX1_106 rfl rfl rfl rfl hR ⟨Nat.le_of_ble_eq_true rfl, Nat.le_of_ble_eq_true rfl, Nat.le_of_ble_eq_true rfl, Nat.le_of_ble_eq_true rfl⟩ rfl rfl rfl rfl rfl (fun _ => rfl) (h1 := hM C T L) rfl (st' := []) rfl ?_
  refine AW.blk (amX1_foresee _) 2 2 (h' := hM C T L) (pc' := 6) (lv' := [(0, .ref 0), (1, .int t), (2, .int (nI 0))]) (st' := [.int 3, .int (nI 0)]) (L := []) rfl trivial ?_
  refine AW.callSp (amX1_foresee _) 4 (kX1_needFact (nI 0) 3 (by decide) (by decide)) [] [] ykX1_needFact ysX1_needFact mlX1_93 rfl rfl rfl rfl hR ⟨Nat.le_of_ble_eq_true rfl, Nat.le_of_ble_eq_true rfl, Nat.le_of_ble_eq_true rfl, Nat.le_of_ble_eq_true rfl⟩ rfl rfl rfl rfl rfl (fun _ => rfl) (h1 := hM C T L) rfl (st' := []) rfl ?_
  refine AW.blk (amX1_foresee _) 5 4 (h' := hM C T L) (pc' := 17) (lv' := [(0, .ref 0), (1, .int t), (2, .int (nI 0))]) (st' := [.ref 1, .ref 14]) (L := []) rfl trivial ?_
  refine AW.callVp (amX1_foresee _) 9 (kX0_copyFrom T C) rfl rfl [14, 15, 16, 17, 18, 19, 20, 21, 22, 23, 24, 25, 26, 1, 2, 3, 4, 5, 6, 7, 8, 9, 10, 11, 12, 13] [] ykX0_copyFrom yiX0_copyFrom yvX0_copyFrom mlX1_120 rfl rfl rfl rfl hR ⟨Nat.le_of_ble_eq_true rfl, Nat.le_of_ble_eq_true rfl, Nat.le_of_ble_eq_true rfl, Nat.le_of_ble_eq_true rfl⟩ rfl rfl rfl rfl rfl (fun _ => rfl) (h1 := hM C C L) rfl (st' := []) rfl ?_
  refine AW.blk (amX1_foresee _) 10 3 (h' := hM C C L) (pc' := 25) (lv' := [(0, .ref 0), (1, .int t), (2, .int (nI 0))]) (st' := [.int t, .ref 14]) (L := []) rfl trivial ?_
  refine AW.callVp (amX1_foresee _) 13 (kX0_live C t) rfl rfl [14, 15, 16, 17, 18, 19, 20, 21, 22, 23, 24, 25, 26] [] ykX0_live yiX0_live yvX0_live mlX1_109 rfl rfl rfl rfl hR ⟨Nat.le_of_ble_eq_true rfl, Nat.le_of_ble_eq_true rfl, Nat.le_of_ble_eq_true rfl, Nat.le_of_ble_eq_true rfl⟩ rfl rfl rfl rfl rfl (fun _ => rfl) (h1 := hM C ((sLive t C).2) L) rfl (st' := [.int ((sLive t C).1)]) rfl ?_
  refine AW.blk (amX1_foresee _) 14 2 (h' := hM C ((sLive t C).2) L) (pc' := 30) (lv' := [(3, .int ((sLive t C).1)), (0, .ref 0), (1, .int t), (2, .int (nI 0))]) (st' := [.int (nI 0)]) (L := []) rfl trivial ?_
  refine AW.br (amX1_foresee _) 16 (tgt := 35) (C := ¬ (nI 0) = 0) (C' := (nI 0) = 0) (st' := []) rfl rfl rfl (fun c1 => absurd (show (nI 0 : Int32) = 0 by decide) c1) (fun c1 => ?_)
  refine AW.blk (amX1_foresee _) 17 1 (h' := hM C ((sLive t C).2) L) (pc' := 34) (lv' := [(3, .int ((sLive t C).1)), (0, .ref 0), (1, .int t), (2, .int (nI 0))]) (st' := [.int ((sLive t C).1)]) (L := []) rfl trivial ?_
  exact AW.iretE (amX1_foresee _) 18 hE rfl rfl (by first | rfl | exact narrow_b _ (by decide)) rfl rfl (rfl) rfl
set_option maxHeartbeats 2000000 in
theorem kX1_foresee_1 (C T : CS) (L : Nat → Int32) (t : Int32) (h1 : ¬ t < 1) (h2 : t ≤ 96) : AMet yX1_foresee cX1_foresee 4 (some .int) { frames := 5, cells := 0, slots := 0, locals := 116 } [.ref 0, .int t, .int (nI 1)] (hM C T L) (some (.int (sFo t C 1))) (hM C (sLive t C).2 L) := by
  refine AMet.of (by decide) rfl ?_
  intro G hR hE hI
  refine AW.blk (amX1_foresee _) 0 1 (h' := hM C T L) (pc' := 1) (lv' := [(0, .ref 0), (1, .int t), (2, .int (nI 1))]) (st' := [.int t]) (L := []) rfl trivial ?_
  refine AW.callSp (amX1_foresee _) 1 (kX1_needQuarters t h1 h2) [] [] ykX1_needQuarters ysX1_needQuarters mlX1_106 rfl rfl rfl rfl hR ⟨Nat.le_of_ble_eq_true rfl, Nat.le_of_ble_eq_true rfl, Nat.le_of_ble_eq_true rfl, Nat.le_of_ble_eq_true rfl⟩ rfl rfl rfl rfl rfl (fun _ => rfl) (h1 := hM C T L) rfl (st' := []) rfl ?_
  refine AW.blk (amX1_foresee _) 2 2 (h' := hM C T L) (pc' := 6) (lv' := [(0, .ref 0), (1, .int t), (2, .int (nI 1))]) (st' := [.int 3, .int (nI 1)]) (L := []) rfl trivial ?_
  refine AW.callSp (amX1_foresee _) 4 (kX1_needFact (nI 1) 3 (by decide) (by decide)) [] [] ykX1_needFact ysX1_needFact mlX1_93 rfl rfl rfl rfl hR ⟨Nat.le_of_ble_eq_true rfl, Nat.le_of_ble_eq_true rfl, Nat.le_of_ble_eq_true rfl, Nat.le_of_ble_eq_true rfl⟩ rfl rfl rfl rfl rfl (fun _ => rfl) (h1 := hM C T L) rfl (st' := []) rfl ?_
  refine AW.blk (amX1_foresee _) 5 4 (h' := hM C T L) (pc' := 17) (lv' := [(0, .ref 0), (1, .int t), (2, .int (nI 1))]) (st' := [.ref 1, .ref 14]) (L := []) rfl trivial ?_
  refine AW.callVp (amX1_foresee _) 9 (kX0_copyFrom T C) rfl rfl [14, 15, 16, 17, 18, 19, 20, 21, 22, 23, 24, 25, 26, 1, 2, 3, 4, 5, 6, 7, 8, 9, 10, 11, 12, 13] [] ykX0_copyFrom yiX0_copyFrom yvX0_copyFrom mlX1_120 rfl rfl rfl rfl hR ⟨Nat.le_of_ble_eq_true rfl, Nat.le_of_ble_eq_true rfl, Nat.le_of_ble_eq_true rfl, Nat.le_of_ble_eq_true rfl⟩ rfl rfl rfl rfl rfl (fun _ => rfl) (h1 := hM C C L) rfl (st' := []) rfl ?_
  refine AW.blk (amX1_foresee _) 10 3 (h' := hM C C L) (pc' := 25) (lv' := [(0, .ref 0), (1, .int t), (2, .int (nI 1))]) (st' := [.int t, .ref 14]) (L := []) rfl trivial ?_
  refine AW.callVp (amX1_foresee _) 13 (kX0_live C t) rfl rfl [14, 15, 16, 17, 18, 19, 20, 21, 22, 23, 24, 25, 26] [] ykX0_live yiX0_live yvX0_live mlX1_109 rfl rfl rfl rfl hR ⟨Nat.le_of_ble_eq_true rfl, Nat.le_of_ble_eq_true rfl, Nat.le_of_ble_eq_true rfl, Nat.le_of_ble_eq_true rfl⟩ rfl rfl rfl rfl rfl (fun _ => rfl) (h1 := hM C ((sLive t C).2) L) rfl (st' := [.int ((sLive t C).1)]) rfl ?_
  refine AW.blk (amX1_foresee _) 14 2 (h' := hM C ((sLive t C).2) L) (pc' := 30) (lv' := [(3, .int ((sLive t C).1)), (0, .ref 0), (1, .int t), (2, .int (nI 1))]) (st' := [.int (nI 1)]) (L := []) rfl trivial ?_
  refine AW.br (amX1_foresee _) 16 (tgt := 35) (C := ¬ (nI 1) = 0) (C' := (nI 1) = 0) (st' := []) rfl rfl rfl (fun c1 => ?_) (fun c1 => absurd c1 (show ¬ (nI 1 : Int32) = 0 by decide))
  refine AW.blk (amX1_foresee _) 19 2 (h' := hM C ((sLive t C).2) L) (pc' := 37) (lv' := [(3, .int ((sLive t C).1)), (0, .ref 0), (1, .int t), (2, .int (nI 1))]) (st' := [.int 1, .int (nI 1)]) (L := []) rfl trivial ?_
  refine AW.br (amX1_foresee _) 21 (tgt := 50) (C := ¬ (nI 1) = 1) (C' := (nI 1) = 1) (st' := []) rfl rfl rfl (fun c2 => absurd (show (nI 1 : Int32) = 1 by decide) c2) (fun c2 => ?_)
  refine AW.blk (amX1_foresee _) 22 2 (h' := hM C ((sLive t C).2) L) (pc' := 44) (lv' := [(3, .int ((sLive t C).1)), (0, .ref 0), (1, .int t), (2, .int (nI 1))]) (st' := [.ref 14]) (L := []) rfl trivial ?_
  refine AW.callVp (amX1_foresee _) 24 (kX0_allMud ((sLive t C).2.1) ((sLive t C).2.2.1) ((sLive t C).2.2.2.1) ((sLive t C).2.2.2.2.1) ((sLive t C).2.2.2.2.2.1) ((sLive t C).2.2.2.2.2.2.1) ((sLive t C).2.2.2.2.2.2.2.1) ((sLive t C).2.2.2.2.2.2.2.2.1) ((sLive t C).2.2.2.2.2.2.2.2.2.1) ((sLive t C).2.2.2.2.2.2.2.2.2.2.1) ((sLive t C).2.2.2.2.2.2.2.2.2.2.2.1) ((sLive t C).2.2.2.2.2.2.2.2.2.2.2.2.1) ((sLive t C).2.2.2.2.2.2.2.2.2.2.2.2.2.1) ((sLive t C).2.2.2.2.2.2.2.2.2.2.2.2.2.2)) rfl rfl [14, 15, 16, 17, 18, 19, 20, 21, 22, 23, 24, 25, 26] [] ykX0_allMud yiX0_allMud yvX0_allMud mlX1_124 rfl rfl rfl rfl hR ⟨Nat.le_of_ble_eq_true rfl, Nat.le_of_ble_eq_true rfl, Nat.le_of_ble_eq_true rfl, Nat.le_of_ble_eq_true rfl⟩ rfl rfl rfl rfl rfl (fun _ => rfl) (h1 := hM C ((sLive t C).2) L) rfl (st' := [.int (sSum ((sLive t C).2.1) 9)]) rfl ?_
  refine AW.blk (amX1_foresee _) 25 1 (h' := hM C ((sLive t C).2) L) (pc' := 57) (lv' := [(3, .int ((sLive t C).1)), (0, .ref 0), (1, .int t), (2, .int (nI 1))]) (st' := [.int (sSum ((sLive t C).2.1) 9)]) (L := []) rfl trivial ?_
  exact AW.iretE (amX1_foresee _) 29 hE rfl rfl (by first | rfl | exact narrow_b _ (by decide)) rfl rfl (rfl) rfl
set_option maxHeartbeats 2000000 in
theorem kX1_foresee_2 (C T : CS) (L : Nat → Int32) (t : Int32) (h1 : ¬ t < 1) (h2 : t ≤ 96) : AMet yX1_foresee cX1_foresee 4 (some .int) { frames := 5, cells := 0, slots := 0, locals := 116 } [.ref 0, .int t, .int (nI 2)] (hM C T L) (some (.int (sFo t C 2))) (hM C (sLive t C).2 L) := by
  refine AMet.of (by decide) rfl ?_
  intro G hR hE hI
  refine AW.blk (amX1_foresee _) 0 1 (h' := hM C T L) (pc' := 1) (lv' := [(0, .ref 0), (1, .int t), (2, .int (nI 2))]) (st' := [.int t]) (L := []) rfl trivial ?_
  refine AW.callSp (amX1_foresee _) 1 (kX1_needQuarters t h1 h2) [] [] ykX1_needQuarters ysX1_needQuarters mlX1_106 rfl rfl rfl rfl hR ⟨Nat.le_of_ble_eq_true rfl, Nat.le_of_ble_eq_true rfl, Nat.le_of_ble_eq_true rfl, Nat.le_of_ble_eq_true rfl⟩ rfl rfl rfl rfl rfl (fun _ => rfl) (h1 := hM C T L) rfl (st' := []) rfl ?_
  refine AW.blk (amX1_foresee _) 2 2 (h' := hM C T L) (pc' := 6) (lv' := [(0, .ref 0), (1, .int t), (2, .int (nI 2))]) (st' := [.int 3, .int (nI 2)]) (L := []) rfl trivial ?_
  refine AW.callSp (amX1_foresee _) 4 (kX1_needFact (nI 2) 3 (by decide) (by decide)) [] [] ykX1_needFact ysX1_needFact mlX1_93 rfl rfl rfl rfl hR ⟨Nat.le_of_ble_eq_true rfl, Nat.le_of_ble_eq_true rfl, Nat.le_of_ble_eq_true rfl, Nat.le_of_ble_eq_true rfl⟩ rfl rfl rfl rfl rfl (fun _ => rfl) (h1 := hM C T L) rfl (st' := []) rfl ?_
  refine AW.blk (amX1_foresee _) 5 4 (h' := hM C T L) (pc' := 17) (lv' := [(0, .ref 0), (1, .int t), (2, .int (nI 2))]) (st' := [.ref 1, .ref 14]) (L := []) rfl trivial ?_
  refine AW.callVp (amX1_foresee _) 9 (kX0_copyFrom T C) rfl rfl [14, 15, 16, 17, 18, 19, 20, 21, 22, 23, 24, 25, 26, 1, 2, 3, 4, 5, 6, 7, 8, 9, 10, 11, 12, 13] [] ykX0_copyFrom yiX0_copyFrom yvX0_copyFrom mlX1_120 rfl rfl rfl rfl hR ⟨Nat.le_of_ble_eq_true rfl, Nat.le_of_ble_eq_true rfl, Nat.le_of_ble_eq_true rfl, Nat.le_of_ble_eq_true rfl⟩ rfl rfl rfl rfl rfl (fun _ => rfl) (h1 := hM C C L) rfl (st' := []) rfl ?_
  refine AW.blk (amX1_foresee _) 10 3 (h' := hM C C L) (pc' := 25) (lv' := [(0, .ref 0), (1, .int t), (2, .int (nI 2))]) (st' := [.int t, .ref 14]) (L := []) rfl trivial ?_
  refine AW.callVp (amX1_foresee _) 13 (kX0_live C t) rfl rfl [14, 15, 16, 17, 18, 19, 20, 21, 22, 23, 24, 25, 26] [] ykX0_live yiX0_live yvX0_live mlX1_109 rfl rfl rfl rfl hR ⟨Nat.le_of_ble_eq_true rfl, Nat.le_of_ble_eq_true rfl, Nat.le_of_ble_eq_true rfl, Nat.le_of_ble_eq_true rfl⟩ rfl rfl rfl rfl rfl (fun _ => rfl) (h1 := hM C ((sLive t C).2) L) rfl (st' := [.int ((sLive t C).1)]) rfl ?_
  refine AW.blk (amX1_foresee _) 14 2 (h' := hM C ((sLive t C).2) L) (pc' := 30) (lv' := [(3, .int ((sLive t C).1)), (0, .ref 0), (1, .int t), (2, .int (nI 2))]) (st' := [.int (nI 2)]) (L := []) rfl trivial ?_
  refine AW.br (amX1_foresee _) 16 (tgt := 35) (C := ¬ (nI 2) = 0) (C' := (nI 2) = 0) (st' := []) rfl rfl rfl (fun c1 => ?_) (fun c1 => absurd c1 (show ¬ (nI 2 : Int32) = 0 by decide))
  refine AW.blk (amX1_foresee _) 19 2 (h' := hM C ((sLive t C).2) L) (pc' := 37) (lv' := [(3, .int ((sLive t C).1)), (0, .ref 0), (1, .int t), (2, .int (nI 2))]) (st' := [.int 1, .int (nI 2)]) (L := []) rfl trivial ?_
  refine AW.br (amX1_foresee _) 21 (tgt := 50) (C := ¬ (nI 2) = 1) (C' := (nI 2) = 1) (st' := []) rfl rfl rfl (fun c2 => ?_) (fun c2 => absurd c2 (show ¬ (nI 2 : Int32) = 1 by decide))
  refine AW.blk (amX1_foresee _) 26 2 (h' := hM C ((sLive t C).2) L) (pc' := 54) (lv' := [(3, .int ((sLive t C).1)), (0, .ref 0), (1, .int t), (2, .int (nI 2))]) (st' := [.ref 14]) (L := []) rfl trivial ?_
  refine AW.callVp (amX1_foresee _) 28 (kX0_heldPitches ((sLive t C).2.1) ((sLive t C).2.2.1) ((sLive t C).2.2.2.1) ((sLive t C).2.2.2.2.1) ((sLive t C).2.2.2.2.2.1) ((sLive t C).2.2.2.2.2.2.1) ((sLive t C).2.2.2.2.2.2.2.1) ((sLive t C).2.2.2.2.2.2.2.2.1) ((sLive t C).2.2.2.2.2.2.2.2.2.1) ((sLive t C).2.2.2.2.2.2.2.2.2.2.1) ((sLive t C).2.2.2.2.2.2.2.2.2.2.2.1) ((sLive t C).2.2.2.2.2.2.2.2.2.2.2.2.1) ((sLive t C).2.2.2.2.2.2.2.2.2.2.2.2.2.1) ((sLive t C).2.2.2.2.2.2.2.2.2.2.2.2.2.2)) rfl rfl [14, 15, 16, 17, 18, 19, 20, 21, 22, 23, 24, 25, 26] [] ykX0_heldPitches yiX0_heldPitches yvX0_heldPitches mlX1_128 rfl rfl rfl rfl hR ⟨Nat.le_of_ble_eq_true rfl, Nat.le_of_ble_eq_true rfl, Nat.le_of_ble_eq_true rfl, Nat.le_of_ble_eq_true rfl⟩ rfl rfl rfl rfl rfl (fun _ => rfl) (h1 := hM C ((sLive t C).2) L) rfl (st' := [.int (sHeld ((sLive t C).2.2.2.2.2.2.2.2.2.2.2.2.2.1) ((sLive t C).2.2.2.2.1))]) rfl ?_
  exact AW.iretE (amX1_foresee _) 29 hE rfl rfl (by first | rfl | exact narrow_b _ (by decide)) rfl rfl (rfl) rfl
theorem kX1_foresee (C T : CS) (L : Nat → Int32) (t : Int32) (h1 : ¬ t < 1) (h2 : t ≤ 96) : ∀ (w : Nat), w < 3 → AMet yX1_foresee cX1_foresee 4 (some .int) { frames := 5, cells := 0, slots := 0, locals := 116 } [.ref 0, .int t, .int (nI w)] (hM C T L) (some (.int (sFo t C w))) (hM C (sLive t C).2 L)
  | 0, _ => kX1_foresee_0 C T L t h1 h2
  | 1, _ => kX1_foresee_1 C T L t h1 h2
  | 2, _ => kX1_foresee_2 C T L t h1 h2
  | w + 3, h => absurd h (by omega)
