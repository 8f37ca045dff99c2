/-! ===== the reference's methods ===== -/
def hX (th : Int32) (C A : CS) (L : Nat → Int32) : aH := [aO 3 [.int th, .ref 1, .ref 2, .ref 3, .int C.2.2.2.2.2.2.2.2.2.2.2.2.1, .ref 4, .ref 5, .ref 6, .ref 15], aI 9 C.2.1, aI 9 C.2.2.1, aI 8 C.2.2.2.2.2.1, aI 8 C.2.2.2.2.2.2.2.1, aI 9 L, aO 2 [.int C.2.2.2.2.2.2.2.2.2.2.2.2.2, .ref 7, .ref 8, .ref 9, .ref 10, .ref 11, .ref 12, .ref 13, .ref 14, .ref 0], aI 9 C.1, aI 9 C.2.2.2.1, aI 9 C.2.2.2.2.1, aI 8 C.2.2.2.2.2.2.1, aI 8 C.2.2.2.2.2.2.2.2.1, aI 8 C.2.2.2.2.2.2.2.2.2.1, aI 8 C.2.2.2.2.2.2.2.2.2.2.1, aI 8 C.2.2.2.2.2.2.2.2.2.2.2.1, aO 2 [.int A.2.2.2.2.2.2.2.2.2.2.2.2.2, .ref 16, .ref 17, .ref 18, .ref 19, .ref 20, .ref 21, .ref 22, .ref 23, .ref 0], aI 9 A.1, aI 9 A.2.2.2.1, aI 9 A.2.2.2.2.1, aI 8 A.2.2.2.2.2.2.1, aI 8 A.2.2.2.2.2.2.2.2.1, aI 8 A.2.2.2.2.2.2.2.2.2.1, aI 8 A.2.2.2.2.2.2.2.2.2.2.1, aI 8 A.2.2.2.2.2.2.2.2.2.2.2.1]
theorem in3_ok {v a b : Int32} (h1 : ¬ v < a) (h2 : v ≤ b) : ¬ sIn3 v a b = 0 := by
  unfold sIn3
  rw [if_neg h1, if_neg (Int32.not_lt.mpr h2)]
  decide
theorem in3_lo {v a b : Int32} (h1 : v < a) : sIn3 v a b = 0 := by
  unfold sIn3
  rw [if_pos h1]
theorem in3_hi {v a b : Int32} (h2 : ¬ v ≤ b) : sIn3 v a b = 0 := by
  unfold sIn3
  rw [if_pos (Int32.not_le.mp h2)]
  split <;> rfl
theorem in3_ge {v a b : Int32} (h : ¬ sIn3 v a b = 0) : ¬ v < a := fun z => h (in3_lo z)
theorem in3_le {v a b : Int32} (h : ¬ sIn3 v a b = 0) : v ≤ b := Classical.not_not.mp fun z => h (in3_hi z)
set_option maxHeartbeats 2000000 in
theorem kX3_set {B : Nat} (th : Int32) (C A : CS) (L : Nat → Int32) (hV : VC B C) (c a b : Int32) (hc : ¬ sCr c = 0) (h1 : ¬ sIn3 a 0 9 = 0) (h2 : ¬ sIn3 b 0 30 = 0) : AMet yX3_set cX3_set 5 (some .int) { frames := 2, cells := 0, slots := 0, locals := 42 } [.ref 0, .int c, .int a, .int b] (hX th C A L) (some (.int (100 * C.2.1 c.toNatClampNeg + C.2.2.1 c.toNatClampNeg))) (hX 0 (C.1, upd C.2.1 c.toNatClampNeg a, upd C.2.2.1 c.toNatClampNeg b, C.2.2.2.1, C.2.2.2.2.1, C.2.2.2.2.2.1, C.2.2.2.2.2.2.1, C.2.2.2.2.2.2.2.1, C.2.2.2.2.2.2.2.2.1, C.2.2.2.2.2.2.2.2.2.1, C.2.2.2.2.2.2.2.2.2.2.1, C.2.2.2.2.2.2.2.2.2.2.2.1, C.2.2.2.2.2.2.2.2.2.2.2.2.1, C.2.2.2.2.2.2.2.2.2.2.2.2.2) A L) := by
  refine AMet.of (by decide) rfl ?_
  intro G hR hE hI
  refine AW.blk (amX3_set _) 0 4 (h' := hX 0 C A L) (pc' := 6) (lv' := [(0, .ref 0), (1, .int c), (2, .int a), (3, .int b)]) (st' := [.int c]) (L := []) rfl trivial ?_
  refine AW.callSp (amX3_set _) 4 (kX3_isCrossing c) [] [] ykX3_isCrossing ysX3_isCrossing mlX3_55 rfl rfl rfl rfl hR ⟨Nat.le_of_ble_eq_true rfl, Nat.le_of_ble_eq_true rfl, Nat.le_of_ble_eq_true rfl, Nat.le_of_ble_eq_true rfl⟩ rfl rfl rfl rfl rfl (fun _ => rfl) (h1 := hX 0 C A L) rfl (st' := [.int (sCr c)]) rfl ?_
  refine AW.br (amX3_set _) 5 (tgt := 18) (C := ¬ (sCr c) = 0) (C' := (sCr c) = 0) (st' := []) rfl rfl rfl (fun c1 => ?_) (fun c1 => absurd c1 hc)
  refine AW.blk (amX3_set _) 10 3 (h' := hX 0 C A L) (pc' := 22) (lv' := [(0, .ref 0), (1, .int c), (2, .int a), (3, .int b)]) (st' := [.int 9, .int 0, .int a]) (L := []) rfl trivial ?_
  refine AW.callSp (amX3_set _) 13 (kX3_isIn a 0 9) [] [] ykX3_isIn ysX3_isIn mlX3_44 rfl rfl rfl rfl hR ⟨Nat.le_of_ble_eq_true rfl, Nat.le_of_ble_eq_true rfl, Nat.le_of_ble_eq_true rfl, Nat.le_of_ble_eq_true rfl⟩ rfl rfl rfl rfl rfl (fun _ => rfl) (h1 := hX 0 C A L) rfl (st' := [.int (sIn3 a 0 9)]) rfl ?_
  refine AW.br (amX3_set _) 14 (tgt := 38) (C := (sIn3 a 0 9) = 0) (C' := ¬ (sIn3 a 0 9) = 0) (st' := []) rfl rfl rfl (fun c2 => absurd c2 h1) (fun c2 => ?_)
  refine AW.blk (amX3_set _) 15 3 (h' := hX 0 C A L) (pc' := 32) (lv' := [(0, .ref 0), (1, .int c), (2, .int a), (3, .int b)]) (st' := [.int 30, .int 0, .int b]) (L := []) rfl trivial ?_
  refine AW.callSp (amX3_set _) 18 (kX3_isIn b 0 30) [] [] ykX3_isIn ysX3_isIn mlX3_44 rfl rfl rfl rfl hR ⟨Nat.le_of_ble_eq_true rfl, Nat.le_of_ble_eq_true rfl, Nat.le_of_ble_eq_true rfl, Nat.le_of_ble_eq_true rfl⟩ rfl rfl rfl rfl rfl (fun _ => rfl) (h1 := hX 0 C A L) rfl (st' := [.int (sIn3 b 0 30)]) rfl ?_
  refine AW.br (amX3_set _) 19 (tgt := 44) (C := ¬ (sIn3 b 0 30) = 0) (C' := (sIn3 b 0 30) = 0) (st' := []) rfl rfl rfl (fun c3 => ?_) (fun c3 => absurd c3 h2)
  refine AW.blk (amX3_set _) 24 23 (h' := hX 0 (C.1, upd C.2.1 c.toNatClampNeg a, upd C.2.2.1 c.toNatClampNeg b, C.2.2.2.1, C.2.2.2.2.1, C.2.2.2.2.2.1, C.2.2.2.2.2.2.1, C.2.2.2.2.2.2.2.1, C.2.2.2.2.2.2.2.2.1, C.2.2.2.2.2.2.2.2.2.1, C.2.2.2.2.2.2.2.2.2.2.1, C.2.2.2.2.2.2.2.2.2.2.2.1, C.2.2.2.2.2.2.2.2.2.2.2.2.1, C.2.2.2.2.2.2.2.2.2.2.2.2.2) A L) (pc' := 78) (lv' := [(4, .int ((100 * (C.2.1 c.toNatClampNeg)) + (C.2.2.1 c.toNatClampNeg))), (0, .ref 0), (1, .int c), (2, .int a), (3, .int b)]) (st' := [.int ((100 * (C.2.1 c.toNatClampNeg)) + (C.2.2.1 c.toNatClampNeg))]) (L := [vp_in c 9, vp_in c 9, vp_in c 9, vp_in c 9]) rfl ⟨(sCr_in hc), (sCr_in hc), (sCr_in hc), (sCr_in hc)⟩ ?_
  exact AW.iretE (amX3_set _) 47 hE rfl rfl rfl rfl rfl rfl rfl
set_option maxHeartbeats 2000000 in
theorem kX3_set_b1 {B : Nat} (th : Int32) (C A : CS) (L : Nat → Int32) (hV : VC B C) (c a b : Int32) (hc : sCr c = 0) : AMet yX3_set cX3_set 5 (some .int) { frames := 2, cells := 0, slots := 0, locals := 42 } [.ref 0, .int c, .int a, .int b] (hX th C A L) (some (.int 0)) (hX 1 C A L) := by
  refine AMet.of (by decide) rfl ?_
  intro G hR hE hI
  refine AW.blk (amX3_set _) 0 4 (h' := hX 0 C A L) (pc' := 6) (lv' := [(0, .ref 0), (1, .int c), (2, .int a), (3, .int b)]) (st' := [.int c]) (L := []) rfl trivial ?_
  refine AW.callSp (amX3_set _) 4 (kX3_isCrossing c) [] [] ykX3_isCrossing ysX3_isCrossing mlX3_55 rfl rfl rfl rfl hR ⟨Nat.le_of_ble_eq_true rfl, Nat.le_of_ble_eq_true rfl, Nat.le_of_ble_eq_true rfl, Nat.le_of_ble_eq_true rfl⟩ rfl rfl rfl rfl rfl (fun _ => rfl) (h1 := hX 0 C A L) rfl (st' := [.int (sCr c)]) rfl ?_
  refine AW.br (amX3_set _) 5 (tgt := 18) (C := ¬ (sCr c) = 0) (C' := (sCr c) = 0) (st' := []) rfl rfl rfl (fun c1 => absurd hc c1) (fun c1 => ?_)
  refine AW.blk (amX3_set _) 6 2 (h' := hX 0 C A L) (pc' := 14) (lv' := [(0, .ref 0), (1, .int c), (2, .int a), (3, .int b)]) (st' := [.int 1, .ref 0]) (L := []) rfl trivial ?_
  refine AW.callVp (amX3_set _) 8 (kX3_no 0 C.2.2.2.2.2.2.2.2.2.2.2.2.1 1) rfl rfl [0] [0, 1, 2, 3, 4, 5, 6, 7, 8, 9, 10, 11, 12, 13, 14, 15] ykX3_no yiX3_no yvX3_no mlX3_59 rfl rfl rfl rfl hR ⟨Nat.le_of_ble_eq_true rfl, Nat.le_of_ble_eq_true rfl, Nat.le_of_ble_eq_true rfl, Nat.le_of_ble_eq_true rfl⟩ rfl rfl rfl rfl rfl (fun _ => rfl) (h1 := hX 1 C A L) rfl (st' := [.int 0]) rfl ?_
  exact AW.iretE (amX3_set _) 9 hE rfl rfl rfl rfl rfl rfl rfl
set_option maxHeartbeats 2000000 in
theorem kX3_set_b2 {B : Nat} (th : Int32) (C A : CS) (L : Nat → Int32) (hV : VC B C) (c a b : Int32) (hc : ¬ sCr c = 0) (h1 : sIn3 a 0 9 = 0) : AMet yX3_set cX3_set 5 (some .int) { frames := 2, cells := 0, slots := 0, locals := 42 } [.ref 0, .int c, .int a, .int b] (hX th C A L) (some (.int 0)) (hX 2 C A L) := by
  refine AMet.of (by decide) rfl ?_
  intro G hR hE hI
  refine AW.blk (amX3_set _) 0 4 (h' := hX 0 C A L) (pc' := 6) (lv' := [(0, .ref 0), (1, .int c), (2, .int a), (3, .int b)]) (st' := [.int c]) (L := []) rfl trivial ?_
  refine AW.callSp (amX3_set _) 4 (kX3_isCrossing c) [] [] ykX3_isCrossing ysX3_isCrossing mlX3_55 rfl rfl rfl rfl hR ⟨Nat.le_of_ble_eq_true rfl, Nat.le_of_ble_eq_true rfl, Nat.le_of_ble_eq_true rfl, Nat.le_of_ble_eq_true rfl⟩ rfl rfl rfl rfl rfl (fun _ => rfl) (h1 := hX 0 C A L) rfl (st' := [.int (sCr c)]) rfl ?_
  refine AW.br (amX3_set _) 5 (tgt := 18) (C := ¬ (sCr c) = 0) (C' := (sCr c) = 0) (st' := []) rfl rfl rfl (fun c1 => ?_) (fun c1 => absurd c1 hc)
  refine AW.blk (amX3_set _) 10 3 (h' := hX 0 C A L) (pc' := 22) (lv' := [(0, .ref 0), (1, .int c), (2, .int a), (3, .int b)]) (st' := [.int 9, .int 0, .int a]) (L := []) rfl trivial ?_
  refine AW.callSp (amX3_set _) 13 (kX3_isIn a 0 9) [] [] ykX3_isIn ysX3_isIn mlX3_44 rfl rfl rfl rfl hR ⟨Nat.le_of_ble_eq_true rfl, Nat.le_of_ble_eq_true rfl, Nat.le_of_ble_eq_true rfl, Nat.le_of_ble_eq_true rfl⟩ rfl rfl rfl rfl rfl (fun _ => rfl) (h1 := hX 0 C A L) rfl (st' := [.int (sIn3 a 0 9)]) rfl ?_
  refine AW.br (amX3_set _) 14 (tgt := 38) (C := (sIn3 a 0 9) = 0) (C' := ¬ (sIn3 a 0 9) = 0) (st' := []) rfl rfl rfl (fun c2 => ?_) (fun c2 => absurd h1 c2)
  refine AW.blk (amX3_set _) 20 2 (h' := hX 0 C A L) (pc' := 40) (lv' := [(0, .ref 0), (1, .int c), (2, .int a), (3, .int b)]) (st' := [.int 2, .ref 0]) (L := []) rfl trivial ?_
  refine AW.callVp (amX3_set _) 22 (kX3_no 0 C.2.2.2.2.2.2.2.2.2.2.2.2.1 2) rfl rfl [0] [0, 1, 2, 3, 4, 5, 6, 7, 8, 9, 10, 11, 12, 13, 14, 15] ykX3_no yiX3_no yvX3_no mlX3_59 rfl rfl rfl rfl hR ⟨Nat.le_of_ble_eq_true rfl, Nat.le_of_ble_eq_true rfl, Nat.le_of_ble_eq_true rfl, Nat.le_of_ble_eq_true rfl⟩ rfl rfl rfl rfl rfl (fun _ => rfl) (h1 := hX 2 C A L) rfl (st' := [.int 0]) rfl ?_
  exact AW.iretE (amX3_set _) 23 hE rfl rfl rfl rfl rfl rfl rfl
set_option maxHeartbeats 2000000 in
theorem kX3_set_b3 {B : Nat} (th : Int32) (C A : CS) (L : Nat → Int32) (hV : VC B C) (c a b : Int32) (hc : ¬ sCr c = 0) (h1 : ¬ sIn3 a 0 9 = 0) (h2 : sIn3 b 0 30 = 0) : AMet yX3_set cX3_set 5 (some .int) { frames := 2, cells := 0, slots := 0, locals := 42 } [.ref 0, .int c, .int a, .int b] (hX th C A L) (some (.int 0)) (hX 2 C A L) := by
  refine AMet.of (by decide) rfl ?_
  intro G hR hE hI
  refine AW.blk (amX3_set _) 0 4 (h' := hX 0 C A L) (pc' := 6) (lv' := [(0, .ref 0), (1, .int c), (2, .int a), (3, .int b)]) (st' := [.int c]) (L := []) rfl trivial ?_
  refine AW.callSp (amX3_set _) 4 (kX3_isCrossing c) [] [] ykX3_isCrossing ysX3_isCrossing mlX3_55 rfl rfl rfl rfl hR ⟨Nat.le_of_ble_eq_true rfl, Nat.le_of_ble_eq_true rfl, Nat.le_of_ble_eq_true rfl, Nat.le_of_ble_eq_true rfl⟩ rfl rfl rfl rfl rfl (fun _ => rfl) (h1 := hX 0 C A L) rfl (st' := [.int (sCr c)]) rfl ?_
  refine AW.br (amX3_set _) 5 (tgt := 18) (C := ¬ (sCr c) = 0) (C' := (sCr c) = 0) (st' := []) rfl rfl rfl (fun c1 => ?_) (fun c1 => absurd c1 hc)
  refine AW.blk (amX3_set _) 10 3 (h' := hX 0 C A L) (pc' := 22) (lv' := [(0, .ref 0), (1, .int c), (2, .int a), (3, .int b)]) (st' := [.int 9, .int 0, .int a]) (L := []) rfl trivial ?_
  refine AW.callSp (amX3_set _) 13 (kX3_isIn a 0 9) [] [] ykX3_isIn ysX3_isIn mlX3_44 rfl rfl rfl rfl hR ⟨Nat.le_of_ble_eq_true rfl, Nat.le_of_ble_eq_true rfl, Nat.le_of_ble_eq_true rfl, Nat.le_of_ble_eq_true rfl⟩ rfl rfl rfl rfl rfl (fun _ => rfl) (h1 := hX 0 C A L) rfl (st' := [.int (sIn3 a 0 9)]) rfl ?_
  refine AW.br (amX3_set _) 14 (tgt := 38) (C := (sIn3 a 0 9) = 0) (C' := ¬ (sIn3 a 0 9) = 0) (st' := []) rfl rfl rfl (fun c2 => absurd c2 h1) (fun c2 => ?_)
  refine AW.blk (amX3_set _) 15 3 (h' := hX 0 C A L) (pc' := 32) (lv' := [(0, .ref 0), (1, .int c), (2, .int a), (3, .int b)]) (st' := [.int 30, .int 0, .int b]) (L := []) rfl trivial ?_
  refine AW.callSp (amX3_set _) 18 (kX3_isIn b 0 30) [] [] ykX3_isIn ysX3_isIn mlX3_44 rfl rfl rfl rfl hR ⟨Nat.le_of_ble_eq_true rfl, Nat.le_of_ble_eq_true rfl, Nat.le_of_ble_eq_true rfl, Nat.le_of_ble_eq_true rfl⟩ rfl rfl rfl rfl rfl (fun _ => rfl) (h1 := hX 0 C A L) rfl (st' := [.int (sIn3 b 0 30)]) rfl ?_
  refine AW.br (amX3_set _) 19 (tgt := 44) (C := ¬ (sIn3 b 0 30) = 0) (C' := (sIn3 b 0 30) = 0) (st' := []) rfl rfl rfl (fun c3 => absurd h2 c3) (fun c3 => ?_)
  refine AW.blk (amX3_set _) 20 2 (h' := hX 0 C A L) (pc' := 40) (lv' := [(0, .ref 0), (1, .int c), (2, .int a), (3, .int b)]) (st' := [.int 2, .ref 0]) (L := []) rfl trivial ?_
  refine AW.callVp (amX3_set _) 22 (kX3_no 0 C.2.2.2.2.2.2.2.2.2.2.2.2.1 2) rfl rfl [0] [0, 1, 2, 3, 4, 5, 6, 7, 8, 9, 10, 11, 12, 13, 14, 15] ykX3_no yiX3_no yvX3_no mlX3_59 rfl rfl rfl rfl hR ⟨Nat.le_of_ble_eq_true rfl, Nat.le_of_ble_eq_true rfl, Nat.le_of_ble_eq_true rfl, Nat.le_of_ble_eq_true rfl⟩ rfl rfl rfl rfl rfl (fun _ => rfl) (h1 := hX 2 C A L) rfl (st' := [.int 0]) rfl ?_
  exact AW.iretE (amX3_set _) 23 hE rfl rfl rfl rfl rfl rfl rfl
set_option maxHeartbeats 2000000 in
theorem kX3_setRain {B : Nat} (th : Int32) (C A : CS) (L : Nat → Int32) (hV : VC B C) (k v : Int32) (h1 : ¬ sIn3 k 0 7 = 0) (h2 : ¬ sIn3 v 0 9 = 0) : AMet yX3_setRain cX3_setRain 4 (some .int) { frames := 1, cells := 0, slots := 0, locals := 22 } [.ref 0, .int k, .int v] (hX th C A L) (some (.int (C.2.2.2.2.2.1 k.toNatClampNeg))) (hX 0 (C.1, C.2.1, C.2.2.1, C.2.2.2.1, C.2.2.2.2.1, upd C.2.2.2.2.2.1 k.toNatClampNeg v, C.2.2.2.2.2.2.1, C.2.2.2.2.2.2.2.1, C.2.2.2.2.2.2.2.2.1, C.2.2.2.2.2.2.2.2.2.1, C.2.2.2.2.2.2.2.2.2.2.1, C.2.2.2.2.2.2.2.2.2.2.2.1, C.2.2.2.2.2.2.2.2.2.2.2.2.1, C.2.2.2.2.2.2.2.2.2.2.2.2.2) A L) := by
  refine AMet.of (by decide) rfl ?_
  intro G hR hE hI
  have hk8 : vp_in k 8 := by
    refine vp_in_of_lt (M := 8) (by decide) (in3_ge h1) ?_
    have h := in3_le h1
    rw [Int32.le_iff_toInt_le] at h ⊢
    have e1 : (7 : Int32).toInt = 7 := by decide
    have e2 : (8 : Int32).toInt = 8 := by decide
    omega
  refine AW.blk (amX3_setRain _) 0 6 (h' := hX 0 C A L) (pc' := 9) (lv' := [(0, .ref 0), (1, .int k), (2, .int v)]) (st' := [.int 7, .int 0, .int k]) (L := []) rfl trivial ?_
  refine AW.callSp (amX3_setRain _) 6 (kX3_isIn k 0 7) [] [] ykX3_isIn ysX3_isIn mlX3_44 rfl rfl rfl rfl hR ⟨Nat.le_of_ble_eq_true rfl, Nat.le_of_ble_eq_true rfl, Nat.le_of_ble_eq_true rfl, Nat.le_of_ble_eq_true rfl⟩ rfl rfl rfl rfl rfl (fun _ => rfl) (h1 := hX 0 C A L) rfl (st' := [.int (sIn3 k 0 7)]) rfl ?_
  refine AW.br (amX3_setRain _) 7 (tgt := 21) (C := ¬ (sIn3 k 0 7) = 0) (C' := (sIn3 k 0 7) = 0) (st' := []) rfl rfl rfl (fun c1 => ?_) (fun c1 => absurd c1 h1)
  refine AW.blk (amX3_setRain _) 12 3 (h' := hX 0 C A L) (pc' := 25) (lv' := [(0, .ref 0), (1, .int k), (2, .int v)]) (st' := [.int 9, .int 0, .int v]) (L := []) rfl trivial ?_
  refine AW.callSp (amX3_setRain _) 15 (kX3_isIn v 0 9) [] [] ykX3_isIn ysX3_isIn mlX3_44 rfl rfl rfl rfl hR ⟨Nat.le_of_ble_eq_true rfl, Nat.le_of_ble_eq_true rfl, Nat.le_of_ble_eq_true rfl, Nat.le_of_ble_eq_true rfl⟩ rfl rfl rfl rfl rfl (fun _ => rfl) (h1 := hX 0 C A L) rfl (st' := [.int (sIn3 v 0 9)]) rfl ?_
  refine AW.br (amX3_setRain _) 16 (tgt := 37) (C := ¬ (sIn3 v 0 9) = 0) (C' := (sIn3 v 0 9) = 0) (st' := []) rfl rfl rfl (fun c2 => ?_) (fun c2 => absurd c2 h2)
  refine AW.blk (amX3_setRain _) 21 11 (h' := hX 0 (C.1, C.2.1, C.2.2.1, C.2.2.2.1, C.2.2.2.2.1, upd C.2.2.2.2.2.1 k.toNatClampNeg v, C.2.2.2.2.2.2.1, C.2.2.2.2.2.2.2.1, C.2.2.2.2.2.2.2.2.1, C.2.2.2.2.2.2.2.2.2.1, C.2.2.2.2.2.2.2.2.2.2.1, C.2.2.2.2.2.2.2.2.2.2.2.1, C.2.2.2.2.2.2.2.2.2.2.2.2.1, C.2.2.2.2.2.2.2.2.2.2.2.2.2) A L) (pc' := 52) (lv' := [(3, .int (C.2.2.2.2.2.1 k.toNatClampNeg)), (0, .ref 0), (1, .int k), (2, .int v)]) (st' := [.int (C.2.2.2.2.2.1 k.toNatClampNeg)]) (L := [vp_in k 8, vp_in k 8]) rfl ⟨hk8, hk8⟩ ?_
  exact AW.iretE (amX3_setRain _) 32 hE rfl rfl rfl rfl rfl rfl rfl
set_option maxHeartbeats 2000000 in
theorem kX3_setRain_b1 {B : Nat} (th : Int32) (C A : CS) (L : Nat → Int32) (hV : VC B C) (k v : Int32) (h1 : sIn3 k 0 7 = 0) : AMet yX3_setRain cX3_setRain 4 (some .int) { frames := 1, cells := 0, slots := 0, locals := 22 } [.ref 0, .int k, .int v] (hX th C A L) (some (.int 0)) (hX 1 C A L) := by
  refine AMet.of (by decide) rfl ?_
  intro G hR hE hI
  refine AW.blk (amX3_setRain _) 0 6 (h' := hX 0 C A L) (pc' := 9) (lv' := [(0, .ref 0), (1, .int k), (2, .int v)]) (st' := [.int 7, .int 0, .int k]) (L := []) rfl trivial ?_
  refine AW.callSp (amX3_setRain _) 6 (kX3_isIn k 0 7) [] [] ykX3_isIn ysX3_isIn mlX3_44 rfl rfl rfl rfl hR ⟨Nat.le_of_ble_eq_true rfl, Nat.le_of_ble_eq_true rfl, Nat.le_of_ble_eq_true rfl, Nat.le_of_ble_eq_true rfl⟩ rfl rfl rfl rfl rfl (fun _ => rfl) (h1 := hX 0 C A L) rfl (st' := [.int (sIn3 k 0 7)]) rfl ?_
  refine AW.br (amX3_setRain _) 7 (tgt := 21) (C := ¬ (sIn3 k 0 7) = 0) (C' := (sIn3 k 0 7) = 0) (st' := []) rfl rfl rfl (fun c1 => absurd h1 c1) (fun c1 => ?_)
  refine AW.blk (amX3_setRain _) 8 2 (h' := hX 0 C A L) (pc' := 17) (lv' := [(0, .ref 0), (1, .int k), (2, .int v)]) (st' := [.int 1, .ref 0]) (L := []) rfl trivial ?_
  refine AW.callVp (amX3_setRain _) 10 (kX3_no 0 C.2.2.2.2.2.2.2.2.2.2.2.2.1 1) rfl rfl [0] [0, 1, 2, 3, 4, 5, 6, 7, 8, 9, 10, 11, 12, 13, 14, 15] ykX3_no yiX3_no yvX3_no mlX3_59 rfl rfl rfl rfl hR ⟨Nat.le_of_ble_eq_true rfl, Nat.le_of_ble_eq_true rfl, Nat.le_of_ble_eq_true rfl, Nat.le_of_ble_eq_true rfl⟩ rfl rfl rfl rfl rfl (fun _ => rfl) (h1 := hX 1 C A L) rfl (st' := [.int 0]) rfl ?_
  exact AW.iretE (amX3_setRain _) 11 hE rfl rfl rfl rfl rfl rfl rfl
set_option maxHeartbeats 2000000 in
theorem kX3_setRain_b2 {B : Nat} (th : Int32) (C A : CS) (L : Nat → Int32) (hV : VC B C) (k v : Int32) (h1 : ¬ sIn3 k 0 7 = 0) (h2 : sIn3 v 0 9 = 0) : AMet yX3_setRain cX3_setRain 4 (some .int) { frames := 1, cells := 0, slots := 0, locals := 22 } [.ref 0, .int k, .int v] (hX th C A L) (some (.int 0)) (hX 2 C A L) := by
  refine AMet.of (by decide) rfl ?_
  intro G hR hE hI
  refine AW.blk (amX3_setRain _) 0 6 (h' := hX 0 C A L) (pc' := 9) (lv' := [(0, .ref 0), (1, .int k), (2, .int v)]) (st' := [.int 7, .int 0, .int k]) (L := []) rfl trivial ?_
  refine AW.callSp (amX3_setRain _) 6 (kX3_isIn k 0 7) [] [] ykX3_isIn ysX3_isIn mlX3_44 rfl rfl rfl rfl hR ⟨Nat.le_of_ble_eq_true rfl, Nat.le_of_ble_eq_true rfl, Nat.le_of_ble_eq_true rfl, Nat.le_of_ble_eq_true rfl⟩ rfl rfl rfl rfl rfl (fun _ => rfl) (h1 := hX 0 C A L) rfl (st' := [.int (sIn3 k 0 7)]) rfl ?_
  refine AW.br (amX3_setRain _) 7 (tgt := 21) (C := ¬ (sIn3 k 0 7) = 0) (C' := (sIn3 k 0 7) = 0) (st' := []) rfl rfl rfl (fun c1 => ?_) (fun c1 => absurd c1 h1)
  refine AW.blk (amX3_setRain _) 12 3 (h' := hX 0 C A L) (pc' := 25) (lv' := [(0, .ref 0), (1, .int k), (2, .int v)]) (st' := [.int 9, .int 0, .int v]) (L := []) rfl trivial ?_
  refine AW.callSp (amX3_setRain _) 15 (kX3_isIn v 0 9) [] [] ykX3_isIn ysX3_isIn mlX3_44 rfl rfl rfl rfl hR ⟨Nat.le_of_ble_eq_true rfl, Nat.le_of_ble_eq_true rfl, Nat.le_of_ble_eq_true rfl, Nat.le_of_ble_eq_true rfl⟩ rfl rfl rfl rfl rfl (fun _ => rfl) (h1 := hX 0 C A L) rfl (st' := [.int (sIn3 v 0 9)]) rfl ?_
  refine AW.br (amX3_setRain _) 16 (tgt := 37) (C := ¬ (sIn3 v 0 9) = 0) (C' := (sIn3 v 0 9) = 0) (st' := []) rfl rfl rfl (fun c2 => absurd h2 c2) (fun c2 => ?_)
  refine AW.blk (amX3_setRain _) 17 2 (h' := hX 0 C A L) (pc' := 33) (lv' := [(0, .ref 0), (1, .int k), (2, .int v)]) (st' := [.int 2, .ref 0]) (L := []) rfl trivial ?_
  refine AW.callVp (amX3_setRain _) 19 (kX3_no 0 C.2.2.2.2.2.2.2.2.2.2.2.2.1 2) rfl rfl [0] [0, 1, 2, 3, 4, 5, 6, 7, 8, 9, 10, 11, 12, 13, 14, 15] ykX3_no yiX3_no yvX3_no mlX3_59 rfl rfl rfl rfl hR ⟨Nat.le_of_ble_eq_true rfl, Nat.le_of_ble_eq_true rfl, Nat.le_of_ble_eq_true rfl, Nat.le_of_ble_eq_true rfl⟩ rfl rfl rfl rfl rfl (fun _ => rfl) (h1 := hX 2 C A L) rfl (st' := [.int 0]) rfl ?_
  exact AW.iretE (amX3_setRain _) 20 hE rfl rfl rfl rfl rfl rfl rfl
set_option maxHeartbeats 2000000 in
theorem kX3_spill {B : Nat} (th : Int32) (C A : CS) (L : Nat → Int32) (hV : VC B C) (c m : Int32) (hc : ¬ sCr c = 0) (h2 : ¬ sIn3 m 1 50 = 0) : AMet yX3_spill cX3_spill 3 (some .int) { frames := 2, cells := 0, slots := 0, locals := 42 } [.ref 0, .int c, .int m] (hX th C A L) (some (.int (sAM c m C.1 c.toNatClampNeg))) (hX 0 (sAM c m C.1, C.2.1, C.2.2.1, C.2.2.2.1, C.2.2.2.2.1, C.2.2.2.2.2.1, C.2.2.2.2.2.2.1, C.2.2.2.2.2.2.2.1, C.2.2.2.2.2.2.2.2.1, C.2.2.2.2.2.2.2.2.2.1, C.2.2.2.2.2.2.2.2.2.2.1, C.2.2.2.2.2.2.2.2.2.2.2.1, C.2.2.2.2.2.2.2.2.2.2.2.2.1, C.2.2.2.2.2.2.2.2.2.2.2.2.2) A L) := by
  refine AMet.of (by decide) rfl ?_
  intro G hR hE hI
  have e9 : sAM c m C.1 = upd C.1 c.toNatClampNeg (imin 50 (C.1 c.toNatClampNeg + m)) := by rw [sAM, if_neg hc]
  rw [e9] at hE
  refine AW.blk (amX3_spill _) 0 4 (h' := hX 0 C A L) (pc' := 6) (lv' := [(0, .ref 0), (1, .int c), (2, .int m)]) (st' := [.int c]) (L := []) rfl trivial ?_
  refine AW.callSp (amX3_spill _) 4 (kX3_isCrossing c) [] [] ykX3_isCrossing ysX3_isCrossing mlX3_55 rfl rfl rfl rfl hR ⟨Nat.le_of_ble_eq_true rfl, Nat.le_of_ble_eq_true rfl, Nat.le_of_ble_eq_true rfl, Nat.le_of_ble_eq_true rfl⟩ rfl rfl rfl rfl rfl (fun _ => rfl) (h1 := hX 0 C A L) rfl (st' := [.int (sCr c)]) rfl ?_
  refine AW.br (amX3_spill _) 5 (tgt := 18) (C := ¬ (sCr c) = 0) (C' := (sCr c) = 0) (st' := []) rfl rfl rfl (fun c1 => ?_) (fun c1 => absurd c1 hc)
  refine AW.blk (amX3_spill _) 10 3 (h' := hX 0 C A L) (pc' := 22) (lv' := [(0, .ref 0), (1, .int c), (2, .int m)]) (st' := [.int 50, .int 1, .int m]) (L := []) rfl trivial ?_
  refine AW.callSp (amX3_spill _) 13 (kX3_isIn m 1 50) [] [] ykX3_isIn ysX3_isIn mlX3_44 rfl rfl rfl rfl hR ⟨Nat.le_of_ble_eq_true rfl, Nat.le_of_ble_eq_true rfl, Nat.le_of_ble_eq_true rfl, Nat.le_of_ble_eq_true rfl⟩ rfl rfl rfl rfl rfl (fun _ => rfl) (h1 := hX 0 C A L) rfl (st' := [.int (sIn3 m 1 50)]) rfl ?_
  refine AW.br (amX3_spill _) 14 (tgt := 34) (C := ¬ (sIn3 m 1 50) = 0) (C' := (sIn3 m 1 50) = 0) (st' := []) rfl rfl rfl (fun c2 => ?_) (fun c2 => absurd c2 h2)
  refine AW.blk (amX3_spill _) 19 12 (h' := hX 0 C A L) (pc' := 55) (lv' := [(0, .ref 0), (1, .int c), (2, .int m)]) (st' := [.int ((C.1 c.toNatClampNeg) + m), .int 50, .int c, .ref 7]) (L := [vp_in c 9]) rfl (sCr_in hc) ?_
  refine AW.mmin (amX3_spill _) 31 rfl kmmX3_66 hR rfl ⟨Nat.le_of_ble_eq_true rfl, Nat.le_of_ble_eq_true rfl, Nat.le_of_ble_eq_true rfl, Nat.le_of_ble_eq_true rfl⟩ ?_
  refine AW.blk (amX3_spill _) 32 6 (h' := hX 0 (upd C.1 c.toNatClampNeg (imin 50 ((C.1 c.toNatClampNeg) + m)), C.2.1, C.2.2.1, C.2.2.2.1, C.2.2.2.2.1, C.2.2.2.2.2.1, C.2.2.2.2.2.2.1, C.2.2.2.2.2.2.2.1, C.2.2.2.2.2.2.2.2.1, C.2.2.2.2.2.2.2.2.2.1, C.2.2.2.2.2.2.2.2.2.2.1, C.2.2.2.2.2.2.2.2.2.2.2.1, C.2.2.2.2.2.2.2.2.2.2.2.2.1, C.2.2.2.2.2.2.2.2.2.2.2.2.2) A L) (pc' := 68) (lv' := [(0, .ref 0), (1, .int c), (2, .int m)]) (st' := [.int ((upd C.1 c.toNatClampNeg (imin 50 ((C.1 c.toNatClampNeg) + m))) c.toNatClampNeg)]) (L := [vp_in c 9, vp_in c 9]) rfl ⟨(sCr_in hc), (sCr_in hc)⟩ ?_
  exact AW.iretE (amX3_spill _) 38 hE rfl rfl rfl rfl rfl rfl rfl
set_option maxHeartbeats 2000000 in
theorem kX3_spill_b1 {B : Nat} (th : Int32) (C A : CS) (L : Nat → Int32) (hV : VC B C) (c m : Int32) (hc : sCr c = 0) : AMet yX3_spill cX3_spill 3 (some .int) { frames := 2, cells := 0, slots := 0, locals := 42 } [.ref 0, .int c, .int m] (hX th C A L) (some (.int 0)) (hX 1 C A L) := by
  refine AMet.of (by decide) rfl ?_
  intro G hR hE hI
  refine AW.blk (amX3_spill _) 0 4 (h' := hX 0 C A L) (pc' := 6) (lv' := [(0, .ref 0), (1, .int c), (2, .int m)]) (st' := [.int c]) (L := []) rfl trivial ?_
  refine AW.callSp (amX3_spill _) 4 (kX3_isCrossing c) [] [] ykX3_isCrossing ysX3_isCrossing mlX3_55 rfl rfl rfl rfl hR ⟨Nat.le_of_ble_eq_true rfl, Nat.le_of_ble_eq_true rfl, Nat.le_of_ble_eq_true rfl, Nat.le_of_ble_eq_true rfl⟩ rfl rfl rfl rfl rfl (fun _ => rfl) (h1 := hX 0 C A L) rfl (st' := [.int (sCr c)]) rfl ?_
  refine AW.br (amX3_spill _) 5 (tgt := 18) (C := ¬ (sCr c) = 0) (C' := (sCr c) = 0) (st' := []) rfl rfl rfl (fun c1 => absurd hc c1) (fun c1 => ?_)
  refine AW.blk (amX3_spill _) 6 2 (h' := hX 0 C A L) (pc' := 14) (lv' := [(0, .ref 0), (1, .int c), (2, .int m)]) (st' := [.int 1, .ref 0]) (L := []) rfl trivial ?_
  refine AW.callVp (amX3_spill _) 8 (kX3_no 0 C.2.2.2.2.2.2.2.2.2.2.2.2.1 1) rfl rfl [0] [0, 1, 2, 3, 4, 5, 6, 7, 8, 9, 10, 11, 12, 13, 14, 15] ykX3_no yiX3_no yvX3_no mlX3_59 rfl rfl rfl rfl hR ⟨Nat.le_of_ble_eq_true rfl, Nat.le_of_ble_eq_true rfl, Nat.le_of_ble_eq_true rfl, Nat.le_of_ble_eq_true rfl⟩ rfl rfl rfl rfl rfl (fun _ => rfl) (h1 := hX 1 C A L) rfl (st' := [.int 0]) rfl ?_
  exact AW.iretE (amX3_spill _) 9 hE rfl rfl rfl rfl rfl rfl rfl
set_option maxHeartbeats 2000000 in
theorem kX3_spill_b2 {B : Nat} (th : Int32) (C A : CS) (L : Nat → Int32) (hV : VC B C) (c m : Int32) (hc : ¬ sCr c = 0) (h2 : sIn3 m 1 50 = 0) : AMet yX3_spill cX3_spill 3 (some .int) { frames := 2, cells := 0, slots := 0, locals := 42 } [.ref 0, .int c, .int m] (hX th C A L) (some (.int 0)) (hX 2 C A L) := by
  refine AMet.of (by decide) rfl ?_
  intro G hR hE hI
  refine AW.blk (amX3_spill _) 0 4 (h' := hX 0 C A L) (pc' := 6) (lv' := [(0, .ref 0), (1, .int c), (2, .int m)]) (st' := [.int c]) (L := []) rfl trivial ?_
  refine AW.callSp (amX3_spill _) 4 (kX3_isCrossing c) [] [] ykX3_isCrossing ysX3_isCrossing mlX3_55 rfl rfl rfl rfl hR ⟨Nat.le_of_ble_eq_true rfl, Nat.le_of_ble_eq_true rfl, Nat.le_of_ble_eq_true rfl, Nat.le_of_ble_eq_true rfl⟩ rfl rfl rfl rfl rfl (fun _ => rfl) (h1 := hX 0 C A L) rfl (st' := [.int (sCr c)]) rfl ?_
  refine AW.br (amX3_spill _) 5 (tgt := 18) (C := ¬ (sCr c) = 0) (C' := (sCr c) = 0) (st' := []) rfl rfl rfl (fun c1 => ?_) (fun c1 => absurd c1 hc)
  refine AW.blk (amX3_spill _) 10 3 (h' := hX 0 C A L) (pc' := 22) (lv' := [(0, .ref 0), (1, .int c), (2, .int m)]) (st' := [.int 50, .int 1, .int m]) (L := []) rfl trivial ?_
  refine AW.callSp (amX3_spill _) 13 (kX3_isIn m 1 50) [] [] ykX3_isIn ysX3_isIn mlX3_44 rfl rfl rfl rfl hR ⟨Nat.le_of_ble_eq_true rfl, Nat.le_of_ble_eq_true rfl, Nat.le_of_ble_eq_true rfl, Nat.le_of_ble_eq_true rfl⟩ rfl rfl rfl rfl rfl (fun _ => rfl) (h1 := hX 0 C A L) rfl (st' := [.int (sIn3 m 1 50)]) rfl ?_
  refine AW.br (amX3_spill _) 14 (tgt := 34) (C := ¬ (sIn3 m 1 50) = 0) (C' := (sIn3 m 1 50) = 0) (st' := []) rfl rfl rfl (fun c2 => absurd h2 c2) (fun c2 => ?_)
  refine AW.blk (amX3_spill _) 15 2 (h' := hX 0 C A L) (pc' := 30) (lv' := [(0, .ref 0), (1, .int c), (2, .int m)]) (st' := [.int 2, .ref 0]) (L := []) rfl trivial ?_
  refine AW.callVp (amX3_spill _) 17 (kX3_no 0 C.2.2.2.2.2.2.2.2.2.2.2.2.1 2) rfl rfl [0] [0, 1, 2, 3, 4, 5, 6, 7, 8, 9, 10, 11, 12, 13, 14, 15] ykX3_no yiX3_no yvX3_no mlX3_59 rfl rfl rfl rfl hR ⟨Nat.le_of_ble_eq_true rfl, Nat.le_of_ble_eq_true rfl, Nat.le_of_ble_eq_true rfl, Nat.le_of_ble_eq_true rfl⟩ rfl rfl rfl rfl rfl (fun _ => rfl) (h1 := hX 2 C A L) rfl (st' := [.int 0]) rfl ?_
  exact AW.iretE (amX3_spill _) 18 hE rfl rfl rfl rfl rfl rfl rfl
set_option maxHeartbeats 2000000 in
theorem kX3_come {B : Nat} (th : Int32) (C A : CS) (L : Nat → Int32) (hV : VC B C) (c s : Int32) (hc : ¬ sCr c = 0) (h2 : ¬ sIn3 s 1 9 = 0) (h3 : vp_in C.2.2.2.2.2.2.2.2.2.2.2.2.1 8) : AMet yX3_come cX3_come 3 (some .int) { frames := 2, cells := 0, slots := 0, locals := 42 } [.ref 0, .int c, .int s] (hX th C A L) (some (.int C.2.2.2.2.2.2.2.2.2.2.2.2.1)) (hX 0 (C.1, C.2.1, C.2.2.1, C.2.2.2.1, C.2.2.2.2.1, C.2.2.2.2.2.1, upd C.2.2.2.2.2.2.1 C.2.2.2.2.2.2.2.2.2.2.2.2.1.toNatClampNeg c, upd C.2.2.2.2.2.2.2.1 C.2.2.2.2.2.2.2.2.2.2.2.2.1.toNatClampNeg s, upd C.2.2.2.2.2.2.2.2.1 C.2.2.2.2.2.2.2.2.2.2.2.2.1.toNatClampNeg 40, C.2.2.2.2.2.2.2.2.2.1, C.2.2.2.2.2.2.2.2.2.2.1, C.2.2.2.2.2.2.2.2.2.2.2.1, C.2.2.2.2.2.2.2.2.2.2.2.2.1 + 1, C.2.2.2.2.2.2.2.2.2.2.2.2.2) A L) := by
  refine AMet.of (by decide) rfl ?_
  intro G hR hE hI
  have h8 : ¬ C.2.2.2.2.2.2.2.2.2.2.2.2.1 = 8 := fun z => absurd (z ▸ h3) (by unfold vp_in; decide)
  have e9 : C.2.2.2.2.2.2.2.2.2.2.2.2.1 + 1 - 1 = C.2.2.2.2.2.2.2.2.2.2.2.2.1 := Int32.add_sub_cancel _ _
  refine AW.blk (amX3_come _) 0 4 (h' := hX 0 C A L) (pc' := 6) (lv' := [(0, .ref 0), (1, .int c), (2, .int s)]) (st' := [.int c]) (L := []) rfl trivial ?_
  refine AW.callSp (amX3_come _) 4 (kX3_isCrossing c) [] [] ykX3_isCrossing ysX3_isCrossing mlX3_55 rfl rfl rfl rfl hR ⟨Nat.le_of_ble_eq_true rfl, Nat.le_of_ble_eq_true rfl, Nat.le_of_ble_eq_true rfl, Nat.le_of_ble_eq_true rfl⟩ rfl rfl rfl rfl rfl (fun _ => rfl) (h1 := hX 0 C A L) rfl (st' := [.int (sCr c)]) rfl ?_
  refine AW.br (amX3_come _) 5 (tgt := 18) (C := ¬ (sCr c) = 0) (C' := (sCr c) = 0) (st' := []) rfl rfl rfl (fun c1 => ?_) (fun c1 => absurd c1 hc)
  refine AW.blk (amX3_come _) 10 3 (h' := hX 0 C A L) (pc' := 22) (lv' := [(0, .ref 0), (1, .int c), (2, .int s)]) (st' := [.int 9, .int 1, .int s]) (L := []) rfl trivial ?_
  refine AW.callSp (amX3_come _) 13 (kX3_isIn s 1 9) [] [] ykX3_isIn ysX3_isIn mlX3_44 rfl rfl rfl rfl hR ⟨Nat.le_of_ble_eq_true rfl, Nat.le_of_ble_eq_true rfl, Nat.le_of_ble_eq_true rfl, Nat.le_of_ble_eq_true rfl⟩ rfl rfl rfl rfl rfl (fun _ => rfl) (h1 := hX 0 C A L) rfl (st' := [.int (sIn3 s 1 9)]) rfl ?_
  refine AW.br (amX3_come _) 14 (tgt := 34) (C := ¬ (sIn3 s 1 9) = 0) (C' := (sIn3 s 1 9) = 0) (st' := []) rfl rfl rfl (fun c2 => ?_) (fun c2 => absurd c2 h2)
  refine AW.blk (amX3_come _) 19 3 (h' := hX 0 C A L) (pc' := 40) (lv' := [(0, .ref 0), (1, .int c), (2, .int s)]) (st' := [.int 8, .int C.2.2.2.2.2.2.2.2.2.2.2.2.1]) (L := []) rfl trivial ?_
  refine AW.br (amX3_come _) 22 (tgt := 49) (C := ¬ C.2.2.2.2.2.2.2.2.2.2.2.2.1 = 8) (C' := C.2.2.2.2.2.2.2.2.2.2.2.2.1 = 8) (st' := []) rfl rfl rfl (fun c3 => ?_) (fun c3 => absurd c3 h8)
  refine AW.blk (amX3_come _) 27 30 (h' := hX 0 (C.1, C.2.1, C.2.2.1, C.2.2.2.1, C.2.2.2.2.1, C.2.2.2.2.2.1, upd C.2.2.2.2.2.2.1 C.2.2.2.2.2.2.2.2.2.2.2.2.1.toNatClampNeg c, upd C.2.2.2.2.2.2.2.1 C.2.2.2.2.2.2.2.2.2.2.2.2.1.toNatClampNeg s, upd C.2.2.2.2.2.2.2.2.1 C.2.2.2.2.2.2.2.2.2.2.2.2.1.toNatClampNeg 40, C.2.2.2.2.2.2.2.2.2.1, C.2.2.2.2.2.2.2.2.2.2.1, C.2.2.2.2.2.2.2.2.2.2.2.1, C.2.2.2.2.2.2.2.2.2.2.2.2.1 + 1, C.2.2.2.2.2.2.2.2.2.2.2.2.2) A L) (pc' := 102) (lv' := [(0, .ref 0), (1, .int c), (2, .int s)]) (st' := [.int ((C.2.2.2.2.2.2.2.2.2.2.2.2.1 + 1) - 1)]) (L := [vp_in C.2.2.2.2.2.2.2.2.2.2.2.2.1 8, vp_in C.2.2.2.2.2.2.2.2.2.2.2.2.1 8, vp_in C.2.2.2.2.2.2.2.2.2.2.2.2.1 8]) rfl ⟨h3, h3, h3⟩ ?_
  exact AW.iretE (amX3_come _) 57 hE rfl rfl rfl rfl rfl e9.symm rfl
set_option maxHeartbeats 2000000 in
theorem kX3_come_b1 {B : Nat} (th : Int32) (C A : CS) (L : Nat → Int32) (hV : VC B C) (c s : Int32) (hc : sCr c = 0) : AMet yX3_come cX3_come 3 (some .int) { frames := 2, cells := 0, slots := 0, locals := 42 } [.ref 0, .int c, .int s] (hX th C A L) (some (.int 0)) (hX 1 C A L) := by
  refine AMet.of (by decide) rfl ?_
  intro G hR hE hI
  refine AW.blk (amX3_come _) 0 4 (h' := hX 0 C A L) (pc' := 6) (lv' := [(0, .ref 0), (1, .int c), (2, .int s)]) (st' := [.int c]) (L := []) rfl trivial ?_
  refine AW.callSp (amX3_come _) 4 (kX3_isCrossing c) [] [] ykX3_isCrossing ysX3_isCrossing mlX3_55 rfl rfl rfl rfl hR ⟨Nat.le_of_ble_eq_true rfl, Nat.le_of_ble_eq_true rfl, Nat.le_of_ble_eq_true rfl, Nat.le_of_ble_eq_true rfl⟩ rfl rfl rfl rfl rfl (fun _ => rfl) (h1 := hX 0 C A L) rfl (st' := [.int (sCr c)]) rfl ?_
  refine AW.br (amX3_come _) 5 (tgt := 18) (C := ¬ (sCr c) = 0) (C' := (sCr c) = 0) (st' := []) rfl rfl rfl (fun c1 => absurd hc c1) (fun c1 => ?_)
  refine AW.blk (amX3_come _) 6 2 (h' := hX 0 C A L) (pc' := 14) (lv' := [(0, .ref 0), (1, .int c), (2, .int s)]) (st' := [.int 1, .ref 0]) (L := []) rfl trivial ?_
  refine AW.callVp (amX3_come _) 8 (kX3_no 0 C.2.2.2.2.2.2.2.2.2.2.2.2.1 1) rfl rfl [0] [0, 1, 2, 3, 4, 5, 6, 7, 8, 9, 10, 11, 12, 13, 14, 15] ykX3_no yiX3_no yvX3_no mlX3_59 rfl rfl rfl rfl hR ⟨Nat.le_of_ble_eq_true rfl, Nat.le_of_ble_eq_true rfl, Nat.le_of_ble_eq_true rfl, Nat.le_of_ble_eq_true rfl⟩ rfl rfl rfl rfl rfl (fun _ => rfl) (h1 := hX 1 C A L) rfl (st' := [.int 0]) rfl ?_
  exact AW.iretE (amX3_come _) 9 hE rfl rfl rfl rfl rfl rfl rfl
set_option maxHeartbeats 2000000 in
theorem kX3_come_b2 {B : Nat} (th : Int32) (C A : CS) (L : Nat → Int32) (hV : VC B C) (c s : Int32) (hc : ¬ sCr c = 0) (h2 : sIn3 s 1 9 = 0) : AMet yX3_come cX3_come 3 (some .int) { frames := 2, cells := 0, slots := 0, locals := 42 } [.ref 0, .int c, .int s] (hX th C A L) (some (.int 0)) (hX 2 C A L) := by
  refine AMet.of (by decide) rfl ?_
  intro G hR hE hI
  refine AW.blk (amX3_come _) 0 4 (h' := hX 0 C A L) (pc' := 6) (lv' := [(0, .ref 0), (1, .int c), (2, .int s)]) (st' := [.int c]) (L := []) rfl trivial ?_
  refine AW.callSp (amX3_come _) 4 (kX3_isCrossing c) [] [] ykX3_isCrossing ysX3_isCrossing mlX3_55 rfl rfl rfl rfl hR ⟨Nat.le_of_ble_eq_true rfl, Nat.le_of_ble_eq_true rfl, Nat.le_of_ble_eq_true rfl, Nat.le_of_ble_eq_true rfl⟩ rfl rfl rfl rfl rfl (fun _ => rfl) (h1 := hX 0 C A L) rfl (st' := [.int (sCr c)]) rfl ?_
  refine AW.br (amX3_come _) 5 (tgt := 18) (C := ¬ (sCr c) = 0) (C' := (sCr c) = 0) (st' := []) rfl rfl rfl (fun c1 => ?_) (fun c1 => absurd c1 hc)
  refine AW.blk (amX3_come _) 10 3 (h' := hX 0 C A L) (pc' := 22) (lv' := [(0, .ref 0), (1, .int c), (2, .int s)]) (st' := [.int 9, .int 1, .int s]) (L := []) rfl trivial ?_
  refine AW.callSp (amX3_come _) 13 (kX3_isIn s 1 9) [] [] ykX3_isIn ysX3_isIn mlX3_44 rfl rfl rfl rfl hR ⟨Nat.le_of_ble_eq_true rfl, Nat.le_of_ble_eq_true rfl, Nat.le_of_ble_eq_true rfl, Nat.le_of_ble_eq_true rfl⟩ rfl rfl rfl rfl rfl (fun _ => rfl) (h1 := hX 0 C A L) rfl (st' := [.int (sIn3 s 1 9)]) rfl ?_
  refine AW.br (amX3_come _) 14 (tgt := 34) (C := ¬ (sIn3 s 1 9) = 0) (C' := (sIn3 s 1 9) = 0) (st' := []) rfl rfl rfl (fun c2 => absurd h2 c2) (fun c2 => ?_)
  refine AW.blk (amX3_come _) 15 2 (h' := hX 0 C A L) (pc' := 30) (lv' := [(0, .ref 0), (1, .int c), (2, .int s)]) (st' := [.int 2, .ref 0]) (L := []) rfl trivial ?_
  refine AW.callVp (amX3_come _) 17 (kX3_no 0 C.2.2.2.2.2.2.2.2.2.2.2.2.1 2) rfl rfl [0] [0, 1, 2, 3, 4, 5, 6, 7, 8, 9, 10, 11, 12, 13, 14, 15] ykX3_no yiX3_no yvX3_no mlX3_59 rfl rfl rfl rfl hR ⟨Nat.le_of_ble_eq_true rfl, Nat.le_of_ble_eq_true rfl, Nat.le_of_ble_eq_true rfl, Nat.le_of_ble_eq_true rfl⟩ rfl rfl rfl rfl rfl (fun _ => rfl) (h1 := hX 2 C A L) rfl (st' := [.int 0]) rfl ?_
  exact AW.iretE (amX3_come _) 18 hE rfl rfl rfl rfl rfl rfl rfl
set_option maxHeartbeats 2000000 in
theorem kX3_come_b3 {B : Nat} (th : Int32) (C A : CS) (L : Nat → Int32) (hV : VC B C) (c s : Int32) (hc : ¬ sCr c = 0) (h2 : ¬ sIn3 s 1 9 = 0) (h3 : C.2.2.2.2.2.2.2.2.2.2.2.2.1 = 8) : AMet yX3_come cX3_come 3 (some .int) { frames := 2, cells := 0, slots := 0, locals := 42 } [.ref 0, .int c, .int s] (hX th C A L) (some (.int 0)) (hX 3 C A L) := by
  refine AMet.of (by decide) rfl ?_
  intro G hR hE hI
  refine AW.blk (amX3_come _) 0 4 (h' := hX 0 C A L) (pc' := 6) (lv' := [(0, .ref 0), (1, .int c), (2, .int s)]) (st' := [.int c]) (L := []) rfl trivial ?_
  refine AW.callSp (amX3_come _) 4 (kX3_isCrossing c) [] [] ykX3_isCrossing ysX3_isCrossing mlX3_55 rfl rfl rfl rfl hR ⟨Nat.le_of_ble_eq_true rfl, Nat.le_of_ble_eq_true rfl, Nat.le_of_ble_eq_true rfl, Nat.le_of_ble_eq_true rfl⟩ rfl rfl rfl rfl rfl (fun _ => rfl) (h1 := hX 0 C A L) rfl (st' := [.int (sCr c)]) rfl ?_
  refine AW.br (amX3_come _) 5 (tgt := 18) (C := ¬ (sCr c) = 0) (C' := (sCr c) = 0) (st' := []) rfl rfl rfl (fun c1 => ?_) (fun c1 => absurd c1 hc)
  refine AW.blk (amX3_come _) 10 3 (h' := hX 0 C A L) (pc' := 22) (lv' := [(0, .ref 0), (1, .int c), (2, .int s)]) (st' := [.int 9, .int 1, .int s]) (L := []) rfl trivial ?_
  refine AW.callSp (amX3_come _) 13 (kX3_isIn s 1 9) [] [] ykX3_isIn ysX3_isIn mlX3_44 rfl rfl rfl rfl hR ⟨Nat.le_of_ble_eq_true rfl, Nat.le_of_ble_eq_true rfl, Nat.le_of_ble_eq_true rfl, Nat.le_of_ble_eq_true rfl⟩ rfl rfl rfl rfl rfl (fun _ => rfl) (h1 := hX 0 C A L) rfl (st' := [.int (sIn3 s 1 9)]) rfl ?_
  refine AW.br (amX3_come _) 14 (tgt := 34) (C := ¬ (sIn3 s 1 9) = 0) (C' := (sIn3 s 1 9) = 0) (st' := []) rfl rfl rfl (fun c2 => ?_) (fun c2 => absurd c2 h2)
  refine AW.blk (amX3_come _) 19 3 (h' := hX 0 C A L) (pc' := 40) (lv' := [(0, .ref 0), (1, .int c), (2, .int s)]) (st' := [.int 8, .int C.2.2.2.2.2.2.2.2.2.2.2.2.1]) (L := []) rfl trivial ?_
  refine AW.br (amX3_come _) 22 (tgt := 49) (C := ¬ C.2.2.2.2.2.2.2.2.2.2.2.2.1 = 8) (C' := C.2.2.2.2.2.2.2.2.2.2.2.2.1 = 8) (st' := []) rfl rfl rfl (fun c3 => absurd h3 c3) (fun c3 => ?_)
  refine AW.blk (amX3_come _) 23 2 (h' := hX 0 C A L) (pc' := 45) (lv' := [(0, .ref 0), (1, .int c), (2, .int s)]) (st' := [.int 3, .ref 0]) (L := []) rfl trivial ?_
  refine AW.callVp (amX3_come _) 25 (kX3_no 0 C.2.2.2.2.2.2.2.2.2.2.2.2.1 3) rfl rfl [0] [0, 1, 2, 3, 4, 5, 6, 7, 8, 9, 10, 11, 12, 13, 14, 15] ykX3_no yiX3_no yvX3_no mlX3_59 rfl rfl rfl rfl hR ⟨Nat.le_of_ble_eq_true rfl, Nat.le_of_ble_eq_true rfl, Nat.le_of_ble_eq_true rfl, Nat.le_of_ble_eq_true rfl⟩ rfl rfl rfl rfl rfl (fun _ => rfl) (h1 := hX 3 C A L) rfl (st' := [.int 0]) rfl ?_
  exact AW.iretE (amX3_come _) 26 hE rfl rfl rfl rfl rfl rfl rfl
set_option maxHeartbeats 2000000 in
theorem kX3_send {B : Nat} (th : Int32) (C A : CS) (L : Nat → Int32) (hV : VC B C) (s c : Int32) (hs : ¬ sSw s C.2.2.2.2.2.2.2.2.2.2.2.2.1 = 0) (hc : ¬ sCr c = 0) : AMet yX3_send cX3_send 3 (some .int) { frames := 2, cells := 0, slots := 0, locals := 44 } [.ref 0, .int s, .int c] (hX th C A L) (some (.int (C.2.2.2.2.2.2.1 s.toNatClampNeg))) (hX 0 (cMove s c C) A L) := by
  refine AMet.of (by decide) rfl ?_
  intro G hR hE hI
  refine AW.blk (amX3_send _) 0 5 (h' := hX 0 C A L) (pc' := 7) (lv' := [(0, .ref 0), (1, .int s), (2, .int c)]) (st' := [.int s, .ref 0]) (L := []) rfl trivial ?_
  refine AW.callVp (amX3_send _) 5 (kIsS 0 C hV s) rfl rfl [0] [0, 1, 2, 3, 4, 5, 6, 7, 8, 9, 10, 11, 12, 13, 14, 15] ykX3_isSweeper yiX3_isSweeper yvX3_isSweeper mlX3_77 rfl rfl rfl rfl hR ⟨Nat.le_of_ble_eq_true rfl, Nat.le_of_ble_eq_true rfl, Nat.le_of_ble_eq_true rfl, Nat.le_of_ble_eq_true rfl⟩ rfl rfl rfl rfl rfl (fun _ => rfl) (h1 := hX 0 C A L) rfl (st' := [.int (sSw s C.2.2.2.2.2.2.2.2.2.2.2.2.1)]) rfl ?_
  refine AW.br (amX3_send _) 6 (tgt := 32) (C := (sSw s C.2.2.2.2.2.2.2.2.2.2.2.2.1) = 0) (C' := ¬ (sSw s C.2.2.2.2.2.2.2.2.2.2.2.2.1) = 0) (st' := []) rfl rfl rfl (fun c1 => absurd c1 hs) (fun c1 => ?_)
  refine AW.blk (amX3_send _) 7 1 (h' := hX 0 C A L) (pc' := 14) (lv' := [(0, .ref 0), (1, .int s), (2, .int c)]) (st' := [.int c]) (L := []) rfl trivial ?_
  refine AW.callSp (amX3_send _) 8 (kX3_isCrossing c) [] [] ykX3_isCrossing ysX3_isCrossing mlX3_55 rfl rfl rfl rfl hR ⟨Nat.le_of_ble_eq_true rfl, Nat.le_of_ble_eq_true rfl, Nat.le_of_ble_eq_true rfl, Nat.le_of_ble_eq_true rfl⟩ rfl rfl rfl rfl rfl (fun _ => rfl) (h1 := hX 0 C A L) rfl (st' := [.int (sCr c)]) rfl ?_
  refine AW.br (amX3_send _) 9 (tgt := 32) (C := (sCr c) = 0) (C' := ¬ (sCr c) = 0) (st' := []) rfl rfl rfl (fun c2 => absurd c2 hc) (fun c2 => ?_)
  refine AW.blk (amX3_send _) 10 4 (h' := hX 0 C A L) (pc' := 26) (lv' := [(0, .ref 0), (1, .int s), (2, .int c)]) (st' := [.int c, .int s, .ref 6]) (L := []) rfl trivial ?_
  refine AW.callVp (amX3_send _) 14 (kSend 0 C hV s c hs) rfl rfl [6, 7, 8, 9, 10, 11, 12, 13, 14, 0, 1, 2, 3, 4] [5, 6, 15] ykX2_send yiX2_send yvX2_send mlX3_80 rfl rfl rfl rfl hR ⟨Nat.le_of_ble_eq_true rfl, Nat.le_of_ble_eq_true rfl, Nat.le_of_ble_eq_true rfl, Nat.le_of_ble_eq_true rfl⟩ rfl rfl rfl rfl rfl (fun _ => rfl) (h1 := hX 0 (C.1, C.2.1, C.2.2.1, sMoH s C.2.2.2.2.2.2.2.2.2.2.2.2.1 C.2.2.2.2.2.2.1 C.2.2.2.1, C.2.2.2.2.1, C.2.2.2.2.2.1, sMoP s c C.2.2.2.2.2.2.2.2.2.2.2.2.1 C.2.2.2.2.2.2.1, C.2.2.2.2.2.2.2.1, C.2.2.2.2.2.2.2.2.1, C.2.2.2.2.2.2.2.2.2.1, C.2.2.2.2.2.2.2.2.2.2.1, C.2.2.2.2.2.2.2.2.2.2.2.1, C.2.2.2.2.2.2.2.2.2.2.2.2.1, C.2.2.2.2.2.2.2.2.2.2.2.2.2) A L) rfl (st' := [.int (C.2.2.2.2.2.2.1 s.toNatClampNeg)]) rfl ?_
  refine AW.blk (amX3_send _) 15 1 (h' := hX 0 (C.1, C.2.1, C.2.2.1, sMoH s C.2.2.2.2.2.2.2.2.2.2.2.2.1 C.2.2.2.2.2.2.1 C.2.2.2.1, C.2.2.2.2.1, C.2.2.2.2.2.1, sMoP s c C.2.2.2.2.2.2.2.2.2.2.2.2.1 C.2.2.2.2.2.2.1, C.2.2.2.2.2.2.2.1, C.2.2.2.2.2.2.2.2.1, C.2.2.2.2.2.2.2.2.2.1, C.2.2.2.2.2.2.2.2.2.2.1, C.2.2.2.2.2.2.2.2.2.2.2.1, C.2.2.2.2.2.2.2.2.2.2.2.2.1, C.2.2.2.2.2.2.2.2.2.2.2.2.2) A L) (pc' := 37) (lv' := [(0, .ref 0), (1, .int s), (2, .int c)]) (st' := [.int (C.2.2.2.2.2.2.1 s.toNatClampNeg)]) (L := []) rfl trivial ?_
  exact AW.iretE (amX3_send _) 19 hE rfl rfl rfl rfl rfl rfl rfl
set_option maxHeartbeats 2000000 in
theorem kX3_send_b1 {B : Nat} (th : Int32) (C A : CS) (L : Nat → Int32) (hV : VC B C) (s c : Int32) (hs : sSw s C.2.2.2.2.2.2.2.2.2.2.2.2.1 = 0) : AMet yX3_send cX3_send 3 (some .int) { frames := 2, cells := 0, slots := 0, locals := 44 } [.ref 0, .int s, .int c] (hX th C A L) (some (.int 0)) (hX 1 C A L) := by
  refine AMet.of (by decide) rfl ?_
  intro G hR hE hI
  refine AW.blk (amX3_send _) 0 5 (h' := hX 0 C A L) (pc' := 7) (lv' := [(0, .ref 0), (1, .int s), (2, .int c)]) (st' := [.int s, .ref 0]) (L := []) rfl trivial ?_
  refine AW.callVp (amX3_send _) 5 (kIsS 0 C hV s) rfl rfl [0] [0, 1, 2, 3, 4, 5, 6, 7, 8, 9, 10, 11, 12, 13, 14, 15] ykX3_isSweeper yiX3_isSweeper yvX3_isSweeper mlX3_77 rfl rfl rfl rfl hR ⟨Nat.le_of_ble_eq_true rfl, Nat.le_of_ble_eq_true rfl, Nat.le_of_ble_eq_true rfl, Nat.le_of_ble_eq_true rfl⟩ rfl rfl rfl rfl rfl (fun _ => rfl) (h1 := hX 0 C A L) rfl (st' := [.int (sSw s C.2.2.2.2.2.2.2.2.2.2.2.2.1)]) rfl ?_
  refine AW.br (amX3_send _) 6 (tgt := 32) (C := (sSw s C.2.2.2.2.2.2.2.2.2.2.2.2.1) = 0) (C' := ¬ (sSw s C.2.2.2.2.2.2.2.2.2.2.2.2.1) = 0) (st' := []) rfl rfl rfl (fun c1 => ?_) (fun c1 => absurd hs c1)
  refine AW.blk (amX3_send _) 16 2 (h' := hX 0 C A L) (pc' := 34) (lv' := [(0, .ref 0), (1, .int s), (2, .int c)]) (st' := [.int 1, .ref 0]) (L := []) rfl trivial ?_
  refine AW.callVp (amX3_send _) 18 (kX3_no 0 C.2.2.2.2.2.2.2.2.2.2.2.2.1 1) rfl rfl [0] [0, 1, 2, 3, 4, 5, 6, 7, 8, 9, 10, 11, 12, 13, 14, 15] ykX3_no yiX3_no yvX3_no mlX3_59 rfl rfl rfl rfl hR ⟨Nat.le_of_ble_eq_true rfl, Nat.le_of_ble_eq_true rfl, Nat.le_of_ble_eq_true rfl, Nat.le_of_ble_eq_true rfl⟩ rfl rfl rfl rfl rfl (fun _ => rfl) (h1 := hX 1 C A L) rfl (st' := [.int 0]) rfl ?_
  exact AW.iretE (amX3_send _) 19 hE rfl rfl rfl rfl rfl rfl rfl
set_option maxHeartbeats 2000000 in
theorem kX3_send_b2 {B : Nat} (th : Int32) (C A : CS) (L : Nat → Int32) (hV : VC B C) (s c : Int32) (hs : ¬ sSw s C.2.2.2.2.2.2.2.2.2.2.2.2.1 = 0) (hc : sCr c = 0) : AMet yX3_send cX3_send 3 (some .int) { frames := 2, cells := 0, slots := 0, locals := 44 } [.ref 0, .int s, .int c] (hX th C A L) (some (.int 0)) (hX 1 C A L) := by
  refine AMet.of (by decide) rfl ?_
  intro G hR hE hI
  refine AW.blk (amX3_send _) 0 5 (h' := hX 0 C A L) (pc' := 7) (lv' := [(0, .ref 0), (1, .int s), (2, .int c)]) (st' := [.int s, .ref 0]) (L := []) rfl trivial ?_
  refine AW.callVp (amX3_send _) 5 (kIsS 0 C hV s) rfl rfl [0] [0, 1, 2, 3, 4, 5, 6, 7, 8, 9, 10, 11, 12, 13, 14, 15] ykX3_isSweeper yiX3_isSweeper yvX3_isSweeper mlX3_77 rfl rfl rfl rfl hR ⟨Nat.le_of_ble_eq_true rfl, Nat.le_of_ble_eq_true rfl, Nat.le_of_ble_eq_true rfl, Nat.le_of_ble_eq_true rfl⟩ rfl rfl rfl rfl rfl (fun _ => rfl) (h1 := hX 0 C A L) rfl (st' := [.int (sSw s C.2.2.2.2.2.2.2.2.2.2.2.2.1)]) rfl ?_
  refine AW.br (amX3_send _) 6 (tgt := 32) (C := (sSw s C.2.2.2.2.2.2.2.2.2.2.2.2.1) = 0) (C' := ¬ (sSw s C.2.2.2.2.2.2.2.2.2.2.2.2.1) = 0) (st' := []) rfl rfl rfl (fun c1 => absurd c1 hs) (fun c1 => ?_)
  refine AW.blk (amX3_send _) 7 1 (h' := hX 0 C A L) (pc' := 14) (lv' := [(0, .ref 0), (1, .int s), (2, .int c)]) (st' := [.int c]) (L := []) rfl trivial ?_
  refine AW.callSp (amX3_send _) 8 (kX3_isCrossing c) [] [] ykX3_isCrossing ysX3_isCrossing mlX3_55 rfl rfl rfl rfl hR ⟨Nat.le_of_ble_eq_true rfl, Nat.le_of_ble_eq_true rfl, Nat.le_of_ble_eq_true rfl, Nat.le_of_ble_eq_true rfl⟩ rfl rfl rfl rfl rfl (fun _ => rfl) (h1 := hX 0 C A L) rfl (st' := [.int (sCr c)]) rfl ?_
  refine AW.br (amX3_send _) 9 (tgt := 32) (C := (sCr c) = 0) (C' := ¬ (sCr c) = 0) (st' := []) rfl rfl rfl (fun c2 => ?_) (fun c2 => absurd hc c2)
  refine AW.blk (amX3_send _) 16 2 (h' := hX 0 C A L) (pc' := 34) (lv' := [(0, .ref 0), (1, .int s), (2, .int c)]) (st' := [.int 1, .ref 0]) (L := []) rfl trivial ?_
  refine AW.callVp (amX3_send _) 18 (kX3_no 0 C.2.2.2.2.2.2.2.2.2.2.2.2.1 1) rfl rfl [0] [0, 1, 2, 3, 4, 5, 6, 7, 8, 9, 10, 11, 12, 13, 14, 15] ykX3_no yiX3_no yvX3_no mlX3_59 rfl rfl rfl rfl hR ⟨Nat.le_of_ble_eq_true rfl, Nat.le_of_ble_eq_true rfl, Nat.le_of_ble_eq_true rfl, Nat.le_of_ble_eq_true rfl⟩ rfl rfl rfl rfl rfl (fun _ => rfl) (h1 := hX 1 C A L) rfl (st' := [.int 0]) rfl ?_
  exact AW.iretE (amX3_send _) 19 hE rfl rfl rfl rfl rfl rfl rfl
set_option maxHeartbeats 2000000 in
theorem kX3_buy {B : Nat} (th : Int32) (C A : CS) (L : Nat → Int32) (hV : VC B C) (s : Int32) (hs : ¬ sSw s C.2.2.2.2.2.2.2.2.2.2.2.2.1 = 0) (h5 : 5 ≤ C.2.2.2.2.2.2.2.2.2.1 s.toNatClampNeg) : AMet yX3_buy cX3_buy 2 (some .int) { frames := 2, cells := 0, slots := 0, locals := 43 } [.ref 0, .int s] (hX th C A L) (some (.int (upd C.2.2.2.2.2.2.2.2.2.1 s.toNatClampNeg (C.2.2.2.2.2.2.2.2.2.1 s.toNatClampNeg - 5) s.toNatClampNeg))) (hX 0 (C.1, C.2.1, C.2.2.1, C.2.2.2.1, C.2.2.2.2.1, C.2.2.2.2.2.1, C.2.2.2.2.2.2.1, C.2.2.2.2.2.2.2.1, upd C.2.2.2.2.2.2.2.2.1 s.toNatClampNeg 40, upd C.2.2.2.2.2.2.2.2.2.1 s.toNatClampNeg (C.2.2.2.2.2.2.2.2.2.1 s.toNatClampNeg - 5), C.2.2.2.2.2.2.2.2.2.2.1, C.2.2.2.2.2.2.2.2.2.2.2.1, C.2.2.2.2.2.2.2.2.2.2.2.2.1, C.2.2.2.2.2.2.2.2.2.2.2.2.2) A L) := by
  refine AMet.of (by decide) rfl ?_
  intro G hR hE hI
  refine AW.blk (amX3_buy _) 0 5 (h' := hX 0 C A L) (pc' := 7) (lv' := [(0, .ref 0), (1, .int s)]) (st' := [.int s, .ref 0]) (L := []) rfl trivial ?_
  refine AW.callVp (amX3_buy _) 5 (kIsS 0 C hV s) rfl rfl [0] [0, 1, 2, 3, 4, 5, 6, 7, 8, 9, 10, 11, 12, 13, 14, 15] ykX3_isSweeper yiX3_isSweeper yvX3_isSweeper mlX3_77 rfl rfl rfl rfl hR ⟨Nat.le_of_ble_eq_true rfl, Nat.le_of_ble_eq_true rfl, Nat.le_of_ble_eq_true rfl, Nat.le_of_ble_eq_true rfl⟩ rfl rfl rfl rfl rfl (fun _ => rfl) (h1 := hX 0 C A L) rfl (st' := [.int (sSw s C.2.2.2.2.2.2.2.2.2.2.2.2.1)]) rfl ?_
  refine AW.br (amX3_buy _) 6 (tgt := 19) (C := ¬ (sSw s C.2.2.2.2.2.2.2.2.2.2.2.2.1) = 0) (C' := (sSw s C.2.2.2.2.2.2.2.2.2.2.2.2.1) = 0) (st' := []) rfl rfl rfl (fun c1 => ?_) (fun c1 => absurd c1 hs)
  refine AW.blk (amX3_buy _) 11 6 (h' := hX 0 C A L) (pc' := 29) (lv' := [(0, .ref 0), (1, .int s)]) (st' := [.int 5, .int (C.2.2.2.2.2.2.2.2.2.1 s.toNatClampNeg)]) (L := [vp_in s 8]) rfl (sSw_in hs) ?_
  refine AW.br (amX3_buy _) 17 (tgt := 38) (C := 5 ≤ (C.2.2.2.2.2.2.2.2.2.1 s.toNatClampNeg)) (C' := ¬ 5 ≤ (C.2.2.2.2.2.2.2.2.2.1 s.toNatClampNeg)) (st' := []) rfl rfl rfl (fun c2 => ?_) (fun c2 => absurd h5 c2)
  refine AW.blk (amX3_buy _) 22 20 (h' := hX 0 (C.1, C.2.1, C.2.2.1, C.2.2.2.1, C.2.2.2.2.1, C.2.2.2.2.2.1, C.2.2.2.2.2.2.1, C.2.2.2.2.2.2.2.1, upd C.2.2.2.2.2.2.2.2.1 s.toNatClampNeg 40, upd C.2.2.2.2.2.2.2.2.2.1 s.toNatClampNeg ((C.2.2.2.2.2.2.2.2.2.1 s.toNatClampNeg) - 5), C.2.2.2.2.2.2.2.2.2.2.1, C.2.2.2.2.2.2.2.2.2.2.2.1, C.2.2.2.2.2.2.2.2.2.2.2.2.1, C.2.2.2.2.2.2.2.2.2.2.2.2.2) A L) (pc' := 71) (lv' := [(0, .ref 0), (1, .int s)]) (st' := [.int ((upd C.2.2.2.2.2.2.2.2.2.1 s.toNatClampNeg ((C.2.2.2.2.2.2.2.2.2.1 s.toNatClampNeg) - 5)) s.toNatClampNeg)]) (L := [vp_in s 8, vp_in s 8, vp_in s 8, vp_in s 8]) rfl ⟨(sSw_in hs), (sSw_in hs), (sSw_in hs), (sSw_in hs)⟩ ?_
  exact AW.iretE (amX3_buy _) 42 hE rfl rfl rfl rfl rfl rfl rfl
set_option maxHeartbeats 2000000 in
theorem kX3_buy_b1 {B : Nat} (th : Int32) (C A : CS) (L : Nat → Int32) (hV : VC B C) (s : Int32) (hs : sSw s C.2.2.2.2.2.2.2.2.2.2.2.2.1 = 0) : AMet yX3_buy cX3_buy 2 (some .int) { frames := 2, cells := 0, slots := 0, locals := 43 } [.ref 0, .int s] (hX th C A L) (some (.int 0)) (hX 1 C A L) := by
  refine AMet.of (by decide) rfl ?_
  intro G hR hE hI
  refine AW.blk (amX3_buy _) 0 5 (h' := hX 0 C A L) (pc' := 7) (lv' := [(0, .ref 0), (1, .int s)]) (st' := [.int s, .ref 0]) (L := []) rfl trivial ?_
  refine AW.callVp (amX3_buy _) 5 (kIsS 0 C hV s) rfl rfl [0] [0, 1, 2, 3, 4, 5, 6, 7, 8, 9, 10, 11, 12, 13, 14, 15] ykX3_isSweeper yiX3_isSweeper yvX3_isSweeper mlX3_77 rfl rfl rfl rfl hR ⟨Nat.le_of_ble_eq_true rfl, Nat.le_of_ble_eq_true rfl, Nat.le_of_ble_eq_true rfl, Nat.le_of_ble_eq_true rfl⟩ rfl rfl rfl rfl rfl (fun _ => rfl) (h1 := hX 0 C A L) rfl (st' := [.int (sSw s C.2.2.2.2.2.2.2.2.2.2.2.2.1)]) rfl ?_
  refine AW.br (amX3_buy _) 6 (tgt := 19) (C := ¬ (sSw s C.2.2.2.2.2.2.2.2.2.2.2.2.1) = 0) (C' := (sSw s C.2.2.2.2.2.2.2.2.2.2.2.2.1) = 0) (st' := []) rfl rfl rfl (fun c1 => absurd hs c1) (fun c1 => ?_)
  refine AW.blk (amX3_buy _) 7 2 (h' := hX 0 C A L) (pc' := 15) (lv' := [(0, .ref 0), (1, .int s)]) (st' := [.int 1, .ref 0]) (L := []) rfl trivial ?_
  refine AW.callVp (amX3_buy _) 9 (kX3_no 0 C.2.2.2.2.2.2.2.2.2.2.2.2.1 1) rfl rfl [0] [0, 1, 2, 3, 4, 5, 6, 7, 8, 9, 10, 11, 12, 13, 14, 15] ykX3_no yiX3_no yvX3_no mlX3_59 rfl rfl rfl rfl hR ⟨Nat.le_of_ble_eq_true rfl, Nat.le_of_ble_eq_true rfl, Nat.le_of_ble_eq_true rfl, Nat.le_of_ble_eq_true rfl⟩ rfl rfl rfl rfl rfl (fun _ => rfl) (h1 := hX 1 C A L) rfl (st' := [.int 0]) rfl ?_
  exact AW.iretE (amX3_buy _) 10 hE rfl rfl rfl rfl rfl rfl rfl
set_option maxHeartbeats 2000000 in
theorem kX3_buy_b2 {B : Nat} (th : Int32) (C A : CS) (L : Nat → Int32) (hV : VC B C) (s : Int32) (hs : ¬ sSw s C.2.2.2.2.2.2.2.2.2.2.2.2.1 = 0) (h5 : ¬ 5 ≤ C.2.2.2.2.2.2.2.2.2.1 s.toNatClampNeg) : AMet yX3_buy cX3_buy 2 (some .int) { frames := 2, cells := 0, slots := 0, locals := 43 } [.ref 0, .int s] (hX th C A L) (some (.int 0)) (hX 2 C A L) := by
  refine AMet.of (by decide) rfl ?_
  intro G hR hE hI
  refine AW.blk (amX3_buy _) 0 5 (h' := hX 0 C A L) (pc' := 7) (lv' := [(0, .ref 0), (1, .int s)]) (st' := [.int s, .ref 0]) (L := []) rfl trivial ?_
  refine AW.callVp (amX3_buy _) 5 (kIsS 0 C hV s) rfl rfl [0] [0, 1, 2, 3, 4, 5, 6, 7, 8, 9, 10, 11, 12, 13, 14, 15] ykX3_isSweeper yiX3_isSweeper yvX3_isSweeper mlX3_77 rfl rfl rfl rfl hR ⟨Nat.le_of_ble_eq_true rfl, Nat.le_of_ble_eq_true rfl, Nat.le_of_ble_eq_true rfl, Nat.le_of_ble_eq_true rfl⟩ rfl rfl rfl rfl rfl (fun _ => rfl) (h1 := hX 0 C A L) rfl (st' := [.int (sSw s C.2.2.2.2.2.2.2.2.2.2.2.2.1)]) rfl ?_
  refine AW.br (amX3_buy _) 6 (tgt := 19) (C := ¬ (sSw s C.2.2.2.2.2.2.2.2.2.2.2.2.1) = 0) (C' := (sSw s C.2.2.2.2.2.2.2.2.2.2.2.2.1) = 0) (st' := []) rfl rfl rfl (fun c1 => ?_) (fun c1 => absurd c1 hs)
  refine AW.blk (amX3_buy _) 11 6 (h' := hX 0 C A L) (pc' := 29) (lv' := [(0, .ref 0), (1, .int s)]) (st' := [.int 5, .int (C.2.2.2.2.2.2.2.2.2.1 s.toNatClampNeg)]) (L := [vp_in s 8]) rfl (sSw_in hs) ?_
  refine AW.br (amX3_buy _) 17 (tgt := 38) (C := 5 ≤ (C.2.2.2.2.2.2.2.2.2.1 s.toNatClampNeg)) (C' := ¬ 5 ≤ (C.2.2.2.2.2.2.2.2.2.1 s.toNatClampNeg)) (st' := []) rfl rfl rfl (fun c2 => absurd c2 h5) (fun c2 => ?_)
  refine AW.blk (amX3_buy _) 18 2 (h' := hX 0 C A L) (pc' := 34) (lv' := [(0, .ref 0), (1, .int s)]) (st' := [.int 2, .ref 0]) (L := []) rfl trivial ?_
  refine AW.callVp (amX3_buy _) 20 (kX3_no 0 C.2.2.2.2.2.2.2.2.2.2.2.2.1 2) rfl rfl [0] [0, 1, 2, 3, 4, 5, 6, 7, 8, 9, 10, 11, 12, 13, 14, 15] ykX3_no yiX3_no yvX3_no mlX3_59 rfl rfl rfl rfl hR ⟨Nat.le_of_ble_eq_true rfl, Nat.le_of_ble_eq_true rfl, Nat.le_of_ble_eq_true rfl, Nat.le_of_ble_eq_true rfl⟩ rfl rfl rfl rfl rfl (fun _ => rfl) (h1 := hX 2 C A L) rfl (st' := [.int 0]) rfl ?_
  exact AW.iretE (amX3_buy _) 21 hE rfl rfl rfl rfl rfl rfl rfl
set_option maxHeartbeats 2000000 in
theorem kX3_pass {B : Nat} (th : Int32) (C A : CS) (L : Nat → Int32) (hV : VC B C) (hB : B + 96 < 2 ^ 31) (t : Int32) (h1 : ¬ sIn3 t 1 96 = 0) : AMet yX3_pass cX3_pass 2 (some .int) { frames := 5, cells := 0, slots := 0, locals := 114 } [.ref 0, .int t] (hX th C A L) (some (.int (sLive t C).1)) (hX 0 (sLive t C).2 A L) := by
  refine AMet.of (by decide) rfl ?_
  intro G hR hE hI
  have hfx : hX 0 (sLive t C).2 A L = hX 0 ((sLive t C).2.1, C.2.1, C.2.2.1, (sLive t C).2.2.2.2.1, (sLive t C).2.2.2.2.2.1, C.2.2.2.2.2.1, (sLive t C).2.2.2.2.2.2.2.1, C.2.2.2.2.2.2.2.1, (sLive t C).2.2.2.2.2.2.2.2.2.1, (sLive t C).2.2.2.2.2.2.2.2.2.2.1, (sLive t C).2.2.2.2.2.2.2.2.2.2.2.1, (sLive t C).2.2.2.2.2.2.2.2.2.2.2.2.1, C.2.2.2.2.2.2.2.2.2.2.2.2.1, (sLive t C).2.2.2.2.2.2.2.2.2.2.2.2.2.2) A L := by
    obtain ⟨x1, x2, x3, x4, x5⟩ := fx_L t C
    unfold hX
    rw [x1, x2, x3, x4, x5]
  refine AW.blk (amX3_pass _) 0 4 (h' := hX 0 C A L) (pc' := 6) (lv' := [(0, .ref 0), (1, .int t)]) (st' := [.int t]) (L := []) rfl trivial ?_
  refine AW.callSp (amX3_pass _) 4 (kX3_isTime t) [] [] ykX3_isTime ysX3_isTime mlX3_124 rfl rfl rfl rfl hR ⟨Nat.le_of_ble_eq_true rfl, Nat.le_of_ble_eq_true rfl, Nat.le_of_ble_eq_true rfl, Nat.le_of_ble_eq_true rfl⟩ rfl rfl rfl rfl rfl (fun _ => rfl) (h1 := hX 0 C A L) rfl (st' := [.int (sIn3 t 1 96)]) rfl ?_
  refine AW.br (amX3_pass _) 5 (tgt := 23) (C := (sIn3 t 1 96) = 0) (C' := ¬ (sIn3 t 1 96) = 0) (st' := []) rfl rfl rfl (fun c1 => absurd c1 h1) (fun c1 => ?_)
  refine AW.blk (amX3_pass _) 6 3 (h' := hX 0 C A L) (pc' := 17) (lv' := [(0, .ref 0), (1, .int t)]) (st' := [.int t, .ref 6]) (L := []) rfl trivial ?_
  refine AW.callVp (amX3_pass _) 9 (kLv 0 C hV hB t (in3_ge h1) (in3_le h1)) rfl rfl [6, 7, 8, 9, 10, 11, 12, 13, 14, 0, 1, 2, 3, 4] [5, 6, 15] ykX2_pass_ yiX2_pass_ yvX2_pass_ mlX3_127 rfl rfl rfl rfl hR ⟨Nat.le_of_ble_eq_true rfl, Nat.le_of_ble_eq_true rfl, Nat.le_of_ble_eq_true rfl, Nat.le_of_ble_eq_true rfl⟩ rfl rfl rfl rfl rfl (fun _ => rfl) (h1 := hX 0 ((sLive t C).2.1, C.2.1, C.2.2.1, (sLive t C).2.2.2.2.1, (sLive t C).2.2.2.2.2.1, C.2.2.2.2.2.1, (sLive t C).2.2.2.2.2.2.2.1, C.2.2.2.2.2.2.2.1, (sLive t C).2.2.2.2.2.2.2.2.2.1, (sLive t C).2.2.2.2.2.2.2.2.2.2.1, (sLive t C).2.2.2.2.2.2.2.2.2.2.2.1, (sLive t C).2.2.2.2.2.2.2.2.2.2.2.2.1, C.2.2.2.2.2.2.2.2.2.2.2.2.1, (sLive t C).2.2.2.2.2.2.2.2.2.2.2.2.2.2) A L) rfl (st' := [.int ((sLive t C).1)]) rfl ?_
  refine AW.blk (amX3_pass _) 10 1 (h' := hX 0 ((sLive t C).2.1, C.2.1, C.2.2.1, (sLive t C).2.2.2.2.1, (sLive t C).2.2.2.2.2.1, C.2.2.2.2.2.1, (sLive t C).2.2.2.2.2.2.2.1, C.2.2.2.2.2.2.2.1, (sLive t C).2.2.2.2.2.2.2.2.2.1, (sLive t C).2.2.2.2.2.2.2.2.2.2.1, (sLive t C).2.2.2.2.2.2.2.2.2.2.2.1, (sLive t C).2.2.2.2.2.2.2.2.2.2.2.2.1, C.2.2.2.2.2.2.2.2.2.2.2.2.1, (sLive t C).2.2.2.2.2.2.2.2.2.2.2.2.2.2) A L) (pc' := 28) (lv' := [(0, .ref 0), (1, .int t)]) (st' := [.int ((sLive t C).1)]) (L := []) rfl trivial ?_
  exact AW.iretE (amX3_pass _) 14 hE rfl rfl rfl rfl rfl rfl hfx
set_option maxHeartbeats 2000000 in
theorem kX3_pass_b1 {B : Nat} (th : Int32) (C A : CS) (L : Nat → Int32) (hV : VC B C) (t : Int32) (h1 : sIn3 t 1 96 = 0) : AMet yX3_pass cX3_pass 2 (some .int) { frames := 5, cells := 0, slots := 0, locals := 114 } [.ref 0, .int t] (hX th C A L) (some (.int 0)) (hX 1 C A L) := by
  refine AMet.of (by decide) rfl ?_
  intro G hR hE hI
  refine AW.blk (amX3_pass _) 0 4 (h' := hX 0 C A L) (pc' := 6) (lv' := [(0, .ref 0), (1, .int t)]) (st' := [.int t]) (L := []) rfl trivial ?_
  refine AW.callSp (amX3_pass _) 4 (kX3_isTime t) [] [] ykX3_isTime ysX3_isTime mlX3_124 rfl rfl rfl rfl hR ⟨Nat.le_of_ble_eq_true rfl, Nat.le_of_ble_eq_true rfl, Nat.le_of_ble_eq_true rfl, Nat.le_of_ble_eq_true rfl⟩ rfl rfl rfl rfl rfl (fun _ => rfl) (h1 := hX 0 C A L) rfl (st' := [.int (sIn3 t 1 96)]) rfl ?_
  refine AW.br (amX3_pass _) 5 (tgt := 23) (C := (sIn3 t 1 96) = 0) (C' := ¬ (sIn3 t 1 96) = 0) (st' := []) rfl rfl rfl (fun c1 => ?_) (fun c1 => absurd h1 c1)
  refine AW.blk (amX3_pass _) 11 2 (h' := hX 0 C A L) (pc' := 25) (lv' := [(0, .ref 0), (1, .int t)]) (st' := [.int 1, .ref 0]) (L := []) rfl trivial ?_
  refine AW.callVp (amX3_pass _) 13 (kX3_no 0 C.2.2.2.2.2.2.2.2.2.2.2.2.1 1) rfl rfl [0] [0, 1, 2, 3, 4, 5, 6, 7, 8, 9, 10, 11, 12, 13, 14, 15] ykX3_no yiX3_no yvX3_no mlX3_59 rfl rfl rfl rfl hR ⟨Nat.le_of_ble_eq_true rfl, Nat.le_of_ble_eq_true rfl, Nat.le_of_ble_eq_true rfl, Nat.le_of_ble_eq_true rfl⟩ rfl rfl rfl rfl rfl (fun _ => rfl) (h1 := hX 1 C A L) rfl (st' := [.int 0]) rfl ?_
  exact AW.iretE (amX3_pass _) 14 hE rfl rfl rfl rfl rfl rfl rfl
