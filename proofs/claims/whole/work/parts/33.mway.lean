/-! ===== the reference: ways ===== -/
def mSp1 (mud : Nat → Int32) (c d : Nat) (L : Nat → Int32) : Nat → Int32 := if sNb (nI c) d = -1 then L else upd L (sNb (nI c) d).toNatClampNeg (imin (L (sNb (nI c) d).toNatClampNeg) (L (nI c).toNatClampNeg + mud (sNb (nI c) d).toNatClampNeg))
def mSp (mud : Nat → Int32) (c : Nat) (L : Nat → Int32) : Nat → Int32 := lpN (mSp1 mud c) 4 0 L
def mWC (mud : Nat → Int32) (c : Nat) (L : Nat → Int32) : Nat → Int32 := if 2147483647 ≤ L (nI c).toNatClampNeg then L else mSp mud c L
def mWR (mud : Nat → Int32) (_ : Nat) (L : Nat → Int32) : Nat → Int32 := lpN (mWC mud) 9 0 L
def mW0 (a : Int32) (mud : Nat → Int32) (i : Nat) (L : Nat → Int32) : Nat → Int32 := if nI i = a then upd L (nI i).toNatClampNeg (mud (nI i).toNatClampNeg) else upd L (nI i).toNatClampNeg 2147483647
def mWay (a : Int32) (mud L : Nat → Int32) : Nat → Int32 := lpN (mWR mud) 9 0 (lpN (mW0 a mud) 9 0 L)
set_option maxHeartbeats 2000000 in
theorem kX3_spread (th : Int32) (C A : CS) (L : Nat → Int32) (c : Nat) (hc : c < 9) : AMet yX3_spread cX3_spread 4 none { frames := 1, cells := 0, slots := 0, locals := 40 } [.ref 0, .int (nI c)] (hX th C A L) none (hX th C A (mSp C.1 c L)) := by
  refine AMet.of (by decide) rfl ?_
  intro G hR hE hI
  have E : ∀ (a : Nat → Int32), a = mSp C.1 c L → AW G (yX3_spread.cls, cX3_spread, 4, 24) (hX th C A a) 0 0 55 [(0, .ref 0)] [] := by
    intro a hf
    exact AW.vretE (amX3_spread _) 33 hE rfl rfl rfl rfl (by rw [hf])
  have K : ∀ (k i : Nat) (a : Nat → Int32), i + k = 4 → lpN (mSp1 C.1 c) k i a = mSp C.1 c L → AW G (yX3_spread.cls, cX3_spread, 4, 24) (hX th C A a) 0 0 2 [(2, .int (nI i)), (1, .int (nI c)), (0, .ref 0)] [] := by
    intro k
    induction k with
    | zero =>
      intro i a hi hf
      refine AW.blk (amX3_spread _) 2 2 (h' := hX th C A a) (pc' := 4) (lv' := [(2, .int (nI i)), (1, .int (nI c)), (0, .ref 0)]) (st' := [.int 4, .int (nI i)]) (L := []) rfl trivial ?_
      refine AW.br (amX3_spread _) 4 (tgt := 55) (C := 4 ≤ (nI i)) (C' := ¬ 4 ≤ (nI i)) (st' := []) rfl rfl rfl (fun c1 => ?_) (fun c1 => absurd (nI_le (a := 4) (b := i) (by omega) (by omega)) c1)
      refine AW.pick [2] (lv' := [(0, .ref 0)]) rfl ?_
      exact E _ hf
    | succ k ih =>
      intro i a hi hf
      refine AW.blk (amX3_spread _) 2 2 (h' := hX th C A a) (pc' := 4) (lv' := [(2, .int (nI i)), (1, .int (nI c)), (0, .ref 0)]) (st' := [.int 4, .int (nI i)]) (L := []) rfl trivial ?_
      refine AW.br (amX3_spread _) 4 (tgt := 55) (C := 4 ≤ (nI i)) (C' := ¬ 4 ≤ (nI i)) (st' := []) rfl rfl rfl (fun c1 => absurd c1 (nI_ge (a := i) (b := 4) (by omega) (by omega))) (fun c1 => ?_)
      refine AW.blk (amX3_spread _) 5 2 (h' := hX th C A a) (pc' := 9) (lv' := [(2, .int (nI i)), (1, .int (nI c)), (0, .ref 0)]) (st' := [.int (nI i), .int (nI c)]) (L := []) rfl trivial ?_
      refine AW.callSp (amX3_spread _) 7 (kX3_beside (nI c) i (by omega)) [] [] ykX3_beside ysX3_beside mlX3_51 rfl rfl rfl rfl hR ⟨Nat.le_of_ble_eq_true rfl, Nat.le_of_ble_eq_true rfl, Nat.le_of_ble_eq_true rfl, Nat.le_of_ble_eq_true rfl⟩ rfl rfl rfl rfl rfl (fun _ => rfl) (h1 := hX th C A a) rfl (st' := [.int (sNb (nI c) i)]) rfl ?_
      refine AW.blk (amX3_spread _) 8 3 (h' := hX th C A a) (pc' := 15) (lv' := [(3, .int (sNb (nI c) i)), (2, .int (nI i)), (1, .int (nI c)), (0, .ref 0)]) (st' := [.int ((-1)), .int (sNb (nI c) i)]) (L := []) rfl trivial ?_
      refine AW.br (amX3_spread _) 11 (tgt := 49) (C := (sNb (nI c) i) = (-1)) (C' := ¬ (sNb (nI c) i) = (-1)) (st' := []) rfl rfl rfl (fun c2 => ?_) (fun c2 => ?_)
      · refine AW.blk (amX3_spread _) 31 2 (h' := hX th C A a) (pc' := 2) (lv' := [(2, .int ((nI i) + 1)), (3, .int (sNb (nI c) i)), (1, .int (nI c)), (0, .ref 0)]) (st' := []) (L := []) rfl trivial ?_
        refine AW.pick [0, 2, 3] (lv' := [(2, .int ((nI i) + 1)), (1, .int (nI c)), (0, .ref 0)]) rfl ?_
        rw [nI_1 i]
        exact ih (i + 1) _ (by omega) (by rw [← hf]; simp only [lpN, mSp1, if_neg c1, if_pos c2])
      · refine AW.blk (amX3_spread _) 12 17 (h' := hX th C A a) (pc' := 45) (lv' := [(3, .int (sNb (nI c) i)), (2, .int (nI i)), (1, .int (nI c)), (0, .ref 0)]) (st' := [.int ((a (nI c).toNatClampNeg) + (C.1 (sNb (nI c) i).toNatClampNeg)), .int (a (sNb (nI c) i).toNatClampNeg), .int (sNb (nI c) i), .ref 5]) (L := [vp_in (sNb (nI c) i) 9, vp_in (nI c) 9, vp_in (sNb (nI c) i) 9]) rfl ⟨((nb_in (vpi hc rfl) i (by omega)).resolve_left c2), (vpi hc rfl), ((nb_in (vpi hc rfl) i (by omega)).resolve_left c2)⟩ ?_
        refine AW.mmin (amX3_spread _) 29 rfl kmmX3_66 hR rfl ⟨Nat.le_of_ble_eq_true rfl, Nat.le_of_ble_eq_true rfl, Nat.le_of_ble_eq_true rfl, Nat.le_of_ble_eq_true rfl⟩ ?_
        refine AW.blk (amX3_spread _) 30 3 (h' := hX th C A (upd a (sNb (nI c) i).toNatClampNeg (imin (a (sNb (nI c) i).toNatClampNeg) ((a (nI c).toNatClampNeg) + (C.1 (sNb (nI c) i).toNatClampNeg))))) (pc' := 2) (lv' := [(2, .int ((nI i) + 1)), (3, .int (sNb (nI c) i)), (1, .int (nI c)), (0, .ref 0)]) (st' := []) (L := [vp_in (sNb (nI c) i) 9]) rfl ((nb_in (vpi hc rfl) i (by omega)).resolve_left c2) ?_
        refine AW.pick [0, 2, 3] (lv' := [(2, .int ((nI i) + 1)), (1, .int (nI c)), (0, .ref 0)]) rfl ?_
        rw [nI_1 i]
        exact ih (i + 1) _ (by omega) (by rw [← hf]; simp only [lpN, mSp1, if_neg c1, if_neg c2])
  refine AW.blk (amX3_spread _) 0 2 (h' := hX th C A L) (pc' := 2) (lv' := [(2, .int 0), (0, .ref 0), (1, .int (nI c))]) (st' := []) (L := []) rfl trivial ?_
  refine AW.pick [0, 2, 1] (lv' := [(2, .int 0), (1, .int (nI c)), (0, .ref 0)]) rfl ?_
  exact K 4 0 L rfl rfl
set_option maxHeartbeats 2000000 in
theorem kX3_way {B : Nat} (th : Int32) (C A : CS) (L : Nat → Int32) (hV : VC B C) (a b : Int32) (ha : ¬ sCr a = 0) (hb : ¬ sCr b = 0) : AMet yX3_way cX3_way 5 (some .int) { frames := 2, cells := 0, slots := 0, locals := 63 } [.ref 0, .int a, .int b] (hX th C A L) (some (.int (mWay a C.1 L b.toNatClampNeg))) (hX 0 C A (mWay a C.1 L)) := by
  refine AMet.of (by decide) rfl ?_
  intro G hR hE hI
  obtain ⟨FA, hFA⟩ : ∃ z, z = mWay a C.1 L := ⟨_, rfl⟩
  rw [← hFA] at hE
  have E3 : ∀ (z : Nat → Int32), z = FA → AW G (yX3_way.cls, cX3_way, 5, 24) (hX 0 C A z) 0 0 112 [(2, .int b), (0, .ref 0)] [] := by
    intro z hf
    refine AW.blk (amX3_way _) 57 4 (h' := hX 0 C A z) (pc' := 118) (lv' := [(2, .int b), (0, .ref 0)]) (st' := [.int (z b.toNatClampNeg)]) (L := [vp_in b 9]) rfl (sCr_in hb) ?_
    exact AW.iretE (amX3_way _) 61 hE rfl rfl rfl rfl rfl (by rw [hf]) (by rw [hf])
  have KI : ∀ (r : Nat) (F1 : Nat → Int32), (AW G (yX3_way.cls, cX3_way, 5, 24) (hX 0 C A F1) 0 0 106 [(3, .int (nI r)), (2, .int b), (0, .ref 0)] []) → ∀ (z : Nat → Int32), mWR C.1 r z = F1 → AW G (yX3_way.cls, cX3_way, 5, 24) (hX 0 C A z) 0 0 72 [(3, .int (nI r)), (2, .int b), (0, .ref 0)] [] := by
    intro r F1 E81 z0 hb0
    have EI : ∀ (z : Nat → Int32), z = F1 → AW G (yX3_way.cls, cX3_way, 5, 24) (hX 0 C A z) 0 0 106 [(3, .int (nI r)), (2, .int b), (0, .ref 0)] [] := fun z hb => by rw [hb]; exact E81
    have K : ∀ (k i : Nat) (z : Nat → Int32), i + k = 9 → lpN (mWC C.1) k i z = F1 → AW G (yX3_way.cls, cX3_way, 5, 24) (hX 0 C A z) 0 0 75 [(4, .int (nI i)), (3, .int (nI r)), (2, .int b), (0, .ref 0)] [] := by
      intro k
      induction k with
      | zero =>
        intro i z hi hf
        refine AW.blk (amX3_way _) 41 2 (h' := hX 0 C A z) (pc' := 79) (lv' := [(4, .int (nI i)), (3, .int (nI r)), (2, .int b), (0, .ref 0)]) (st' := [.int 9, .int (nI i)]) (L := []) rfl trivial ?_
        refine AW.br (amX3_way _) 43 (tgt := 106) (C := 9 ≤ (nI i)) (C' := ¬ 9 ≤ (nI i)) (st' := []) rfl rfl rfl (fun c1 => ?_) (fun c1 => absurd (nI_le (a := 9) (b := i) (by omega) (by omega)) c1)
        refine AW.pick [1, 2, 3] (lv' := [(3, .int (nI r)), (2, .int b), (0, .ref 0)]) rfl ?_
        exact EI _ hf
      | succ k ih =>
        intro i z hi hf
        refine AW.blk (amX3_way _) 41 2 (h' := hX 0 C A z) (pc' := 79) (lv' := [(4, .int (nI i)), (3, .int (nI r)), (2, .int b), (0, .ref 0)]) (st' := [.int 9, .int (nI i)]) (L := []) rfl trivial ?_
        refine AW.br (amX3_way _) 43 (tgt := 106) (C := 9 ≤ (nI i)) (C' := ¬ 9 ≤ (nI i)) (st' := []) rfl rfl rfl (fun c1 => absurd c1 (nI_ge (a := i) (b := 9) (by omega) (by omega))) (fun c1 => ?_)
        refine AW.blk (amX3_way _) 44 4 (h' := hX 0 C A z) (pc' := 89) (lv' := [(4, .int (nI i)), (3, .int (nI r)), (2, .int b), (0, .ref 0)]) (st' := [.int (z (nI i).toNatClampNeg)]) (L := [vp_in (nI i) 9]) rfl (vpi (by omega) rfl) ?_
        refine AW.ldcI (amX3_way _) 48 2147483647 rfl kcX3_132 ?_
        refine AW.br (amX3_way _) 49 (tgt := 100) (C := 2147483647 ≤ (z (nI i).toNatClampNeg)) (C' := ¬ 2147483647 ≤ (z (nI i).toNatClampNeg)) (st' := []) rfl rfl rfl (fun c2 => ?_) (fun c2 => ?_)
        · refine AW.blk (amX3_way _) 53 2 (h' := hX 0 C A z) (pc' := 75) (lv' := [(4, .int ((nI i) + 1)), (3, .int (nI r)), (2, .int b), (0, .ref 0)]) (st' := []) (L := []) rfl trivial ?_
          rw [nI_1 i]
          exact ih (i + 1) _ (by omega) (by rw [← hf]; simp only [lpN, mWC, if_neg c1, if_pos c2])
        · refine AW.blk (amX3_way _) 50 2 (h' := hX 0 C A z) (pc' := 97) (lv' := [(4, .int (nI i)), (3, .int (nI r)), (2, .int b), (0, .ref 0)]) (st' := [.int (nI i), .ref 0]) (L := []) rfl trivial ?_
          refine AW.callVp (amX3_way _) 52 (kX3_spread 0 C A z i (by omega)) rfl rfl [0, 1, 2, 3, 4, 5, 6, 7, 8, 9, 10, 11, 12, 13, 14, 15, 16, 17, 18, 19, 20, 21, 22, 23] [] ykX3_spread yiX3_spread yvX3_spread mlX3_133 rfl rfl rfl rfl hR ⟨Nat.le_of_ble_eq_true rfl, Nat.le_of_ble_eq_true rfl, Nat.le_of_ble_eq_true rfl, Nat.le_of_ble_eq_true rfl⟩ rfl rfl rfl rfl rfl (fun _ => rfl) (h1 := hX 0 C A (mSp C.1 i z)) rfl (st' := []) rfl ?_
          refine AW.blk (amX3_way _) 53 2 (h' := hX 0 C A (mSp C.1 i z)) (pc' := 75) (lv' := [(4, .int ((nI i) + 1)), (3, .int (nI r)), (2, .int b), (0, .ref 0)]) (st' := []) (L := []) rfl trivial ?_
          rw [nI_1 i]
          exact ih (i + 1) _ (by omega) (by rw [← hf]; simp only [lpN, mWC, if_neg c1, if_neg c2])
    refine AW.blk (amX3_way _) 39 2 (h' := hX 0 C A z0) (pc' := 75) (lv' := [(4, .int 0), (3, .int (nI r)), (2, .int b), (0, .ref 0)]) (st' := []) (L := []) rfl trivial ?_
    exact K 9 0 z0 rfl hb0
  have KO : ∀ (k i : Nat) (z : Nat → Int32), i + k = 9 → lpN (mWR C.1) k i z = FA → AW G (yX3_way.cls, cX3_way, 5, 24) (hX 0 C A z) 0 0 66 [(3, .int (nI i)), (2, .int b), (0, .ref 0)] [] := by
    intro k
    induction k with
    | zero =>
      intro i z hi hf
      refine AW.blk (amX3_way _) 36 2 (h' := hX 0 C A z) (pc' := 69) (lv' := [(3, .int (nI i)), (2, .int b), (0, .ref 0)]) (st' := [.int 9, .int (nI i)]) (L := []) rfl trivial ?_
      refine AW.br (amX3_way _) 38 (tgt := 112) (C := 9 ≤ (nI i)) (C' := ¬ 9 ≤ (nI i)) (st' := []) rfl rfl rfl (fun c1 => ?_) (fun c1 => absurd (nI_le (a := 9) (b := i) (by omega) (by omega)) c1)
      refine AW.pick [1, 2] (lv' := [(2, .int b), (0, .ref 0)]) rfl ?_
      exact E3 _ hf
    | succ k ih =>
      intro i z hi hf
      refine AW.blk (amX3_way _) 36 2 (h' := hX 0 C A z) (pc' := 69) (lv' := [(3, .int (nI i)), (2, .int b), (0, .ref 0)]) (st' := [.int 9, .int (nI i)]) (L := []) rfl trivial ?_
      refine AW.br (amX3_way _) 38 (tgt := 112) (C := 9 ≤ (nI i)) (C' := ¬ 9 ≤ (nI i)) (st' := []) rfl rfl rfl (fun c1 => absurd c1 (nI_ge (a := i) (b := 9) (by omega) (by omega))) (fun c1 => ?_)
      refine KI i _ ?_ z rfl
      refine AW.blk (amX3_way _) 55 2 (h' := hX 0 C A (mWR C.1 i z)) (pc' := 66) (lv' := [(3, .int ((nI i) + 1)), (2, .int b), (0, .ref 0)]) (st' := []) (L := []) rfl trivial ?_
      rw [nI_1 i]
      exact ih (i + 1) _ (by omega) (by rw [← hf]; simp only [lpN])
  obtain ⟨FB, hFB⟩ : ∃ z, z = lpN (mW0 a C.1) 9 0 L := ⟨_, rfl⟩
  have E1 : ∀ (z : Nat → Int32), z = FB → AW G (yX3_way.cls, cX3_way, 5, 24) (hX 0 C A z) 0 0 64 [(2, .int b), (0, .ref 0)] [] := by
    intro z hf
    refine AW.blk (amX3_way _) 34 2 (h' := hX 0 C A z) (pc' := 66) (lv' := [(3, .int 0), (2, .int b), (0, .ref 0)]) (st' := []) (L := []) rfl trivial ?_
    exact KO 9 0 z rfl (by rw [hf, hFB, hFA, mWay])
  have K1 : ∀ (k i : Nat) (z : Nat → Int32), i + k = 9 → lpN (mW0 a C.1) k i z = FB → AW G (yX3_way.cls, cX3_way, 5, 24) (hX 0 C A z) 0 0 27 [(3, .int (nI i)), (1, .int a), (2, .int b), (0, .ref 0)] [] := by
    intro k
    induction k with
    | zero =>
      intro i z hi hf
      refine AW.blk (amX3_way _) 15 2 (h' := hX 0 C A z) (pc' := 30) (lv' := [(3, .int (nI i)), (1, .int a), (2, .int b), (0, .ref 0)]) (st' := [.int 9, .int (nI i)]) (L := []) rfl trivial ?_
      refine AW.br (amX3_way _) 17 (tgt := 64) (C := 9 ≤ (nI i)) (C' := ¬ 9 ≤ (nI i)) (st' := []) rfl rfl rfl (fun c1 => ?_) (fun c1 => absurd (nI_le (a := 9) (b := i) (by omega) (by omega)) c1)
      refine AW.pick [2, 3] (lv' := [(2, .int b), (0, .ref 0)]) rfl ?_
      exact E1 _ hf
    | succ k ih =>
      intro i z hi hf
      refine AW.blk (amX3_way _) 15 2 (h' := hX 0 C A z) (pc' := 30) (lv' := [(3, .int (nI i)), (1, .int a), (2, .int b), (0, .ref 0)]) (st' := [.int 9, .int (nI i)]) (L := []) rfl trivial ?_
      refine AW.br (amX3_way _) 17 (tgt := 64) (C := 9 ≤ (nI i)) (C' := ¬ 9 ≤ (nI i)) (st' := []) rfl rfl rfl (fun c1 => absurd c1 (nI_ge (a := i) (b := 9) (by omega) (by omega))) (fun c1 => ?_)
      refine AW.blk (amX3_way _) 18 5 (h' := hX 0 C A z) (pc' := 40) (lv' := [(3, .int (nI i)), (1, .int a), (2, .int b), (0, .ref 0)]) (st' := [.int a, .int (nI i), .int (nI i), .ref 5]) (L := []) rfl trivial ?_
      refine AW.br (amX3_way _) 23 (tgt := 55) (C := ¬ (nI i) = a) (C' := (nI i) = a) (st' := [.int (nI i), .ref 5]) rfl rfl rfl (fun c2 => ?_) (fun c2 => ?_)
      · refine AW.ldcI (amX3_way _) 30 2147483647 rfl kcX3_132 ?_
        refine AW.blk (amX3_way _) 31 3 (h' := hX 0 C A (upd z (nI i).toNatClampNeg 2147483647)) (pc' := 27) (lv' := [(3, .int ((nI i) + 1)), (1, .int a), (2, .int b), (0, .ref 0)]) (st' := []) (L := [vp_in (nI i) 9]) rfl (vpi (by omega) rfl) ?_
        rw [nI_1 i]
        exact ih (i + 1) _ (by omega) (by rw [← hf]; simp only [lpN, mW0, if_neg c1, if_neg c2])
      · refine AW.blk (amX3_way _) 24 6 (h' := hX 0 C A z) (pc' := 57) (lv' := [(3, .int (nI i)), (1, .int a), (2, .int b), (0, .ref 0)]) (st' := [.int (C.1 (nI i).toNatClampNeg), .int (nI i), .ref 5]) (L := [vp_in (nI i) 9]) rfl (vpi (by omega) rfl) ?_
        refine AW.blk (amX3_way _) 31 3 (h' := hX 0 C A (upd z (nI i).toNatClampNeg (C.1 (nI i).toNatClampNeg))) (pc' := 27) (lv' := [(3, .int ((nI i) + 1)), (1, .int a), (2, .int b), (0, .ref 0)]) (st' := []) (L := [vp_in (nI i) 9]) rfl (vpi (by omega) rfl) ?_
        rw [nI_1 i]
        exact ih (i + 1) _ (by omega) (by rw [← hf]; simp only [lpN, mW0, if_neg c1, if_pos c2])
  refine AW.blk (amX3_way _) 0 4 (h' := hX 0 C A L) (pc' := 6) (lv' := [(0, .ref 0), (1, .int a), (2, .int b)]) (st' := [.int a]) (L := []) rfl trivial ?_
  refine AW.callSp (amX3_way _) 4 (kX3_isCrossing a) [] [] ykX3_isCrossing ysX3_isCrossing mlX3_55 rfl rfl rfl rfl hR ⟨Nat.le_of_ble_eq_true rfl, Nat.le_of_ble_eq_true rfl, Nat.le_of_ble_eq_true rfl, Nat.le_of_ble_eq_true rfl⟩ rfl rfl rfl rfl rfl (fun _ => rfl) (h1 := hX 0 C A L) rfl (st' := [.int (sCr a)]) rfl ?_
  refine AW.br (amX3_way _) 5 (tgt := 19) (C := (sCr a) = 0) (C' := ¬ (sCr a) = 0) (st' := []) rfl rfl rfl (fun c1 => absurd c1 ha) (fun c1 => ?_)
  refine AW.blk (amX3_way _) 6 1 (h' := hX 0 C A L) (pc' := 13) (lv' := [(0, .ref 0), (1, .int a), (2, .int b)]) (st' := [.int b]) (L := []) rfl trivial ?_
  refine AW.callSp (amX3_way _) 7 (kX3_isCrossing b) [] [] ykX3_isCrossing ysX3_isCrossing mlX3_55 rfl rfl rfl rfl hR ⟨Nat.le_of_ble_eq_true rfl, Nat.le_of_ble_eq_true rfl, Nat.le_of_ble_eq_true rfl, Nat.le_of_ble_eq_true rfl⟩ rfl rfl rfl rfl rfl (fun _ => rfl) (h1 := hX 0 C A L) rfl (st' := [.int (sCr b)]) rfl ?_
  refine AW.br (amX3_way _) 8 (tgt := 25) (C := ¬ (sCr b) = 0) (C' := (sCr b) = 0) (st' := []) rfl rfl rfl (fun c2 => ?_) (fun c2 => absurd c2 hb)
  refine AW.blk (amX3_way _) 13 2 (h' := hX 0 C A L) (pc' := 27) (lv' := [(3, .int 0), (0, .ref 0), (1, .int a), (2, .int b)]) (st' := []) (L := []) rfl trivial ?_
  refine AW.pick [0, 2, 3, 1] (lv' := [(3, .int 0), (1, .int a), (2, .int b), (0, .ref 0)]) rfl ?_
  exact K1 9 0 L rfl hFB.symm
set_option maxHeartbeats 2000000 in
theorem kX3_way_b1 {B : Nat} (th : Int32) (C A : CS) (L : Nat → Int32) (hV : VC B C) (a b : Int32) (ha : sCr a = 0) : AMet yX3_way cX3_way 5 (some .int) { frames := 2, cells := 0, slots := 0, locals := 63 } [.ref 0, .int a, .int b] (hX th C A L) (some (.int 0)) (hX 1 C A L) := by
  refine AMet.of (by decide) rfl ?_
  intro G hR hE hI
  refine AW.blk (amX3_way _) 0 4 (h' := hX 0 C A L) (pc' := 6) (lv' := [(0, .ref 0), (1, .int a), (2, .int b)]) (st' := [.int a]) (L := []) rfl trivial ?_
  refine AW.callSp (amX3_way _) 4 (kX3_isCrossing a) [] [] ykX3_isCrossing ysX3_isCrossing mlX3_55 rfl rfl rfl rfl hR ⟨Nat.le_of_ble_eq_true rfl, Nat.le_of_ble_eq_true rfl, Nat.le_of_ble_eq_true rfl, Nat.le_of_ble_eq_true rfl⟩ rfl rfl rfl rfl rfl (fun _ => rfl) (h1 := hX 0 C A L) rfl (st' := [.int (sCr a)]) rfl ?_
  refine AW.br (amX3_way _) 5 (tgt := 19) (C := (sCr a) = 0) (C' := ¬ (sCr a) = 0) (st' := []) rfl rfl rfl (fun c1 => ?_) (fun c1 => absurd ha c1)
  refine AW.blk (amX3_way _) 9 2 (h' := hX 0 C A L) (pc' := 21) (lv' := [(0, .ref 0), (1, .int a), (2, .int b)]) (st' := [.int 1, .ref 0]) (L := []) rfl trivial ?_
  refine AW.callVp (amX3_way _) 11 (kX3_no 0 C.2.2.2.2.2.2.2.2.2.2.2.2.1 1) rfl rfl [0] [0, 1, 2, 3, 4, 5, 6, 7, 8, 9, 10, 11, 12, 13, 14, 15] ykX3_no yiX3_no yvX3_no mlX3_59 rfl rfl rfl rfl hR ⟨Nat.le_of_ble_eq_true rfl, Nat.le_of_ble_eq_true rfl, Nat.le_of_ble_eq_true rfl, Nat.le_of_ble_eq_true rfl⟩ rfl rfl rfl rfl rfl (fun _ => rfl) (h1 := hX 1 C A L) rfl (st' := [.int 0]) rfl ?_
  exact AW.iretE (amX3_way _) 12 hE rfl rfl rfl rfl rfl rfl rfl
set_option maxHeartbeats 2000000 in
theorem kX3_way_b2 {B : Nat} (th : Int32) (C A : CS) (L : Nat → Int32) (hV : VC B C) (a b : Int32) (ha : ¬ sCr a = 0) (hb : sCr b = 0) : AMet yX3_way cX3_way 5 (some .int) { frames := 2, cells := 0, slots := 0, locals := 63 } [.ref 0, .int a, .int b] (hX th C A L) (some (.int 0)) (hX 1 C A L) := by
  refine AMet.of (by decide) rfl ?_
  intro G hR hE hI
  refine AW.blk (amX3_way _) 0 4 (h' := hX 0 C A L) (pc' := 6) (lv' := [(0, .ref 0), (1, .int a), (2, .int b)]) (st' := [.int a]) (L := []) rfl trivial ?_
  refine AW.callSp (amX3_way _) 4 (kX3_isCrossing a) [] [] ykX3_isCrossing ysX3_isCrossing mlX3_55 rfl rfl rfl rfl hR ⟨Nat.le_of_ble_eq_true rfl, Nat.le_of_ble_eq_true rfl, Nat.le_of_ble_eq_true rfl, Nat.le_of_ble_eq_true rfl⟩ rfl rfl rfl rfl rfl (fun _ => rfl) (h1 := hX 0 C A L) rfl (st' := [.int (sCr a)]) rfl ?_
  refine AW.br (amX3_way _) 5 (tgt := 19) (C := (sCr a) = 0) (C' := ¬ (sCr a) = 0) (st' := []) rfl rfl rfl (fun c1 => absurd c1 ha) (fun c1 => ?_)
  refine AW.blk (amX3_way _) 6 1 (h' := hX 0 C A L) (pc' := 13) (lv' := [(0, .ref 0), (1, .int a), (2, .int b)]) (st' := [.int b]) (L := []) rfl trivial ?_
  refine AW.callSp (amX3_way _) 7 (kX3_isCrossing b) [] [] ykX3_isCrossing ysX3_isCrossing mlX3_55 rfl rfl rfl rfl hR ⟨Nat.le_of_ble_eq_true rfl, Nat.le_of_ble_eq_true rfl, Nat.le_of_ble_eq_true rfl, Nat.le_of_ble_eq_true rfl⟩ rfl rfl rfl rfl rfl (fun _ => rfl) (h1 := hX 0 C A L) rfl (st' := [.int (sCr b)]) rfl ?_
  refine AW.br (amX3_way _) 8 (tgt := 25) (C := ¬ (sCr b) = 0) (C' := (sCr b) = 0) (st' := []) rfl rfl rfl (fun c2 => absurd hb c2) (fun c2 => ?_)
  refine AW.blk (amX3_way _) 9 2 (h' := hX 0 C A L) (pc' := 21) (lv' := [(0, .ref 0), (1, .int a), (2, .int b)]) (st' := [.int 1, .ref 0]) (L := []) rfl trivial ?_
  refine AW.callVp (amX3_way _) 11 (kX3_no 0 C.2.2.2.2.2.2.2.2.2.2.2.2.1 1) rfl rfl [0] [0, 1, 2, 3, 4, 5, 6, 7, 8, 9, 10, 11, 12, 13, 14, 15] ykX3_no yiX3_no yvX3_no mlX3_59 rfl rfl rfl rfl hR ⟨Nat.le_of_ble_eq_true rfl, Nat.le_of_ble_eq_true rfl, Nat.le_of_ble_eq_true rfl, Nat.le_of_ble_eq_true rfl⟩ rfl rfl rfl rfl rfl (fun _ => rfl) (h1 := hX 1 C A L) rfl (st' := [.int 0]) rfl ?_
  exact AW.iretE (amX3_way _) 12 hE rfl rfl rfl rfl rfl rfl rfl
