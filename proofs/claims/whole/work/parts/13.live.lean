/-- a quarter -/
def sWet (q : Int32) (rain : Nat → Int32) : Int32 := if q - q / 8 * 8 < 0 then 0 else if 8 ≤ q - q / 8 * 8 then 0 else rain (q - q / 8 * 8).toNatClampNeg
def sMd1 (w : Int32) (car : Nat → Int32) (i : Nat) (mud : Nat → Int32) : Nat → Int32 := sAM (nI i) (car (nI i).toNatClampNeg + w) mud
def sMd (w : Int32) (car mud : Nat → Int32) : Nat → Int32 := lpN (sMd1 w car) 9 0 mud
def sLk1 (n : Int32) (str wal : Nat → Int32) (i : Nat) (a : (Nat → Int32) × (Nat → Int32) × (Nat → Int32)) : (Nat → Int32) × (Nat → Int32) × (Nat → Int32) := if sHP (nI i) n a.1 a.2.1 = 0 then (sSkP (nI i) n str wal a.1 a.2.1, sSkH (nI i) n str a.1 a.2.1, sSkD (nI i) n str a.1 a.2.1 a.2.2) else a
def sLook (n : Int32) (str wal : Nat → Int32) (a : (Nat → Int32) × (Nat → Int32) × (Nat → Int32)) : (Nat → Int32) × (Nat → Int32) × (Nat → Int32) := lpS n (sLk1 n str wal) 8 0 a
def sSwQ (w n : Int32) (place hol str : Nat → Int32) (a : (Nat → Int32) × (Nat → Int32) × (Nat → Int32)) : (Nat → Int32) × (Nat → Int32) × (Nat → Int32) := if 6 ≤ w then a else sSweep n place hol str a
def sPyQ (w n : Int32) (hol mud wal : Nat → Int32) (a : Int32 × (Nat → Int32) × (Nat → Int32)) : Int32 × (Nat → Int32) × (Nat → Int32) := if 6 ≤ w then a else sPay n hol mud wal a
def hCt (C : CS) : aH := hC C.1 C.2.1 C.2.2.1 C.2.2.2.1 C.2.2.2.2.1 C.2.2.2.2.2.1 C.2.2.2.2.2.2.1 C.2.2.2.2.2.2.2.1 C.2.2.2.2.2.2.2.2.1 C.2.2.2.2.2.2.2.2.2.1 C.2.2.2.2.2.2.2.2.2.2.1 C.2.2.2.2.2.2.2.2.2.2.2.1 C.2.2.2.2.2.2.2.2.2.2.2.2.1 C.2.2.2.2.2.2.2.2.2.2.2.2.2
def sQw (mud car wal hol paid rain place str bro pen swe dri : Nat → Int32) (n q w : Int32) : Int32 × CS :=
  let S := sSwQ w n place hol str (sMd w car mud, bro, swe)
  let Y := sPyQ w n hol S.1 wal (0, pen, paid)
  let L := sLook n str wal (place, hol, dri)
  (Y.1, S.1, car, wal, L.2.1, Y.2.2, rain, L.1, str, S.2.1, Y.2.1, S.2.2, L.2.2, n, q + 1)
def sQ (C : CS) : Int32 × CS := match C with
  | (mud, car, wal, hol, paid, rain, place, str, bro, pen, swe, dri, n, q) => sQw mud car wal hol paid rain place str bro pen swe dri n q (sWet q rain)
set_option maxHeartbeats 1000000 in
theorem kX0_liveQuarter (mud car wal hol paid rain place str bro pen swe dri : Nat → Int32) (n q : Int32) : AMet yX0_liveQuarter cX0_liveQuarter 5 (some .int) { frames := 3, cells := 0, slots := 0, locals := 69 } [.ref 0] (hC mud car wal hol paid rain place str bro pen swe dri n q) (some (.int (sQ (mud, car, wal, hol, paid, rain, place, str, bro, pen, swe, dri, n, q)).1)) (hCt (sQ (mud, car, wal, hol, paid, rain, place, str, bro, pen, swe, dri, n, q)).2) := by
  refine AMet.of (by decide) rfl ?_
  intro G hR hE hI
  obtain ⟨w, hw⟩ : ∃ z, z = sWet q rain := ⟨_, rfl⟩
  obtain ⟨S, hS⟩ : ∃ z, z = sSwQ w n place hol str (sMd w car mud, bro, swe) := ⟨_, rfl⟩
  obtain ⟨Y, hY⟩ : ∃ z, z = sPyQ w n hol S.1 wal (0, pen, paid) := ⟨_, rfl⟩
  obtain ⟨L, hL⟩ : ∃ z, z = sLook n str wal (place, hol, dri) := ⟨_, rfl⟩
  have hfin : sQ (mud, car, wal, hol, paid, rain, place, str, bro, pen, swe, dri, n, q) = (Y.1, S.1, car, wal, L.2.1, Y.2.2, rain, L.1, str, S.2.1, Y.2.1, S.2.2, L.2.2, n, q + 1) := by subst hL; subst hY; subst hS; subst hw; rfl
  rw [hfin] at hE
  have E2 : ∀ (p1 h1 d1 : Nat → Int32), (p1, h1, d1) = L → AW G (yX0_liveQuarter.cls, cX0_liveQuarter, 5, 13) (hC S.1 car wal h1 Y.2.2 rain p1 str S.2.1 Y.2.1 S.2.2 d1 n q) 0 0 113 [(3, .int Y.1), (0, .ref 0)] [] := by
    intro p1 h1 d1 hf
    refine AW.blk (amX0_liveQuarter _) 61 7 (h' := hC S.1 car wal h1 Y.2.2 rain p1 str S.2.1 Y.2.1 S.2.2 d1 n (q + 1)) (pc' := 124) (lv' := [(3, .int Y.1), (0, .ref 0)]) (st' := [.int Y.1]) (L := []) rfl trivial ?_
    exact AW.iretE (amX0_liveQuarter _) 68 hE rfl rfl rfl rfl rfl rfl (by rw [← hf]; rfl)
  have K2 : ∀ (k i : Nat) (p1 : Nat → Int32) (h1 : Nat → Int32) (d1 : Nat → Int32), i + k = 8 → lpS n (sLk1 n str wal) k i (p1, h1, d1) = L → AW G (yX0_liveQuarter.cls, cX0_liveQuarter, 5, 13) (hC S.1 car wal h1 Y.2.2 rain p1 str S.2.1 Y.2.1 S.2.2 d1 n q) 0 0 76 [(4, .int (nI i)), (3, .int Y.1), (0, .ref 0)] [] := by
    intro k
    induction k with
    | zero =>
      intro i p1 h1 d1 hi hf
      refine AW.blk (amX0_liveQuarter _) 45 2 (h' := hC S.1 car wal h1 Y.2.2 rain p1 str S.2.1 Y.2.1 S.2.2 d1 n q) (pc' := 80) (lv' := [(4, .int (nI i)), (3, .int Y.1), (0, .ref 0)]) (st' := [.int 8, .int (nI i)]) (L := []) rfl trivial ?_
      refine AW.br (amX0_liveQuarter _) 47 (tgt := 113) (C := 8 ≤ (nI i)) (C' := ¬ 8 ≤ (nI i)) (st' := []) rfl rfl rfl (fun c1 => ?_) (fun c1 => absurd (nI_le (a := 8) (b := i) (by omega) (by omega)) c1)
      refine AW.pick [1, 2] (lv' := [(3, .int Y.1), (0, .ref 0)]) rfl ?_
      exact E2 _ _ _ hf
    | succ k ih =>
      intro i p1 h1 d1 hi hf
      refine AW.blk (amX0_liveQuarter _) 45 2 (h' := hC S.1 car wal h1 Y.2.2 rain p1 str S.2.1 Y.2.1 S.2.2 d1 n q) (pc' := 80) (lv' := [(4, .int (nI i)), (3, .int Y.1), (0, .ref 0)]) (st' := [.int 8, .int (nI i)]) (L := []) rfl trivial ?_
      refine AW.br (amX0_liveQuarter _) 47 (tgt := 113) (C := 8 ≤ (nI i)) (C' := ¬ 8 ≤ (nI i)) (st' := []) rfl rfl rfl (fun c1 => absurd c1 (nI_ge (a := i) (b := 8) (by omega) (by decide))) (fun c1 => ?_)
      refine AW.blk (amX0_liveQuarter _) 48 3 (h' := hC S.1 car wal h1 Y.2.2 rain p1 str S.2.1 Y.2.1 S.2.2 d1 n q) (pc' := 89) (lv' := [(4, .int (nI i)), (3, .int Y.1), (0, .ref 0)]) (st' := [.int n, .int (nI i)]) (L := []) rfl trivial ?_
      refine AW.br (amX0_liveQuarter _) 51 (tgt := 113) (C := n ≤ (nI i)) (C' := ¬ n ≤ (nI i)) (st' := []) rfl rfl rfl (fun c2 => ?_) (fun c2 => ?_)
      · refine AW.pick [1, 2] (lv' := [(3, .int Y.1), (0, .ref 0)]) rfl ?_
        exact E2 _ _ _ (by rw [← hf]; simp only [lpS, if_neg c1, if_pos c2])
      · refine AW.blk (amX0_liveQuarter _) 52 2 (h' := hC S.1 car wal h1 Y.2.2 rain p1 str S.2.1 Y.2.1 S.2.2 d1 n q) (pc' := 95) (lv' := [(4, .int (nI i)), (3, .int Y.1), (0, .ref 0)]) (st' := [.int (nI i), .ref 0]) (L := []) rfl trivial ?_
        refine AW.callV (amX0_liveQuarter _) 54 (kX0_holdsPitch S.1 car wal h1 Y.2.2 rain p1 str S.2.1 Y.2.1 S.2.2 d1 n q (nI i)) rfl rfl [0, 1, 2, 3, 4, 5, 6, 7, 8, 9, 10, 11, 12] [] ykX0_holdsPitch yiX0_holdsPitch yvX0_holdsPitch mlX0_88 rfl rfl rfl rfl hR ⟨Nat.le_of_ble_eq_true rfl, Nat.le_of_ble_eq_true rfl, Nat.le_of_ble_eq_true rfl, Nat.le_of_ble_eq_true rfl⟩ rfl rfl rfl rfl rfl (fun _ => rfl) (h1 := hC S.1 car wal h1 Y.2.2 rain p1 str S.2.1 Y.2.1 S.2.2 d1 n q) rfl (st' := [.int (sHP (nI i) n p1 h1)]) rfl ?_
        refine AW.br (amX0_liveQuarter _) 55 (tgt := 107) (C := ¬ (sHP (nI i) n p1 h1) = 0) (C' := (sHP (nI i) n p1 h1) = 0) (st' := []) rfl rfl rfl (fun c3 => ?_) (fun c3 => ?_)
        · refine AW.blk (amX0_liveQuarter _) 59 2 (h' := hC S.1 car wal h1 Y.2.2 rain p1 str S.2.1 Y.2.1 S.2.2 d1 n q) (pc' := 76) (lv' := [(4, .int ((nI i) + 1)), (3, .int Y.1), (0, .ref 0)]) (st' := []) (L := []) rfl trivial ?_
          rw [nI_1 i]
          exact ih (i + 1) _ _ _ (by omega) (by rw [← hf]; simp only [lpS, sLk1, if_neg c1, if_neg c2, if_neg c3])
        · refine AW.blk (amX0_liveQuarter _) 56 2 (h' := hC S.1 car wal h1 Y.2.2 rain p1 str S.2.1 Y.2.1 S.2.2 d1 n q) (pc' := 104) (lv' := [(4, .int (nI i)), (3, .int Y.1), (0, .ref 0)]) (st' := [.int (nI i), .ref 0]) (L := []) rfl trivial ?_
          refine AW.callV (amX0_liveQuarter _) 58 (kX0_seekPitch S.1 car wal h1 Y.2.2 rain p1 str S.2.1 Y.2.1 S.2.2 d1 n q (nI i)) rfl rfl [0, 1, 2, 3, 4, 5, 6, 7, 8, 9, 10, 11, 12] [] ykX0_seekPitch yiX0_seekPitch yvX0_seekPitch mlX0_91 rfl rfl rfl rfl hR ⟨Nat.le_of_ble_eq_true rfl, Nat.le_of_ble_eq_true rfl, Nat.le_of_ble_eq_true rfl, Nat.le_of_ble_eq_true rfl⟩ rfl rfl rfl rfl rfl (fun _ => rfl) (h1 := hC S.1 car wal (sSkH (nI i) n str p1 h1) Y.2.2 rain (sSkP (nI i) n str wal p1 h1) str S.2.1 Y.2.1 S.2.2 (sSkD (nI i) n str p1 h1 d1) n q) rfl (st' := []) rfl ?_
          refine AW.blk (amX0_liveQuarter _) 59 2 (h' := hC S.1 car wal (sSkH (nI i) n str p1 h1) Y.2.2 rain (sSkP (nI i) n str wal p1 h1) str S.2.1 Y.2.1 S.2.2 (sSkD (nI i) n str p1 h1 d1) n q) (pc' := 76) (lv' := [(4, .int ((nI i) + 1)), (3, .int Y.1), (0, .ref 0)]) (st' := []) (L := []) rfl trivial ?_
          rw [nI_1 i]
          exact ih (i + 1) _ _ _ (by omega) (by rw [← hf]; simp only [lpS, sLk1, if_neg c1, if_neg c2, if_pos c3])
  have J : AW G (yX0_liveQuarter.cls, cX0_liveQuarter, 5, 13) (hC S.1 car wal hol Y.2.2 rain place str S.2.1 Y.2.1 S.2.2 dri n q) 0 0 73 [(3, .int Y.1), (0, .ref 0)] [] := by
    refine AW.blk (amX0_liveQuarter _) 43 2 (h' := hC S.1 car wal hol Y.2.2 rain place str S.2.1 Y.2.1 S.2.2 dri n q) (pc' := 76) (lv' := [(4, .int 0), (3, .int Y.1), (0, .ref 0)]) (st' := []) (L := []) rfl trivial ?_
    exact K2 8 0 place hol dri rfl hL.symm
  have E1 : ∀ (m1 : Nat → Int32), m1 = sMd w car mud → AW G (yX0_liveQuarter.cls, cX0_liveQuarter, 5, 13) (hC m1 car wal hol paid rain place str bro pen swe dri n q) 0 0 56 [(2, .int w), (0, .ref 0)] [] := by
    intro m1 hf
    refine AW.blk (amX0_liveQuarter _) 33 4 (h' := hC m1 car wal hol paid rain place str bro pen swe dri n q) (pc' := 61) (lv' := [(3, .int 0), (2, .int w), (0, .ref 0)]) (st' := [.int 6, .int w]) (L := []) rfl trivial ?_
    refine AW.br (amX0_liveQuarter _) 37 (tgt := 73) (C := 6 ≤ w) (C' := ¬ 6 ≤ w) (st' := []) rfl rfl rfl (fun c1 => ?_) (fun c1 => ?_)
    · have hS' : S = (m1, bro, swe) := by rw [hS, hf, sSwQ, if_pos c1]
      have hY' : Y = (0, pen, paid) := by rw [hY, sPyQ, if_pos c1]
      rw [hS', hY'] at J
      refine AW.pick [0, 2] (lv' := [(3, .int 0), (0, .ref 0)]) rfl ?_
      exact J
    · refine AW.blk (amX0_liveQuarter _) 38 1 (h' := hC m1 car wal hol paid rain place str bro pen swe dri n q) (pc' := 65) (lv' := [(3, .int 0), (2, .int w), (0, .ref 0)]) (st' := [.ref 0]) (L := []) rfl trivial ?_
      refine AW.callV (amX0_liveQuarter _) 39 (kX0_sweepAll m1 car wal hol paid rain place str bro pen swe dri n q) rfl rfl [0, 1, 2, 3, 4, 5, 6, 7, 8, 9, 10, 11, 12] [] ykX0_sweepAll yiX0_sweepAll yvX0_sweepAll mlX0_82 rfl rfl rfl rfl hR ⟨Nat.le_of_ble_eq_true rfl, Nat.le_of_ble_eq_true rfl, Nat.le_of_ble_eq_true rfl, Nat.le_of_ble_eq_true rfl⟩ rfl rfl rfl rfl rfl (fun _ => rfl) (h1 := hC ((sSweep n place hol str (m1, bro, swe)).1) car wal hol paid rain place str ((sSweep n place hol str (m1, bro, swe)).2.1) pen ((sSweep n place hol str (m1, bro, swe)).2.2) dri n q) rfl (st' := []) rfl ?_
      have hS' : sSweep n place hol str (m1, bro, swe) = S := by rw [hS, hf, sSwQ, if_neg c1]
      rw [hS']
      refine AW.blk (amX0_liveQuarter _) 40 1 (h' := hC S.1 car wal hol paid rain place str S.2.1 pen S.2.2 dri n q) (pc' := 69) (lv' := [(3, .int 0), (2, .int w), (0, .ref 0)]) (st' := [.ref 0]) (L := []) rfl trivial ?_
      refine AW.callV (amX0_liveQuarter _) 41 (kX0_payAll S.1 car wal hol paid rain place str S.2.1 pen S.2.2 dri n q) rfl rfl [0, 1, 2, 3, 4, 5, 6, 7, 8, 9, 10, 11, 12] [] ykX0_payAll yiX0_payAll yvX0_payAll mlX0_85 rfl rfl rfl rfl hR ⟨Nat.le_of_ble_eq_true rfl, Nat.le_of_ble_eq_true rfl, Nat.le_of_ble_eq_true rfl, Nat.le_of_ble_eq_true rfl⟩ rfl rfl rfl rfl rfl (fun _ => rfl) (h1 := hC S.1 car wal hol ((sPay n hol S.1 wal (0, pen, paid)).2.2) rain place str S.2.1 ((sPay n hol S.1 wal (0, pen, paid)).2.1) S.2.2 dri n q) rfl (st' := [.int ((sPay n hol S.1 wal (0, pen, paid)).1)]) rfl ?_
      have hY' : sPay n hol S.1 wal (0, pen, paid) = Y := by rw [hY, sPyQ, if_neg c1]
      rw [hY']
      refine AW.blk (amX0_liveQuarter _) 42 1 (h' := hC S.1 car wal hol Y.2.2 rain place str S.2.1 Y.2.1 S.2.2 dri n q) (pc' := 73) (lv' := [(3, .int Y.1), (2, .int w), (0, .ref 0)]) (st' := []) (L := []) rfl trivial ?_
      refine AW.pick [0, 2] (lv' := [(3, .int Y.1), (0, .ref 0)]) rfl ?_
      exact J
  have K1 : ∀ (k i : Nat) (m1 : Nat → Int32), i + k = 9 → lpN (sMd1 w car) k i m1 = sMd w car mud → AW G (yX0_liveQuarter.cls, cX0_liveQuarter, 5, 13) (hC m1 car wal hol paid rain place str bro pen swe dri n q) 0 0 31 [(3, .int (nI i)), (2, .int w), (0, .ref 0)] [] := by
    intro k
    induction k with
    | zero =>
      intro i m1 hi hf
      refine AW.blk (amX0_liveQuarter _) 19 2 (h' := hC m1 car wal hol paid rain place str bro pen swe dri n q) (pc' := 34) (lv' := [(3, .int (nI i)), (2, .int w), (0, .ref 0)]) (st' := [.int 9, .int (nI i)]) (L := []) rfl trivial ?_
      refine AW.br (amX0_liveQuarter _) 21 (tgt := 56) (C := 9 ≤ (nI i)) (C' := ¬ 9 ≤ (nI i)) (st' := []) rfl rfl rfl (fun c1 => ?_) (fun c1 => absurd (nI_le (a := 9) (b := i) (by omega) (by omega)) c1)
      refine AW.pick [1, 2] (lv' := [(2, .int w), (0, .ref 0)]) rfl ?_
      exact E1 _ hf
    | succ k ih =>
      intro i m1 hi hf
      refine AW.blk (amX0_liveQuarter _) 19 2 (h' := hC m1 car wal hol paid rain place str bro pen swe dri n q) (pc' := 34) (lv' := [(3, .int (nI i)), (2, .int w), (0, .ref 0)]) (st' := [.int 9, .int (nI i)]) (L := []) rfl trivial ?_
      refine AW.br (amX0_liveQuarter _) 21 (tgt := 56) (C := 9 ≤ (nI i)) (C' := ¬ 9 ≤ (nI i)) (st' := []) rfl rfl rfl (fun c1 => absurd c1 (nI_ge (a := i) (b := 9) (by omega) (by decide))) (fun c1 => ?_)
      refine AW.blk (amX0_liveQuarter _) 22 8 (h' := hC m1 car wal hol paid rain place str bro pen swe dri n q) (pc' := 47) (lv' := [(3, .int (nI i)), (2, .int w), (0, .ref 0)]) (st' := [.int ((car (nI i).toNatClampNeg) + w), .int (nI i), .ref 0]) (L := [vp_in (nI i) 9]) rfl (vpi (by omega) rfl) ?_
      refine AW.callV (amX0_liveQuarter _) 30 (kX0_addMud m1 car wal hol paid rain place str bro pen swe dri n q (nI i) ((car (nI i).toNatClampNeg) + w)) rfl rfl [0, 1, 2, 3, 4, 5, 6, 7, 8, 9, 10, 11, 12] [] ykX0_addMud yiX0_addMud yvX0_addMud mlX0_78 rfl rfl rfl rfl hR ⟨Nat.le_of_ble_eq_true rfl, Nat.le_of_ble_eq_true rfl, Nat.le_of_ble_eq_true rfl, Nat.le_of_ble_eq_true rfl⟩ rfl rfl rfl rfl rfl (fun _ => rfl) (h1 := hC (sAM (nI i) ((car (nI i).toNatClampNeg) + w) m1) car wal hol paid rain place str bro pen swe dri n q) rfl (st' := []) rfl ?_
      refine AW.blk (amX0_liveQuarter _) 31 2 (h' := hC (sAM (nI i) ((car (nI i).toNatClampNeg) + w) m1) car wal hol paid rain place str bro pen swe dri n q) (pc' := 31) (lv' := [(3, .int ((nI i) + 1)), (2, .int w), (0, .ref 0)]) (st' := []) (L := []) rfl trivial ?_
      rw [nI_1 i]
      exact ih (i + 1) _ (by omega) (by rw [← hf]; simp only [lpN, sMd1, if_neg c1])
  have J0 : AW G (yX0_liveQuarter.cls, cX0_liveQuarter, 5, 13) (hC mud car wal hol paid rain place str bro pen swe dri n q) 0 0 28 [(1, .int (q - q / 8 * 8)), (0, .ref 0)] [.int w] := by
    refine AW.blk (amX0_liveQuarter _) 16 3 (h' := hC mud car wal hol paid rain place str bro pen swe dri n q) (pc' := 31) (lv' := [(3, .int 0), (2, .int w), (1, .int (q - q / 8 * 8)), (0, .ref 0)]) (st' := []) (L := []) rfl trivial ?_
    refine AW.pick [0, 1, 3] (lv' := [(3, .int 0), (2, .int w), (0, .ref 0)]) rfl ?_
    exact K1 9 0 mud rfl rfl
  refine AW.blk (amX0_liveQuarter _) 0 6 (h' := hC mud car wal hol paid rain place str bro pen swe dri n q) (pc' := 9) (lv' := [(1, .int (q - q / 8 * 8)), (0, .ref 0)]) (st' := [.int (q - q / 8 * 8)]) (L := [¬ 8 = 0]) rfl (show ¬ (8 : Int32) = 0 by decide) ?_
  refine AW.br (amX0_liveQuarter _) 6 (tgt := 27) (C := (q - q / 8 * 8) < 0) (C' := ¬ (q - q / 8 * 8) < 0) (st' := []) rfl rfl rfl (fun c1 => ?_) (fun c1 => ?_)
  · refine AW.blk (amX0_liveQuarter _) 15 1 (h' := hC mud car wal hol paid rain place str bro pen swe dri n q) (pc' := 28) (lv' := [(1, .int (q - q / 8 * 8)), (0, .ref 0)]) (st' := [.int 0]) (L := []) rfl trivial ?_
    have hw' : w = 0 := by simp only [hw, sWet, if_pos c1]
    rw [hw'] at J0
    exact J0
  · refine AW.blk (amX0_liveQuarter _) 7 2 (h' := hC mud car wal hol paid rain place str bro pen swe dri n q) (pc' := 15) (lv' := [(1, .int (q - q / 8 * 8)), (0, .ref 0)]) (st' := [.int 8, .int (q - q / 8 * 8)]) (L := []) rfl trivial ?_
    refine AW.br (amX0_liveQuarter _) 9 (tgt := 27) (C := 8 ≤ (q - q / 8 * 8)) (C' := ¬ 8 ≤ (q - q / 8 * 8)) (st' := []) rfl rfl rfl (fun c2 => ?_) (fun c2 => ?_)
    · refine AW.blk (amX0_liveQuarter _) 15 1 (h' := hC mud car wal hol paid rain place str bro pen swe dri n q) (pc' := 28) (lv' := [(1, .int (q - q / 8 * 8)), (0, .ref 0)]) (st' := [.int 0]) (L := []) rfl trivial ?_
      have hw' : w = 0 := by simp only [hw, sWet, if_neg c1, if_pos c2]
      rw [hw'] at J0
      exact J0
    · refine AW.blk (amX0_liveQuarter _) 10 5 (h' := hC mud car wal hol paid rain place str bro pen swe dri n q) (pc' := 28) (lv' := [(1, .int (q - q / 8 * 8)), (0, .ref 0)]) (st' := [.int (rain (q - q / 8 * 8).toNatClampNeg)]) (L := [vp_in (q - q / 8 * 8) 8]) rfl (vp_in_of_lt (M := 8) (by decide) c1 c2) ?_
      have hw' : w = rain (q - q / 8 * 8).toNatClampNeg := by simp only [hw, sWet, if_neg c1, if_neg c2]
      rw [hw'] at J0
      exact J0
theorem kQ (C : CS) : AMet yX0_liveQuarter cX0_liveQuarter 5 (some .int) { frames := 3, cells := 0, slots := 0, locals := 69 } [.ref 0] (hCt C) (some (.int (sQ C).1)) (hCt (sQ C).2) := by
  obtain ⟨mud, car, wal, hol, paid, rain, place, str, bro, pen, swe, dri, n, q⟩ := C
  exact kX0_liveQuarter mud car wal hol paid rain place str bro pen swe dri n q
/-- quarters -/
def sLv1 (_ : Nat) (a : Int32 × CS) : Int32 × CS := (a.1 + (sQ a.2).1, (sQ a.2).2)
def sLive (k : Int32) (C : CS) : Int32 × CS := lpS k sLv1 96 0 (0, C)
set_option maxHeartbeats 1000000 in
theorem kX0_live (C : CS) (t : Int32) : AMet yX0_live cX0_live 4 (some .int) { frames := 4, cells := 0, slots := 0, locals := 93 } [.ref 0, .int t] (hCt C) (some (.int (sLive t C).1)) (hCt (sLive t C).2) := by
  refine AMet.of (by decide) rfl ?_
  intro G hR hE hI
  have E : ∀ (all : Int32) (D : CS), (all, D) = sLive t C → AW G (yX0_live.cls, cX0_live, 4, 13) (hCt D) 0 0 28 [(2, .int all), (0, .ref 0)] [] := by
    intro all D hf
    refine AW.blk (amX0_live _) 17 1 (h' := hCt D) (pc' := 29) (lv' := [(2, .int all), (0, .ref 0)]) (st' := [.int all]) (L := []) rfl trivial ?_
    exact AW.iretE (amX0_live _) 18 hE rfl rfl (by first | rfl | exact narrow_b _ (by decide)) rfl rfl (by rw [← hf]) (by first | rfl | (rw [← hf]))
  have K : ∀ (k i : Nat) (all : Int32) (D : CS), i + k = 96 → lpS t sLv1 k i (all, D) = sLive t C → AW G (yX0_live.cls, cX0_live, 4, 13) (hCt D) 0 0 4 [(3, .int (nI i)), (2, .int all), (1, .int t), (0, .ref 0)] [] := by
    intro k
    induction k with
    | zero =>
      intro i all D hi hf
      refine AW.blk (amX0_live _) 4 2 (h' := hCt D) (pc' := 7) (lv' := [(3, .int (nI i)), (2, .int all), (1, .int t), (0, .ref 0)]) (st' := [.int 96, .int (nI i)]) (L := []) rfl trivial ?_
      refine AW.br (amX0_live _) 6 (tgt := 28) (C := 96 ≤ (nI i)) (C' := ¬ 96 ≤ (nI i)) (st' := []) rfl rfl rfl (fun c1 => ?_) (fun c1 => absurd (nI_le (a := 96) (b := i) (by omega) (by omega)) c1)
      refine AW.pick [1, 3] (lv' := [(2, .int all), (0, .ref 0)]) rfl ?_
      exact E _ _ hf
    | succ k ih =>
      intro i all D hi hf
      refine AW.blk (amX0_live _) 4 2 (h' := hCt D) (pc' := 7) (lv' := [(3, .int (nI i)), (2, .int all), (1, .int t), (0, .ref 0)]) (st' := [.int 96, .int (nI i)]) (L := []) rfl trivial ?_
      refine AW.br (amX0_live _) 6 (tgt := 28) (C := 96 ≤ (nI i)) (C' := ¬ 96 ≤ (nI i)) (st' := []) rfl rfl rfl (fun c1 => absurd c1 (nI_ge (a := i) (b := 96) (by omega) (by decide))) (fun c1 => ?_)
      refine AW.blk (amX0_live _) 7 2 (h' := hCt D) (pc' := 12) (lv' := [(3, .int (nI i)), (2, .int all), (1, .int t), (0, .ref 0)]) (st' := [.int t, .int (nI i)]) (L := []) rfl trivial ?_
      refine AW.br (amX0_live _) 9 (tgt := 28) (C := t ≤ (nI i)) (C' := ¬ t ≤ (nI i)) (st' := []) rfl rfl rfl (fun c2 => ?_) (fun c2 => ?_)
      · refine AW.pick [1, 3] (lv' := [(2, .int all), (0, .ref 0)]) rfl ?_
        exact E _ _ (by rw [← hf]; simp only [lpS, if_neg c1, if_pos c2])
      · refine AW.blk (amX0_live _) 10 2 (h' := hCt D) (pc' := 17) (lv' := [(3, .int (nI i)), (2, .int all), (1, .int t), (0, .ref 0)]) (st' := [.ref 0, .int all]) (L := []) rfl trivial ?_
        refine AW.callV (amX0_live _) 12 (kQ D) rfl rfl [0, 1, 2, 3, 4, 5, 6, 7, 8, 9, 10, 11, 12] [] ykX0_liveQuarter yiX0_liveQuarter yvX0_liveQuarter mlX0_74 rfl rfl rfl rfl hR ⟨Nat.le_of_ble_eq_true rfl, Nat.le_of_ble_eq_true rfl, Nat.le_of_ble_eq_true rfl, Nat.le_of_ble_eq_true rfl⟩ rfl rfl rfl rfl rfl (fun _ => rfl) (h1 := hCt ((sQ D).2)) rfl (st' := [.int ((sQ D).1), .int all]) rfl ?_
        refine AW.blk (amX0_live _) 13 4 (h' := hCt ((sQ D).2)) (pc' := 4) (lv' := [(3, .int ((nI i) + 1)), (2, .int (all + ((sQ D).1))), (1, .int t), (0, .ref 0)]) (st' := []) (L := []) rfl trivial ?_
        rw [nI_1 i]
        exact ih (i + 1) _ _ (by omega) (by rw [← hf]; simp only [lpS, sLv1, if_neg c1, if_neg c2])
  refine AW.blk (amX0_live _) 0 4 (h' := hCt C) (pc' := 4) (lv' := [(3, .int 0), (2, .int 0), (0, .ref 0), (1, .int t)]) (st' := []) (L := []) rfl trivial ?_
  refine AW.pick [0, 1, 3, 2] (lv' := [(3, .int 0), (2, .int 0), (1, .int t), (0, .ref 0)]) rfl ?_
  exact K 96 0 0 C rfl rfl
