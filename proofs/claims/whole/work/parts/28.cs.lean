/-! ===== the state's methods, said of a whole city ===== -/
theorem sw_ex {N : Nat} {s : Int32} (hN : N ≤ 8) (h : ¬ sSw s (nI N) = 0) : ∃ i, i < N ∧ s = nI i := by
  obtain ⟨i, hi, rfl⟩ := vp_in_of (sSw_in h) (by decide)
  refine ⟨i, ?_, rfl⟩
  rcases Nat.lt_or_ge i N with z | z
  · exact z
  · exfalso
    apply h
    unfold sSw
    rw [if_neg (nI_pos (by omega)), if_neg (show ¬ (8 : Int32) ≤ nI i from nle (N := 8) hi rfl), if_pos (nI_le z (by omega))]
theorem t_ex {t : Int32} (h1 : ¬ t < 1) (h2 : t ≤ 96) : ∃ T, T ≤ 96 ∧ t = nI T := by
  have e1 : (1 : Int32).toInt = 1 := by decide
  have e2 : (96 : Int32).toInt = 96 := by decide
  rw [Int32.lt_iff_toInt_lt, e1] at h1
  exact nI_of2 (M := 96) (n := 96) (by decide) (by rw [Int32.lt_iff_toInt_lt, Int32.toInt_zero]; omega) h2
def hSm (th : Int32) (C D : CS) : aH := hS th D.1 C.2.1 C.2.2.1 D.2.2.2.1 D.2.2.2.2.1 C.2.2.2.2.2.1 D.2.2.2.2.2.2.1 C.2.2.2.2.2.2.2.1 D.2.2.2.2.2.2.2.2.1 D.2.2.2.2.2.2.2.2.2.1 D.2.2.2.2.2.2.2.2.2.2.1 D.2.2.2.2.2.2.2.2.2.2.2.1 C.2.2.2.2.2.2.2.2.2.2.2.2.1 D.2.2.2.2.2.2.2.2.2.2.2.2.2
def fx (C D : CS) : Prop := D.2.1 = C.2.1 ∧ D.2.2.1 = C.2.2.1 ∧ D.2.2.2.2.2.1 = C.2.2.2.2.2.1 ∧ D.2.2.2.2.2.2.2.1 = C.2.2.2.2.2.2.2.1 ∧ D.2.2.2.2.2.2.2.2.2.2.2.2.1 = C.2.2.2.2.2.2.2.2.2.2.2.2.1
theorem fx_Q {C D : CS} (h : fx C D) : fx C (sQ D).2 := by
  obtain ⟨mud, car, wal, hol, paid, rain, place, str, bro, pen, swe, dri, n, q⟩ := D
  exact h
theorem fx_L (t : Int32) (C : CS) : fx C (sLive t C).2 := lpS_inv (f := sLv1) (fun a => fx C a.2) (M := 96) (fun i a _ _ h => fx_Q h) 96 0 (0, C) (by omega) ⟨rfl, rfl, rfl, rfl, rfl⟩
theorem fx_S {th : Int32} {C D : CS} (h : fx C D) : hSt th D = hSm th C D := by
  obtain ⟨h1, h2, h3, h4, h5⟩ := h
  unfold hSt hSm
  rw [h1, h2, h3, h4, h5]
theorem VC_L {B : Nat} {t : Int32} {C : CS} (h : VC B C) : VC (B + 96) (sLive t C).2 := by
  have key : ∀ (k i : Nat) (a : Int32 × CS), i + k ≤ 96 → VC (B + i) a.2 → VC (B + 96) (lpS t sLv1 k i a).2 := by
    intro k
    induction k with
    | zero => intro i a hi h; exact VC_mono h (by omega)
    | succ k ih =>
      intro i a hi h
      show VC (B + 96) (if t ≤ nI i then a else lpS t sLv1 k (i + 1) (sLv1 i a)).2
      split
      · exact VC_mono h (by omega)
      · exact ih (i + 1) _ (by omega) (VC_Q h)
  exact key 96 0 (0, C) (by omega) h
theorem VC_move {B : Nat} {s c : Int32} {C : CS} (h : VC B C) (hc : ¬ sCr c = 0) : VC B (cMove s c C) := by
  obtain ⟨mud, car, wal, hol, paid, rain, place, str, bro, pen, swe, dri, n, q⟩ := C
  obtain ⟨N, Q, hN, hQ, e1, e2, hP, hH, r⟩ := h
  refine ⟨N, Q, hN, hQ, e1, e2, ?_, ?_, r⟩
  · show vP N (sMoP s c n place)
    unfold sMoP
    split
    · exact hP
    · intro i hi
      unfold upd
      split
      · exact sCr_in hc
      · exact hP i hi
  · show vH N (sMoH s n place hol)
    unfold sMoH
    split
    · exact hH
    · split
      · exact hH
      · split
        · intro x hx
          unfold upd
          split
          · exact Or.inl rfl
          · exact hH x hx
        · exact hH
theorem kHolds (th : Int32) {B : Nat} (C : CS) (hV : VC B C) (s : Int32) (hs : ¬ sSw s C.2.2.2.2.2.2.2.2.2.2.2.2.1 = 0) : AMet yX2_holds cX2_holds 2 (some .boolean) { frames := 0, cells := 0, slots := 0, locals := 0 } [.ref 0, .int s] (hSt th C) (some (.int (sHP s C.2.2.2.2.2.2.2.2.2.2.2.2.1 C.2.2.2.2.2.2.1 C.2.2.2.1))) (hSt th C) := by
  obtain ⟨mud, car, wal, hol, paid, rain, place, str, bro, pen, swe, dri, n, q⟩ := C
  obtain ⟨N, Q, hN, hQ, e1, e2, hP, hH, r1, r2, r3, r4, r5, r6⟩ := hV
  have e1 : n = nI N := e1
  have e2 : q = nI Q := e2
  subst e1; subst e2
  obtain ⟨i, hi, rfl⟩ := sw_ex hN hs
  exact kX2_holds th mud car wal hol paid rain place str bro pen swe dri N (nI Q) i hN hi hP
theorem kSweeps (th : Int32) {B : Nat} (C : CS) (hV : VC B C) (s : Int32) (hs : ¬ sSw s C.2.2.2.2.2.2.2.2.2.2.2.2.1 = 0) : AMet yX2_sweeps cX2_sweeps 2 (some .int) { frames := 0, cells := 0, slots := 0, locals := 0 } [.ref 0, .int s] (hSt th C) (some (.int (sRe s C.2.2.2.2.2.2.2.2.2.2.2.2.1 C.2.2.2.2.2.2.2.1 C.2.2.2.2.2.2.2.2.1))) (hSt th C) := by
  obtain ⟨mud, car, wal, hol, paid, rain, place, str, bro, pen, swe, dri, n, q⟩ := C
  obtain ⟨N, Q, hN, hQ, e1, e2, hP, hH, r1, r2, r3, r4, r5, r6⟩ := hV
  have e1 : n = nI N := e1
  have e2 : q = nI Q := e2
  subst e1; subst e2
  obtain ⟨i, hi, rfl⟩ := sw_ex hN hs
  exact kX2_sweeps th mud car wal hol paid rain place str bro pen swe dri N (nI Q) i hN hi
theorem kSend (th : Int32) {B : Nat} (C : CS) (hV : VC B C) (s c : Int32) (hs : ¬ sSw s C.2.2.2.2.2.2.2.2.2.2.2.2.1 = 0) : AMet yX2_send cX2_send 4 (some .int) { frames := 1, cells := 0, slots := 0, locals := 21 } [.ref 0, .int s, .int c] (hSt th C) (some (.int (C.2.2.2.2.2.2.1 s.toNatClampNeg))) (hSt th (cMove s c C)) := by
  obtain ⟨mud, car, wal, hol, paid, rain, place, str, bro, pen, swe, dri, n, q⟩ := C
  obtain ⟨N, Q, hN, hQ, e1, e2, hP, hH, r1, r2, r3, r4, r5, r6⟩ := hV
  have e1 : n = nI N := e1
  have e2 : q = nI Q := e2
  subst e1; subst e2
  obtain ⟨i, hi, rfl⟩ := sw_ex hN hs
  exact kX2_send th mud car wal hol paid rain place str bro pen swe dri N (nI Q) c i hN hi hP
theorem kHeld (th : Int32) {B : Nat} (C : CS) (hV : VC B C) : AMet yX2_held cX2_held 6 (some .int) { frames := 0, cells := 0, slots := 0, locals := 0 } [.ref 0] (hSt th C) (some (.int (sHeld C.2.2.2.2.2.2.2.2.2.2.2.2.1 C.2.2.2.1))) (hSt th C) := by
  obtain ⟨mud, car, wal, hol, paid, rain, place, str, bro, pen, swe, dri, n, q⟩ := C
  obtain ⟨N, Q, hN, hQ, e1, e2, hP, hH, r1, r2, r3, r4, r5, r6⟩ := hV
  have e1 : n = nI N := e1
  have e2 : q = nI Q := e2
  subst e1; subst e2
  exact kX2_held th mud car wal hol paid rain place str bro pen swe dri N (nI Q) hN hH
theorem kSum1 (th : Int32) {B : Nat} (C : CS) (hV : VC B C) : AMet yX2_sum cX2_sum 7 (some .int) { frames := 0, cells := 0, slots := 0, locals := 0 } [.ref 0, .ref 1] (hSt th C) (some (.int (sSum C.1 9))) (hSt th C) := by
  obtain ⟨mud, car, wal, hol, paid, rain, place, str, bro, pen, swe, dri, n, q⟩ := C
  obtain ⟨N, Q, hN, hQ, e1, e2, hP, hH, r1, r2, r3, r4, r5, r6⟩ := hV
  have e1 : n = nI N := e1
  have e2 : q = nI Q := e2
  subst e1; subst e2
  exact kX2_sum_1 th mud car wal hol paid rain place str bro pen swe dri N (nI Q)
theorem kSum6 (th : Int32) {B : Nat} (C : CS) (hV : VC B C) : AMet yX2_sum cX2_sum 7 (some .int) { frames := 0, cells := 0, slots := 0, locals := 0 } [.ref 0, .ref 6] (hSt th C) (some (.int (sSum C.2.2.2.2.2.2.2.2.2.1 8))) (hSt th C) := by
  obtain ⟨mud, car, wal, hol, paid, rain, place, str, bro, pen, swe, dri, n, q⟩ := C
  obtain ⟨N, Q, hN, hQ, e1, e2, hP, hH, r1, r2, r3, r4, r5, r6⟩ := hV
  have e1 : n = nI N := e1
  have e2 : q = nI Q := e2
  subst e1; subst e2
  exact kX2_sum_6 th mud car wal hol paid rain place str bro pen swe dri N (nI Q)
theorem kSum7 (th : Int32) {B : Nat} (C : CS) (hV : VC B C) : AMet yX2_sum cX2_sum 7 (some .int) { frames := 0, cells := 0, slots := 0, locals := 0 } [.ref 0, .ref 7] (hSt th C) (some (.int (sSum C.2.2.2.2.2.2.2.2.2.2.1 8))) (hSt th C) := by
  obtain ⟨mud, car, wal, hol, paid, rain, place, str, bro, pen, swe, dri, n, q⟩ := C
  obtain ⟨N, Q, hN, hQ, e1, e2, hP, hH, r1, r2, r3, r4, r5, r6⟩ := hV
  have e1 : n = nI N := e1
  have e2 : q = nI Q := e2
  subst e1; subst e2
  exact kX2_sum_7 th mud car wal hol paid rain place str bro pen swe dri N (nI Q)
theorem kSum8 (th : Int32) {B : Nat} (C : CS) (hV : VC B C) : AMet yX2_sum cX2_sum 7 (some .int) { frames := 0, cells := 0, slots := 0, locals := 0 } [.ref 0, .ref 8] (hSt th C) (some (.int (sSum C.2.2.2.2.2.2.2.2.2.2.2.1 8))) (hSt th C) := by
  obtain ⟨mud, car, wal, hol, paid, rain, place, str, bro, pen, swe, dri, n, q⟩ := C
  obtain ⟨N, Q, hN, hQ, e1, e2, hP, hH, r1, r2, r3, r4, r5, r6⟩ := hV
  have e1 : n = nI N := e1
  have e2 : q = nI Q := e2
  subst e1; subst e2
  exact kX2_sum_8 th mud car wal hol paid rain place str bro pen swe dri N (nI Q)
theorem kAllM (th : Int32) {B : Nat} (C : CS) (hV : VC B C) : AMet yX2_allMud cX2_allMud 1 (some .int) { frames := 1, cells := 0, slots := 0, locals := 26 } [.ref 0] (hSt th C) (some (.int (sSum C.1 9))) (hSt th C) := by
  obtain ⟨mud, car, wal, hol, paid, rain, place, str, bro, pen, swe, dri, n, q⟩ := C
  obtain ⟨N, Q, hN, hQ, e1, e2, hP, hH, r1, r2, r3, r4, r5, r6⟩ := hV
  have e1 : n = nI N := e1
  have e2 : q = nI Q := e2
  subst e1; subst e2
  exact kX2_allMud th mud car wal hol paid rain place str bro pen swe dri N (nI Q)
theorem kLv (th : Int32) {B : Nat} (C : CS) (hV : VC B C) (hB : B + 96 < 2 ^ 31) (t : Int32) (h1 : ¬ t < 1) (h2 : t ≤ 96) : AMet yX2_pass_ cX2_pass_ 4 (some .int) { frames := 4, cells := 0, slots := 0, locals := 91 } [.ref 0, .int t] (hSt th C) (some (.int (sLive t C).1)) (hSm th C (sLive t C).2) := by
  obtain ⟨T, hT, rfl⟩ := t_ex h1 h2
  exact (kX2_pass_ th B T C hV hT hB).to rfl (fx_S (fx_L _ C))
theorem kIsS (th : Int32) {B : Nat} (C : CS) (hV : VC B C) (s : Int32) : AMet yX3_isSweeper cX3_isSweeper 2 (some .boolean) { frames := 1, cells := 0, slots := 0, locals := 22 } [.ref 0, .int s] (hO th C.2.2.2.2.2.2.2.2.2.2.2.2.1) (some (.int (sSw s C.2.2.2.2.2.2.2.2.2.2.2.2.1))) (hO th C.2.2.2.2.2.2.2.2.2.2.2.2.1) := by
  obtain ⟨mud, car, wal, hol, paid, rain, place, str, bro, pen, swe, dri, n, q⟩ := C
  obtain ⟨N, Q, hN, hQ, e1, e2, hP, hH, r1, r2, r3, r4, r5, r6⟩ := hV
  have e1 : n = nI N := e1
  have e2 : q = nI Q := e2
  subst e1; subst e2
  exact kX3_isSweeper th N hN s
