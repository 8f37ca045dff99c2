/-! ===== what holds of every city: ranges ===== -/
def rg (n hi : Nat) (f : Nat → Int32) : Prop := ∀ j, j < n → ∃ a, a ≤ hi ∧ f j = nI a
def VC (B : Nat) (C : CS) : Prop := ∃ N Q : Nat, N ≤ 8 ∧ Q ≤ B ∧ C.2.2.2.2.2.2.2.2.2.2.2.2.1 = nI N ∧ C.2.2.2.2.2.2.2.2.2.2.2.2.2 = nI Q ∧ vP N C.2.2.2.2.2.2.1 ∧ vH N C.2.2.2.1 ∧ rg 9 50 C.1 ∧ rg 9 9 C.2.1 ∧ rg 9 30 C.2.2.1 ∧ rg 8 9 C.2.2.2.2.2.1 ∧ rg 8 9 C.2.2.2.2.2.2.2.1 ∧ rg 8 40 C.2.2.2.2.2.2.2.2.1
theorem rg_upd {n hi k a : Nat} {f : Nat → Int32} (h : rg n hi f) (ha : a ≤ hi) : rg n hi (upd f k (nI a)) := by
  intro j hj
  by_cases hk : j = k
  · exact ⟨a, ha, by unfold upd; rw [if_pos hk]⟩
  · rw [pk_un hk]; exact h j hj
theorem rg_at {n hi : Nat} {f : Nat → Int32} {x : Int32} (h : rg n hi f) (hx : vp_in x n) (hn : n < 2 ^ 31) : ∃ a, a ≤ hi ∧ f x.toNatClampNeg = nI a := by
  obtain ⟨j, hj, rfl⟩ := vp_in_of hx hn
  rw [nI_clamp (by omega)]
  exact h j hj
theorem imin_n {a b : Nat} (ha : a < 2 ^ 31) (hb : b < 2 ^ 31) : imin (nI a) (nI b) = nI (min a b) := by
  unfold imin
  by_cases h : b < a
  · rw [if_pos ((nI_ltI hb ha).mpr h), Nat.min_eq_right (by omega)]
  · rw [if_neg (fun z => h ((nI_ltI hb ha).mp z)), Nat.min_eq_left (by omega)]
theorem imax_n {a b : Nat} (ha : a < 2 ^ 31) (hb : b < 2 ^ 31) : imax (nI a) (nI b) = nI (max a b) := by
  unfold imax
  by_cases h : a < b
  · rw [if_pos ((nI_ltI ha hb).mpr h), Nat.max_eq_right (by omega)]
  · rw [if_neg (fun z => h ((nI_ltI ha hb).mp z)), Nat.max_eq_left (by omega)]
theorem bro_less {b : Nat} (hb : b ≤ 40) : ∃ a, a ≤ 40 ∧ imax 0 (nI b - 1) = nI a := by
  cases b with
  | zero => exact ⟨0, by omega, by decide⟩
  | succ b =>
    refine ⟨b, by omega, ?_⟩
    rw [nI_pred]
    have := imax_n (a := 0) (b := b) (by omega) (by omega)
    rw [Nat.max_eq_right (by omega)] at this
    exact this
theorem rg_W {wal : Nat → Int32} (h : rg 9 30 wal) : vW wal := by
  intro x hx
  obtain ⟨a, ha, e⟩ := rg_at h hx (by decide)
  rw [e]
  exact nI_pos (by omega)
theorem re_n {s n : Int32} {str bro : Nat → Int32} (hs : rg 8 9 str) (hb : rg 8 40 bro) : ∃ a, a ≤ 20 ∧ sRe s n str bro = nI a := by
  unfold sRe
  by_cases h : sSw s n = 0
  · rw [if_pos h]; exact ⟨0, by omega, rfl⟩
  · rw [if_neg h]
    obtain ⟨a, ha, e1⟩ := rg_at hs (sSw_in h) (by decide)
    obtain ⟨b, hb', e2⟩ := rg_at hb (sSw_in h) (by decide)
    refine ⟨a + b / 8, by omega, ?_⟩
    rw [e1, e2, show (8 : Int32) = nI 8 from rfl, pk_div (by omega) (by decide) (by decide), nI_add]
theorem am_n {c m : Int32} {mud : Nat → Int32} {z : Nat} (hz : z < 1000000) (hm : m = nI z) (h : rg 9 50 mud) : rg 9 50 (sAM c m mud) := by
  unfold sAM
  by_cases hc : sCr c = 0
  · rw [if_pos hc]; exact h
  · rw [if_neg hc]
    obtain ⟨a, ha, e⟩ := rg_at h (sCr_in hc) (by decide)
    rw [e, hm, nI_add, show (50 : Int32) = nI 50 from rfl, imin_n (by decide) (by omega)]
    exact rg_upd h (by omega)
theorem wet_n {q : Int32} {rain : Nat → Int32} (h : rg 8 9 rain) : ∃ a, a ≤ 9 ∧ sWet q rain = nI a := by
  unfold sWet
  split
  · exact ⟨0, by omega, rfl⟩
  · rename_i h1
    split
    · exact ⟨0, by omega, rfl⟩
    · rename_i h2
      exact rg_at h (vp_in_of_lt (M := 8) (by decide) h1 h2) (by decide)
theorem lpN_inv {α : Type} {f : Nat → α → α} (I : α → Prop) {M : Nat} (hs : ∀ i a, i < M → I a → I (f i a)) : ∀ (k i : Nat) (a : α), i + k ≤ M → I a → I (lpN f k i a) := by
  intro k
  induction k with
  | zero => intro i a _ h; exact h
  | succ k ih => intro i a hi h; exact ih (i + 1) _ (by omega) (hs i a (by omega) h)
theorem lpS_inv {α : Type} {n : Int32} {f : Nat → α → α} (I : α → Prop) {M : Nat} (hs : ∀ i a, i < M → ¬ n ≤ nI i → I a → I (f i a)) : ∀ (k i : Nat) (a : α), i + k ≤ M → I a → I (lpS n f k i a) := by
  intro k
  induction k with
  | zero => intro i a _ h; exact h
  | succ k ih =>
    intro i a hi h
    show I (if n ≤ nI i then a else lpS n f k (i + 1) (f i a))
    split
    · exact h
    · rename_i hn
      exact ih (i + 1) _ (by omega) (hs i a (by omega) hn h)
theorem md_n {w : Int32} {car mud : Nat → Int32} {z : Nat} (hz : z ≤ 9) (hw : w = nI z) (hc : rg 9 9 car) (h : rg 9 50 mud) : rg 9 50 (sMd w car mud) := by
  refine lpN_inv (f := sMd1 w car) (rg 9 50) (M := 9) (fun i a hi ha => ?_) 9 0 mud (by omega) h
  obtain ⟨c, hc', e⟩ := hc i hi
  unfold sMd1
  rw [nI_clamp (by omega), e, hw, nI_add]
  exact am_n (z := c + z) (by omega) rfl ha
theorem sweep_n {n : Int32} {place hol str : Nat → Int32} {a : (Nat → Int32) × (Nat → Int32) × (Nat → Int32)} (hs : rg 8 9 str) (h1 : rg 9 50 a.1) (h2 : rg 8 40 a.2.1) : rg 9 50 (sSweep n place hol str a).1 ∧ rg 8 40 (sSweep n place hol str a).2.1 := by
  refine lpS_inv (f := sSw1 n place hol str) (fun a => rg 9 50 a.1 ∧ rg 8 40 a.2.1) (M := 8) (fun i a hi _ ha => ?_) 8 0 a (by omega) ⟨h1, h2⟩
  unfold sSw1
  split
  · exact ha
  · rename_i hc
    split
    · obtain ⟨m, hm, e⟩ := rg_at ha.1 (sCr_in hc) (by decide)
      obtain ⟨r, hr, e2⟩ := re_n (s := nI i) (n := n) hs ha.2
      obtain ⟨b, hb, e3⟩ := ha.2 i hi
      obtain ⟨b2, hb2, e4⟩ := bro_less hb
      refine ⟨?_, ?_⟩
      · show rg 9 50 (upd a.1 _ (a.1 _ - imin (a.1 _) _))
        rw [e, e2, imin_n (by omega) (by omega), pk_sub (by omega)]
        exact rg_upd ha.1 (by omega)
      · show rg 8 40 (upd a.2.1 _ (imax 0 (a.2.1 _ - 1)))
        rw [nI_clamp (by omega), e3, e4]
        exact rg_upd ha.2 hb2
    · exact ha
theorem look_n {N : Nat} {str wal : Nat → Int32} {a : (Nat → Int32) × (Nat → Int32) × (Nat → Int32)} (hN : N ≤ 8) (hW : vW wal) (hP : vP N a.1) (hH : vH N a.2.1) : vP N (sLook (nI N) str wal a).1 ∧ vH N (sLook (nI N) str wal a).2.1 := by
  unfold sLook
  rw [lpS_N _ _ hN (by decide)]
  exact lpN_inv (f := sLk1 (nI N) str wal) (fun a => vP N a.1 ∧ vH N a.2.1) (M := N) (fun i a hi ha => lk1_V hN hi ha.1 ha.2 hW) N 0 a (by omega) ⟨hP, hH⟩
theorem VC_Q {B : Nat} {C : CS} (h : VC B C) : VC (B + 1) (sQ C).2 := by
  obtain ⟨mud, car, wal, hol, paid, rain, place, str, bro, pen, swe, dri, n, q⟩ := C
  obtain ⟨N, Q, hN, hQ, e1, e2, hP, hH, r1, r2, r3, r4, r5, r6⟩ := h
  have e1 : n = nI N := e1
  have e2 : q = nI Q := e2
  subst e1; subst e2
  obtain ⟨z, hz, hw⟩ := wet_n (q := nI Q) r4
  have hmd : rg 9 50 (sMd (sWet (nI Q) rain) car mud) := md_n hz hw r2 r1
  obtain ⟨hp, hh⟩ := look_n (str := str) (a := (place, hol, dri)) hN (rg_W r3) hP hH
  have hsw : rg 9 50 (sSwQ (sWet (nI Q) rain) (nI N) place hol str (sMd (sWet (nI Q) rain) car mud, bro, swe)).1 ∧ rg 8 40 (sSwQ (sWet (nI Q) rain) (nI N) place hol str (sMd (sWet (nI Q) rain) car mud, bro, swe)).2.1 := by
    unfold sSwQ
    split
    · exact ⟨hmd, r6⟩
    · exact sweep_n r5 hmd r6
  exact ⟨N, Q + 1, hN, by omega, rfl, nI_1 Q, hp, hh, hsw.1, r2, r3, r4, r5, hsw.2⟩
theorem VC_mono {B B' : Nat} {C : CS} (h : VC B C) (hb : B ≤ B') : VC B' C := by
  obtain ⟨N, Q, hN, hQ, r⟩ := h
  exact ⟨N, Q, hN, by omega, r⟩
theorem q8 {Q : Nat} (hQ : Q < 2 ^ 31) : vp_in (nI Q - nI Q / 8 * 8) 8 := by
  rw [show (8 : Int32) = nI 8 from rfl, pk_rem hQ (by decide) (by decide)]
  exact vpi (Nat.mod_lt _ (by decide)) rfl
theorem kQm (th : Int32) {B : Nat} (C : CS) (hV : VC B C) (hB : B < 2 ^ 31) : AMet yX2_pass cX2_pass 4 (some .int) { frames := 3, cells := 0, slots := 0, locals := 68 } [.ref 0] (hSt th C) (some (.int (sQ C).1)) (hSt th (sQ C).2) := by
  obtain ⟨mud, car, wal, hol, paid, rain, place, str, bro, pen, swe, dri, n, q⟩ := C
  obtain ⟨N, Q, hN, hQ, e1, e2, hP, hH, r1, r2, r3, r4, r5, r6⟩ := hV
  have e1 : n = nI N := e1
  have e2 : q = nI Q := e2
  subst e1; subst e2
  exact kX2_pass th mud car wal hol paid rain place str bro pen swe dri N (nI Q) hN hP hH (rg_W r3) (q8 (by omega))
