/-! ===== loops, specs of them, small facts ===== -/
theorem AW.pick {G : aG} {M : aM} {h : aH} {kc ks pc : Nat} {lv lv' : aV} {st : List Value} (is : List Nat) (hl : lv_pick lv is = lv') (k : AW G M h kc ks pc lv' st) : AW G M h kc ks pc lv st := by
  refine AW.sub (fun q hq => ?_) k
  rw [← hl] at hq
  obtain ⟨i, -, hi⟩ := List.mem_filterMap.mp hq
  exact List.mem_of_getElem? hi
def lpN {α : Type} (f : Nat → α → α) : Nat → Nat → α → α
  | 0, _, a => a
  | k + 1, i, a => lpN f k (i + 1) (f i a)
def lpS {α : Type} (n : Int32) (f : Nat → α → α) : Nat → Nat → α → α
  | 0, _, a => a
  | k + 1, i, a => if n ≤ nI i then a else lpS n f k (i + 1) (f i a)
theorem vpi {i N : Nat} (h : i < N) (hN : Nat.blt N 2147483648 = true) : vp_in (nI i) N := vp_in_nI h (Nat.lt_of_succ_le (Nat.le_of_ble_eq_true hN))
theorem nle {i : Nat} {N : Nat} (h : i < N) (hN : Nat.blt N 2147483648 = true) : ¬ nI N ≤ nI i := nI_ge h (Nat.lt_of_succ_le (Nat.le_of_ble_eq_true hN))
theorem vp_in_of_lt {x : Int32} {N : Nat} {M : Int32} (hM : M.toInt = N) (h1 : ¬ x < 0) (h2 : ¬ M ≤ x) : vp_in x N := by
  rw [vp_in_iff]
  rw [Int32.lt_iff_toInt_lt, Int32.toInt_zero] at h1
  rw [Int32.le_iff_toInt_le, hM] at h2
  omega
def sSw (s n : Int32) : Int32 := if s < 0 then 0 else if 8 ≤ s then 0 else if n ≤ s then 0 else 1
def sCr (c : Int32) : Int32 := if c < 0 then 0 else if 9 ≤ c then 0 else 1
theorem sSw_in {s n : Int32} (h : ¬ sSw s n = 0) : vp_in s 8 := by
  unfold sSw at h
  by_cases h1 : s < 0
  · rw [if_pos h1] at h; exact absurd rfl h
  · by_cases h2 : 8 ≤ s
    · rw [if_neg h1, if_pos h2] at h; exact absurd rfl h
    · exact vp_in_of_lt (M := 8) (by decide) h1 h2
theorem sCr_in {c : Int32} (h : ¬ sCr c = 0) : vp_in c 9 := by
  unfold sCr at h
  by_cases h1 : c < 0
  · rw [if_pos h1] at h; exact absurd rfl h
  · by_cases h2 : 9 ≤ c
    · rw [if_neg h1, if_pos h2] at h; exact absurd rfl h
    · exact vp_in_of_lt (M := 9) (by decide) h1 h2
