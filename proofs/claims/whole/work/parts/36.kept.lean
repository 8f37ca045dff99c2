/-! ===== what each call keeps ===== -/
theorem VC_0 : VC 0 sC0 := by
  refine ⟨0, 0, Nat.zero_le _, Nat.le_refl _, rfl, rfl, fun i hi => absurd hi (Nat.not_lt_zero _), fun x hx => ?_, fun j _ => ⟨0, by omega, rfl⟩, ?_, ?_, fun j _ => ⟨0, by omega, rfl⟩, fun j _ => ⟨0, by omega, rfl⟩, fun j _ => ⟨0, by omega, rfl⟩⟩
  · obtain ⟨j, hj, rfl⟩ := vp_in_of hx (by decide)
    rw [nI_clamp (by omega)]
    exact .inl ((by decide +kernel : ∀ j, j < 9 → sIn.2.2 j = -1) j hj)
  · intro j hj
    exact ⟨2, by omega, (by decide +kernel : ∀ j, j < 9 → sIn.1 j = nI 2) j hj⟩
  · intro j hj
    exact ⟨10, by omega, (by decide +kernel : ∀ j, j < 9 → sIn.2.1 j = nI 10) j hj⟩
theorem VC_set {B k : Nat} {C : CS} {a b : Int32} (h : VC B C) (h1 : ¬ a < 0) (h2 : a ≤ 9) (h3 : ¬ b < 0) (h4 : b ≤ 30) : VC B (C.1, upd C.2.1 k a, upd C.2.2.1 k b, C.2.2.2.1, C.2.2.2.2.1, C.2.2.2.2.2.1, C.2.2.2.2.2.2.1, C.2.2.2.2.2.2.2.1, C.2.2.2.2.2.2.2.2.1, C.2.2.2.2.2.2.2.2.2.1, C.2.2.2.2.2.2.2.2.2.2.1, C.2.2.2.2.2.2.2.2.2.2.2.1, C.2.2.2.2.2.2.2.2.2.2.2.2.1, C.2.2.2.2.2.2.2.2.2.2.2.2.2) := by
  obtain ⟨x, hx, rfl⟩ := nI_of2 (n := 9) rfl h1 h2
  obtain ⟨y, hy, rfl⟩ := nI_of2 (n := 30) rfl h3 h4
  obtain ⟨N, Q, v1, v2, v3, v4, v5, v6, v7, v8, v9, va, vb, vc⟩ := h
  exact ⟨N, Q, v1, v2, v3, v4, v5, v6, v7, rg_upd v8 hx, rg_upd v9 hy, va, vb, vc⟩
theorem VC_rain {B k : Nat} {C : CS} {v : Int32} (h : VC B C) (h1 : ¬ v < 0) (h2 : v ≤ 9) : VC B (C.1, C.2.1, C.2.2.1, C.2.2.2.1, C.2.2.2.2.1, upd C.2.2.2.2.2.1 k v, C.2.2.2.2.2.2.1, C.2.2.2.2.2.2.2.1, C.2.2.2.2.2.2.2.2.1, C.2.2.2.2.2.2.2.2.2.1, C.2.2.2.2.2.2.2.2.2.2.1, C.2.2.2.2.2.2.2.2.2.2.2.1, C.2.2.2.2.2.2.2.2.2.2.2.2.1, C.2.2.2.2.2.2.2.2.2.2.2.2.2) := by
  obtain ⟨x, hx, rfl⟩ := nI_of2 (n := 9) rfl h1 h2
  obtain ⟨N, Q, v1, v2, v3, v4, v5, v6, v7, v8, v9, va, vb, vc⟩ := h
  exact ⟨N, Q, v1, v2, v3, v4, v5, v6, v7, v8, v9, rg_upd va hx, vb, vc⟩
theorem VC_spill {B : Nat} {C : CS} {c m : Int32} (h : VC B C) (h1 : ¬ m < 1) (h2 : m ≤ 50) : VC B (sAM c m C.1, C.2.1, C.2.2.1, C.2.2.2.1, C.2.2.2.2.1, C.2.2.2.2.2.1, C.2.2.2.2.2.2.1, C.2.2.2.2.2.2.2.1, C.2.2.2.2.2.2.2.2.1, C.2.2.2.2.2.2.2.2.2.1, C.2.2.2.2.2.2.2.2.2.2.1, C.2.2.2.2.2.2.2.2.2.2.2.1, C.2.2.2.2.2.2.2.2.2.2.2.2.1, C.2.2.2.2.2.2.2.2.2.2.2.2.2) := by
  have h1' : ¬ m < 0 := by
    intro z
    apply h1
    rw [Int32.lt_iff_toInt_lt] at z ⊢
    have e0 : (0 : Int32).toInt = 0 := by decide
    have e1 : (1 : Int32).toInt = 1 := by decide
    omega
  obtain ⟨x, hx, e⟩ := nI_of2 (n := 50) rfl h1' h2
  obtain ⟨N, Q, v1, v2, v3, v4, v5, v6, v7, v8, v9, va, vb, vc⟩ := h
  exact ⟨N, Q, v1, v2, v3, v4, v5, v6, am_n (by omega) e v7, v8, v9, va, vb, vc⟩
theorem VC_come {B : Nat} {C : CS} {c s : Int32} (h : VC B C) (hc : ¬ sCr c = 0) (h1 : ¬ s < 1) (h2 : s ≤ 9) (h4 : C.2.2.2.2.2.2.2.2.2.2.2.2.1 < 8) : VC B (C.1, C.2.1, C.2.2.1, C.2.2.2.1, C.2.2.2.2.1, C.2.2.2.2.2.1, upd C.2.2.2.2.2.2.1 C.2.2.2.2.2.2.2.2.2.2.2.2.1.toNatClampNeg c, upd C.2.2.2.2.2.2.2.1 C.2.2.2.2.2.2.2.2.2.2.2.2.1.toNatClampNeg s, upd C.2.2.2.2.2.2.2.2.1 C.2.2.2.2.2.2.2.2.2.2.2.2.1.toNatClampNeg 40, C.2.2.2.2.2.2.2.2.2.1, C.2.2.2.2.2.2.2.2.2.2.1, C.2.2.2.2.2.2.2.2.2.2.2.1, C.2.2.2.2.2.2.2.2.2.2.2.2.1 + 1, C.2.2.2.2.2.2.2.2.2.2.2.2.2) := by
  have h1' : ¬ s < 0 := by
    intro z
    apply h1
    rw [Int32.lt_iff_toInt_lt] at z ⊢
    have e0 : (0 : Int32).toInt = 0 := by decide
    have e1 : (1 : Int32).toInt = 1 := by decide
    omega
  obtain ⟨x, hx, e⟩ := nI_of2 (n := 9) rfl h1' h2
  obtain ⟨N, Q, v1, v2, v3, v4, v5, v6, v7, v8, v9, va, vb, vc⟩ := h
  have hN : N < 8 := by
    rw [v3] at h4
    exact (nI_ltI (a := N) (b := 8) (by omega) (by omega)).mp h4
  refine ⟨N + 1, Q, hN, v2, by rw [← nI_1, ← v3], v4, ?_, ?_, v7, v8, v9, va, by rw [e]; exact rg_upd vb hx, rg_upd (a := 40) vc (by omega)⟩
  · intro i hi
    rw [v3, nI_clamp (show N < 2 ^ 31 by omega)]
    have k := v5 i
    rw [nI_clamp (show i < 2 ^ 31 by omega)] at k ⊢
    by_cases z : i = N
    · show vp_in (upd _ N c i) 9
      unfold upd; rw [if_pos z]; exact sCr_in hc
    · show vp_in (upd _ N c i) 9
      rw [pk_un z]; exact k (by omega)
  · intro x hx
    rcases v6 x hx with z | ⟨y, hy, z⟩
    · exact .inl z
    · exact .inr ⟨y, by omega, z⟩
theorem VC_buy {B k : Nat} {C : CS} {p : Nat → Int32} (h : VC B C) : VC B (C.1, C.2.1, C.2.2.1, C.2.2.2.1, C.2.2.2.2.1, C.2.2.2.2.2.1, C.2.2.2.2.2.2.1, C.2.2.2.2.2.2.2.1, upd C.2.2.2.2.2.2.2.2.1 k 40, p, C.2.2.2.2.2.2.2.2.2.2.1, C.2.2.2.2.2.2.2.2.2.2.2.1, C.2.2.2.2.2.2.2.2.2.2.2.2.1, C.2.2.2.2.2.2.2.2.2.2.2.2.2) := by
  obtain ⟨N, Q, v1, v2, v3, v4, v5, v6, v7, v8, v9, va, vb, vc⟩ := h
  exact ⟨N, Q, v1, v2, v3, v4, v5, v6, v7, v8, v9, va, vb, rg_upd (a := 40) vc (by omega)⟩
/-- the number of sweepers -/
theorem VC_n {B : Nat} {C : CS} (h : VC B C) : ¬ C.2.2.2.2.2.2.2.2.2.2.2.2.1 < 0 ∧ (C.2.2.2.2.2.2.2.2.2.2.2.2.1 = 8 ∨ (C.2.2.2.2.2.2.2.2.2.2.2.2.1 < 8 ∧ vp_in C.2.2.2.2.2.2.2.2.2.2.2.2.1 8)) := by
  obtain ⟨N, Q, v1, v2, v3, -⟩ := h
  rw [v3]
  refine ⟨nI_pos (by omega), ?_⟩
  by_cases z : N = 8
  · exact .inl (by rw [z]; rfl)
  · exact .inr ⟨nI_lt (b := 8) (by omega) (by decide), vpi (by omega) rfl⟩
theorem sum_n {f : Nat → Int32} (h : rg 9 50 f) : ∃ n, n ≤ 450 ∧ sSum f 9 = nI n := by
  unfold sSum
  exact lp_ind (f := sSu1 f) (fun i (a : Int32) => ∃ n, n ≤ 50 * i ∧ a = nI n) 9 (fun i a hi hb => by
    obtain ⟨n, hn, rfl⟩ := hb
    obtain ⟨x, hx, e⟩ := h i hi
    refine ⟨n + x, by omega, ?_⟩
    unfold sSu1
    rw [nI_clamp (show i < 2 ^ 31 by omega), e, nI_add]) 9 0 0 rfl ⟨0, by omega, rfl⟩
theorem mean_all : ∀ n, n < 451 → vf_n64 (FP.ddiv (FP.i2d (nI n)) 4621256167635550208) := by
  unfold vf_n64
  decide +kernel
theorem VC_mean {B : Nat} {C : CS} (h : VC B C) : vf_n64 (FP.ddiv (FP.i2d (sSum C.1 9)) 4621256167635550208) := by
  obtain ⟨N, Q, v1, v2, v3, v4, v5, v6, v7, -⟩ := h
  obtain ⟨n, hn, e⟩ := sum_n v7
  rw [e]
  exact mean_all n (by omega)
