/-! ===== the two searches, round by round ===== -/
theorem lp_ind {α : Type} {f : Nat → α → α} (P : Nat → α → Prop) (N : Nat) (hs : ∀ i a, i < N → P i a → P (i + 1) (f i a)) : ∀ (k i : Nat) (a : α), i + k = N → P i a → P N (lpN f k i a)
  | 0, i, a, e, h => by
    have : i = N := by omega
    subst this; exact h
  | k + 1, i, a, e, h => lp_ind P N hs k (i + 1) (f i a) (by omega) (hs i a (by omega) h)
theorem sCr_nI : ∀ v, v < 9 → ¬ sCr (nI v) = 0 := by decide +kernel
theorem sCr_n {x : Int32} (h : ¬ sCr x = 0) : ∃ n, n < 9 ∧ x = nI n := vp_in_of (sCr_in h) (by decide)
def wmud (mud : Nat → Int32) (m : Nat → Nat) : Prop := ∀ j, j < 9 → mud j = nI (m j) ∧ m j ≤ 50
theorem wmud_of {mud : Nat → Int32} (h : rg 9 50 mud) : wmud mud (fun j => (mud j).toNatClampNeg) := by
  intro j hj
  obtain ⟨z, hz, e⟩ := h j hj
  simp only [e, nI_clamp (show z < 2 ^ 31 by omega)]
  exact ⟨trivial, hz⟩
-- the class's
theorem cw_step {mud : Nat → Int32} {m f0 : Nat → Nat} {a K c d : Nat} {L : Nat → Int32} (hm : wmud mud m) (hc : c < 9) (hd : d < 4) (hK : K + 50 < 1000000)
    (h : wQ m a 1000000 K f0 (fun u v => (u < c ∧ wE u v = true) ∨ (u = c ∧ ∃ d', d' < d ∧ sNb (nI c) d' = nI v)) L) : wQ m a 1000000 (K + 50) f0 (fun u v => (u < c ∧ wE u v = true) ∨ (u = c ∧ ∃ d', d' < d + 1 ∧ sNb (nI c) d' = nI v)) (sWy1 mud c d L) := by
  have hcc : (nI c).toNatClampNeg = c := nI_clamp (by omega)
  unfold sWy1
  by_cases h1 : sCr (sNb (nI c) d) = 0
  · rw [if_pos h1]
    refine wQ_skip (by omega) h (fun f _ _ _ u v hu hv hdn => .inl ?_)
    rcases hdn with k | ⟨k, d', hd', e⟩
    · exact .inl k
    · by_cases g : d' < d
      · exact .inr ⟨k, d', g, e⟩
      · have : d' = d := by omega
        subst this
        rw [e] at h1
        exact absurd h1 (sCr_nI v hv)
  · obtain ⟨n, hn, e⟩ := sCr_n h1
    have hnn : (nI n).toNatClampNeg = n := nI_clamp (by omega)
    rw [if_neg h1, e, hcc, hnn]
    refine wQ_relax (fun j hj => (hm j hj).2) hK hc hn (wE_of hd e) h ?_ ?_
    · intro f hf hF hS j hj
      have hmc := hm c hc
      have f1 := hF c hc
      have f2 := hF n hn
      rw [hf c hc, hf n hn, hmc.1, nI_add]
      by_cases g : f c ≤ f n + m c
      · rw [if_pos ((nI_leI (by omega) (by omega)).mpr g), Nat.min_eq_left g]
        by_cases k : j = c
        · rw [if_pos k, k]; exact hf c hc
        · rw [if_neg k]
      · rw [if_neg (fun z => g ((nI_leI (by omega) (by omega)).mp z)), Nat.min_eq_right (by omega)]
        rfl
    · intro u v hu hv hdn
      rcases hdn with k | ⟨k, d', hd', e'⟩
      · exact .inl (.inl k)
      · by_cases g : d' < d
        · exact .inl (.inr ⟨k, d', g, e'⟩)
        · have : d' = d := by omega
          subst this
          rw [e] at e'
          exact .inr ⟨k, ((nI_eq (by omega) (by omega)).mp e').symm⟩
theorem cw_c {mud : Nat → Int32} {m f0 : Nat → Nat} {a K c : Nat} {L : Nat → Int32} (hm : wmud mud m) (hc : c < 9) (hK : K + 200 < 1000000)
    (h : wQ m a 1000000 K f0 (fun u v => u < c ∧ wE u v = true) L) : wQ m a 1000000 (K + 200) f0 (fun u v => u < c + 1 ∧ wE u v = true) (sWyC mud c L) := by
  have k := lp_ind (f := sWy1 mud c) (fun d L => wQ m a 1000000 (K + 50 * d) f0 (fun u v => (u < c ∧ wE u v = true) ∨ (u = c ∧ ∃ d', d' < d ∧ sNb (nI c) d' = nI v)) L) 4 (fun i b hi hb => by
    have z := cw_step (K := K + 50 * i) hm hc hi (by omega) hb
    rw [show K + 50 * i + 50 = K + 50 * (i + 1) by omega] at z
    exact z) 4 0 L rfl (wQ_skip (by omega) h (fun f _ _ _ u v _ _ hdn => .inl (by
    rcases hdn with z | ⟨_, d', hd', _⟩
    · exact z
    · omega)))
  refine wQ_skip (by omega) k (fun f _ _ _ u v _ hv hdn => .inl ?_)
  by_cases g : u < c
  · exact .inl ⟨g, hdn.2⟩
  · have : u = c := by omega
    subst this
    exact .inr ⟨rfl, wE_to hdn.2⟩
theorem cw_round {mud : Nat → Int32} {m f0 : Nat → Nat} {a K : Nat} {L : Nat → Int32} (hm : wmud mud m) (hK : K + 1800 < 1000000)
    (h : wQ m a 1000000 K f0 (fun _ _ => False) L) : wQ m a 1000000 (K + 1800) f0 (fun u v => wE u v = true) (sShort mud L) := by
  have k := lp_ind (f := sWyC mud) (fun c L => wQ m a 1000000 (K + 200 * c) f0 (fun u v => u < c ∧ wE u v = true) L) 9 (fun i b hi hb => by
    have z := cw_c (K := K + 200 * i) hm hi (by omega) hb
    rw [show K + 200 * i + 200 = K + 200 * (i + 1) by omega] at z
    exact z) 9 0 L rfl (wQ_skip (by omega) h (fun f _ _ _ u v _ _ hdn => absurd hdn.1 (Nat.not_lt_zero _)))
  exact wQ_skip (by omega) k (fun f _ _ _ u v hu _ hdn => .inl ⟨hu, hdn⟩)
theorem w_init {m : Nat → Nat} {a F K : Nat} {L : Nat → Int32} (hm : ∀ j, j < 9 → m j ≤ 50) (hK : 50 ≤ K) (hL : ∀ j, j < 9 → L j = if j = a then nI (m a) else nI F) : wR m a F K 0 L := by
  refine ⟨fun j => if j = a then m a else F, fun j hj => ?_, fun j hj => ?_, fun j w hw hl => ?_⟩
  · rw [hL j hj]
    by_cases e : j = a
    · rw [if_pos e]; simp only [if_pos e]
    · rw [if_neg e]; simp only [if_neg e]
  · by_cases e : j = a
    · subst e
      refine .inr ⟨?_, [], ⟨rfl, hj⟩, ?_⟩
      · simp only [if_pos]; have := hm j hj; omega
      · simp only [if_pos]; exact Nat.le_refl _
    · simp only [if_neg e]; exact .inl trivial
  · cases w with
    | nil =>
      have e : j = a := hw.1
      simp only [if_pos e]
      subst e
      exact Nat.le_refl _
    | cons y r => simp at hl
theorem cw_way {mud : Nat → Int32} {m : Nat → Nat} {a : Nat} (L : Nat → Int32) (hm : wmud mud m) (ha : a < 9) : wR m a 1000000 16200 8 (sWay (nI a) mud L) := by
  have h0 : wR m a 1000000 1800 0 (sWay0 (nI a) mud L) := by
    refine w_init (fun j hj => (hm j hj).2) (by omega) (fun j hj => ?_)
    unfold sWay0
    rw [nI_clamp (show a < 2 ^ 31 by omega)]
    by_cases e : j = a
    · rw [if_pos e, e]
      show upd _ a _ a = _
      unfold upd
      rw [if_pos rfl]; exact (hm a ha).1
    · rw [if_neg e, pk_un e]
      exact lp_ind (f := sW0) (fun i L => ∀ j, j < i → L j = nI 1000000) 9 (fun i b hi hb j hj => by
        unfold sW0
        rw [nI_clamp (show i < 2 ^ 31 by omega)]
        by_cases z : j = i
        · unfold upd; rw [if_pos z]; rfl
        · rw [pk_un z]; exact hb j (by omega)) 9 0 L rfl (fun j hj => absurd hj (Nat.not_lt_zero _)) j hj
  exact (lp_ind (f := sWayR mud) (fun i L => 1 ≤ i ∧ wR m a 1000000 (1800 * i) (i - 1) L) 9 (fun i b hi hb => ⟨by omega, by
    have z := wR_next hb.2 (fun f0 _ hq => cw_round hm (by omega) hq)
    rw [show i - 1 + 1 = i + 1 - 1 by omega, show 1800 * i + 1800 = 1800 * (i + 1) by omega] at z
    exact z⟩) 8 1 _ rfl ⟨Nat.le_refl _, h0⟩).2
-- the reference's
theorem mw_step {mud : Nat → Int32} {m f0 : Nat → Nat} {a K c d : Nat} {L : Nat → Int32} (hm : wmud mud m) (hc : c < 9) (hd : d < 4) (hK : K + 50 < 2147483647)
    (h : ¬ 2147483647 ≤ L c ∧ wQ m a 2147483647 K f0 (fun u v => (v < c ∧ wE u v = true) ∨ (v = c ∧ ∃ d', d' < d ∧ sNb (nI c) d' = nI u)) L) : ¬ 2147483647 ≤ mSp1 mud c d L c ∧ wQ m a 2147483647 (K + 50) f0 (fun u v => (v < c ∧ wE u v = true) ∨ (v = c ∧ ∃ d', d' < d + 1 ∧ sNb (nI c) d' = nI u)) (mSp1 mud c d L) := by
  have hcc : (nI c).toNatClampNeg = c := nI_clamp (by omega)
  obtain ⟨hg, h⟩ := h
  unfold mSp1
  by_cases h1 : sNb (nI c) d = -1
  · rw [if_pos h1]
    refine ⟨hg, wQ_skip (by omega) h (fun f _ _ _ u v hu hv hdn => .inl ?_)⟩
    rcases hdn with k | ⟨k, d', hd', e⟩
    · exact .inl k
    · by_cases g : d' < d
      · exact .inr ⟨k, d', g, e⟩
      · have : d' = d := by omega
        subst this
        rw [h1] at e
        exact absurd (show ¬ sCr (nI u) = 0 from sCr_nI u hu) (by rw [← e]; decide)
  · obtain ⟨n, hn, e⟩ := vp_in_of ((nb_in (vpi hc rfl) d hd).resolve_left h1) (by decide)
    have hnn : (nI n).toNatClampNeg = n := nI_clamp (by omega)
    rw [if_neg h1, e, hcc, hnn]
    have hL : ∀ f : Nat → Nat, (∀ j, j < 9 → L j = nI (f j)) → (∀ j, j < 9 → f j ≤ 2147483647) → wS m a 2147483647 K f → ∀ j, j < 9 → upd L n (imin (L n) (L c + mud n)) j = if j = n then nI (min (f n) (f c + m n)) else L j := by
      intro f hf hF hS j hj
      have hmc := hm n hn
      have f1 := hF c hc
      have f2 := hF n hn
      have f3 : f c ≤ K := by
        rcases hS c hc with z | ⟨z, -⟩
        · exact absurd (by rw [hf c hc, z]; exact nI_le (a := 2147483647) (b := 2147483647) (Nat.le_refl _) (by decide)) hg
        · exact z
      rw [hf c hc, hf n hn, hmc.1, nI_add, imin_n (by omega) (by omega)]
      rfl
    refine ⟨?_, wQ_relax (fun j hj => (hm j hj).2) hK hn hc (wE_sym c hc n hn (wE_of hd e)) h hL ?_⟩
    · obtain ⟨f, g1, g2, g3, g4⟩ := h
      rw [hL f g1 (fun j hj => wS_le g2 (by omega) hj) g2 c hc]
      by_cases z : c = n
      · rw [if_pos z]
        have f3 : f c ≤ K := by
          rcases g2 c hc with z | ⟨z, -⟩
          · exact absurd (by rw [g1 c hc, z]; exact nI_le (a := 2147483647) (b := 2147483647) (Nat.le_refl _) (by decide)) hg
          · exact z
        subst z
        exact nI_ge (b := 2147483647) (by omega) (by decide)
      · rw [if_neg z]; exact hg
    · intro u v hu hv hdn
      rcases hdn with k | ⟨k, d', hd', e'⟩
      · exact .inl (.inl k)
      · by_cases g : d' < d
        · exact .inl (.inr ⟨k, d', g, e'⟩)
        · have : d' = d := by omega
          subst this
          rw [e] at e'
          exact .inr ⟨((nI_eq (by omega) (by omega)).mp e').symm, k⟩
theorem mw_c {mud : Nat → Int32} {m f0 : Nat → Nat} {a K c : Nat} {L : Nat → Int32} (hm : wmud mud m) (hc : c < 9) (hK : K + 200 < 2147483647)
    (h : wQ m a 2147483647 K f0 (fun u v => v < c ∧ wE u v = true) L) : wQ m a 2147483647 (K + 200) f0 (fun u v => v < c + 1 ∧ wE u v = true) (mWC mud c L) := by
  have hcc : (nI c).toNatClampNeg = c := nI_clamp (by omega)
  unfold mWC
  rw [hcc]
  by_cases hg : 2147483647 ≤ L c
  · rw [if_pos hg]
    refine wQ_skip (by omega) h (fun f hf hf0 hS u v hu hv hdn => ?_)
    by_cases g : v < c
    · exact .inl ⟨g, hdn.2⟩
    · have : v = c := by omega
      subst this
      refine .inr ?_
      rcases hS v hv with z | ⟨z, -⟩
      · have := hf0 v hv
        have := wS_le hS (by omega) hu
        omega
      · rw [hf v hv] at hg
        exact absurd hg (nI_ge (b := 2147483647) (by omega) (by decide))
  · rw [if_neg hg]
    have k := (lp_ind (f := mSp1 mud c) (fun d L => ¬ 2147483647 ≤ L c ∧ wQ m a 2147483647 (K + 50 * d) f0 (fun u v => (v < c ∧ wE u v = true) ∨ (v = c ∧ ∃ d', d' < d ∧ sNb (nI c) d' = nI u)) L) 4 (fun i b hi hb => by
      have z := mw_step (K := K + 50 * i) hm hc hi (by omega) hb
      rw [show K + 50 * i + 50 = K + 50 * (i + 1) by omega] at z
      exact z) 4 0 L rfl ⟨hg, wQ_skip (by omega) h (fun f _ _ _ u v _ _ hdn => .inl (by
      rcases hdn with z | ⟨_, d', hd', _⟩
      · exact z
      · omega))⟩).2
    refine wQ_skip (by omega) k (fun f _ _ _ u v hu hv hdn => .inl ?_)
    by_cases g : v < c
    · exact .inl ⟨g, hdn.2⟩
    · have : v = c := by omega
      subst this
      exact .inr ⟨rfl, wE_to (wE_sym u hu v hv hdn.2)⟩
theorem mw_round {mud : Nat → Int32} {m f0 : Nat → Nat} {a K r : Nat} {L : Nat → Int32} (hm : wmud mud m) (hK : K + 1800 < 2147483647)
    (h : wQ m a 2147483647 K f0 (fun _ _ => False) L) : wQ m a 2147483647 (K + 1800) f0 (fun u v => wE u v = true) (mWR mud r L) := by
  have k := lp_ind (f := mWC mud) (fun c L => wQ m a 2147483647 (K + 200 * c) f0 (fun u v => v < c ∧ wE u v = true) L) 9 (fun i b hi hb => by
    have z := mw_c (K := K + 200 * i) hm hi (by omega) hb
    rw [show K + 200 * i + 200 = K + 200 * (i + 1) by omega] at z
    exact z) 9 0 L rfl (wQ_skip (by omega) h (fun f _ _ _ u v _ _ hdn => absurd hdn.1 (Nat.not_lt_zero _)))
  exact wQ_skip (by omega) k (fun f _ _ _ u v _ hv hdn => .inl ⟨hv, hdn⟩)
theorem mw_way {mud : Nat → Int32} {m : Nat → Nat} {a : Nat} (L : Nat → Int32) (hm : wmud mud m) (ha : a < 9) : wR m a 2147483647 16250 9 (mWay (nI a) mud L) := by
  have h0 : wR m a 2147483647 50 0 (lpN (mW0 (nI a) mud) 9 0 L) := by
    refine w_init (fun j hj => (hm j hj).2) (by omega) (fun j hj => ?_)
    exact lp_ind (f := mW0 (nI a) mud) (fun i L => ∀ j, j < i → L j = if j = a then nI (m a) else nI 2147483647) 9 (fun i b hi hb j hj => by
        unfold mW0
        rw [nI_clamp (show i < 2 ^ 31 by omega)]
        by_cases y : i = a
        · rw [if_pos (by rw [y])]
          by_cases z : j = i
          · unfold upd; rw [if_pos z, if_pos (by omega), (hm i hi).1, y]
          · rw [pk_un z]; exact hb j (by omega)
        · rw [if_neg (fun q => y ((nI_eq (by omega) (by omega)).mp q))]
          by_cases z : j = i
          · unfold upd; rw [if_pos z, if_neg (by omega)]; rfl
          · rw [pk_un z]; exact hb j (by omega)) 9 0 L rfl (fun j hj => absurd hj (Nat.not_lt_zero _)) j hj
  exact lp_ind (f := mWR mud) (fun i L => wR m a 2147483647 (50 + 1800 * i) i L) 9 (fun i b hi hb => by
    have z := wR_next hb (fun f0 _ hq => mw_round (r := i) hm (by omega) hq)
    rw [show 50 + 1800 * i + 1800 = 50 + 1800 * (i + 1) by omega] at z
    exact z) 9 0 _ rfl h0
theorem way_same {mud L L' : Nat → Int32} {a b : Int32} (h : rg 9 50 mud) (ha : ¬ sCr a = 0) (hb : ¬ sCr b = 0) : sWay a mud L b.toNatClampNeg = mWay a mud L' b.toNatClampNeg := by
  obtain ⟨x, hx, rfl⟩ := sCr_n ha
  obtain ⟨y, hy, rfl⟩ := sCr_n hb
  rw [nI_clamp (show y < 2 ^ 31 by omega)]
  have hm := wmud_of h
  exact wR_same hx (fun j hj => (hm j hj).2) (by decide) (by decide) (by decide) (by decide) (cw_way L hm hx) (mw_way L' hm hx) y hy
