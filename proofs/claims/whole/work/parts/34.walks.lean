/-! ===== the cleanest way: both searches find the same ===== -/
def wE (x y : Nat) : Bool := (List.range 4).any (fun d => sNb (nI x) d == nI y)
def wW (a : Nat) : List Nat → Prop
  | [] => False
  | [x] => x = a ∧ x < 9
  | x :: y :: r => x < 9 ∧ wE x y = true ∧ wW a (y :: r)
def wT (m : Nat → Nat) : List Nat → Nat
  | [] => 0
  | x :: r => m x + wT m r
theorem wE_of {x d n : Nat} (hd : d < 4) (h : sNb (nI x) d = nI n) : wE x n = true := by
  unfold wE
  rw [List.any_eq_true]
  exact ⟨d, List.mem_range.mpr hd, by rw [h]; exact beq_self_eq_true _⟩
theorem wE_to {x y : Nat} (h : wE x y = true) : ∃ d, d < 4 ∧ sNb (nI x) d = nI y := by
  unfold wE at h
  rw [List.any_eq_true] at h
  obtain ⟨d, hd, e⟩ := h
  exact ⟨d, List.mem_range.mp hd, eq_of_beq e⟩
theorem wE_sym : ∀ x, x < 9 → ∀ y, y < 9 → wE x y = true → wE y x = true := by decide +kernel
theorem wW_lt {a : Nat} : ∀ {w : List Nat}, wW a w → ∀ x, x ∈ w → x < 9
  | [], h, _, _ => absurd h id
  | [_], h, x, hx => by rw [List.mem_singleton.mp hx]; exact h.2
  | _ :: _ :: _, h, x, hx => by
    rcases List.mem_cons.mp hx with e | e
    · rw [e]; exact h.1
    · exact wW_lt h.2.2 x e
theorem wW_suf {a : Nat} : ∀ (s : List Nat) {t : List Nat}, t ≠ [] → wW a (s ++ t) → wW a t
  | [], _, _, h => h
  | [x], t, ht, h => by
    cases t with
    | nil => exact absurd rfl ht
    | cons y r => exact h.2.2
  | _ :: y :: s, t, ht, h => wW_suf (y :: s) ht h.2.2
theorem wT_app (m : Nat → Nat) : ∀ (s t : List Nat), wT m (s ++ t) = wT m s + wT m t
  | [], t => (Nat.zero_add _).symm
  | x :: s, t => by show m x + wT m (s ++ t) = m x + wT m s + wT m t; rw [wT_app m s t]; omega
theorem wW_nodup {a : Nat} (m : Nat → Nat) : ∀ (w : List Nat) (x : Nat), wW a (x :: w) → ∃ w', wW a (x :: w') ∧ (x :: w').Nodup ∧ wT m (x :: w') ≤ wT m (x :: w)
  | [], x, h => ⟨[], h, by simp, Nat.le_refl _⟩
  | y :: r, x, h => by
    obtain ⟨r', h1, h2, h3⟩ := wW_nodup m r y h.2.2
    by_cases hx : x ∈ y :: r'
    · obtain ⟨s, t, e⟩ := List.append_of_mem hx
      refine ⟨t, wW_suf s (by simp) (by rw [← e]; exact h1), ?_, ?_⟩
      · rw [e] at h2; exact (List.nodup_append.mp h2).2.1
      · have := wT_app m s (x :: t)
        rw [← e] at this
        have h4 : wT m (x :: y :: r) = m x + wT m (y :: r) := rfl
        omega
    · refine ⟨y :: r', ⟨h.1, h.2.1, h1⟩, List.nodup_cons.mpr ⟨hx, h2⟩, ?_⟩
      have h4 : wT m (x :: y :: r) = m x + wT m (y :: r) := rfl
      have h5 : wT m (x :: y :: r') = m x + wT m (y :: r') := rfl
      omega
theorem nodup_len : ∀ (n : Nat) (l : List Nat), l.Nodup → (∀ x, x ∈ l → x < n) → l.length ≤ n
  | 0, [], _, _ => Nat.le_refl _
  | 0, x :: _, _, h => absurd (h x (List.mem_cons_self ..)) (Nat.not_lt_zero _)
  | n + 1, l, h1, h2 => by
    have h3 := nodup_len n (l.erase n) (h1.erase n) (fun x hx => by
      have := (List.Nodup.mem_erase_iff h1).mp hx
      have := h2 x this.2
      omega)
    have h4 := List.length_erase (a := n) (l := l)
    split at h4 <;> omega
theorem wT_le {m : Nat → Nat} {b : Nat} : ∀ (w : List Nat), (∀ x, x ∈ w → m x ≤ b) → wT m w ≤ b * w.length
  | [], _ => Nat.zero_le _
  | x :: w, h => by
    have h1 := wT_le w (fun y hy => h y (List.mem_cons_of_mem _ hy))
    have h2 := h x (List.mem_cons_self ..)
    show m x + wT m w ≤ b * (w.length + 1)
    rw [Nat.mul_succ]; omega
def wRt : Nat → Nat → Nat → List Nat
  | 0, _, j => [j]
  | k + 1, a, j => if j = a then [j] else j :: wRt k a (if j % 3 < a % 3 then j + 1 else if a % 3 < j % 3 then j - 1 else if j < a then j + 3 else j - 3)
def wWb (a : Nat) : List Nat → Bool
  | [] => false
  | [x] => x == a && Nat.blt x 9
  | x :: y :: r => Nat.blt x 9 && (wE x y && wWb a (y :: r))
theorem wWb_of {a : Nat} : ∀ {w : List Nat}, wWb a w = true → wW a w
  | [], h => Bool.noConfusion h
  | [x], h => by
    have := Bool.and_eq_true _ _ |>.mp h
    exact ⟨eq_of_beq this.1, by have := this.2; rw [Nat.blt_eq] at this; exact this⟩
  | x :: y :: r, h => by
    have h1 := Bool.and_eq_true _ _ |>.mp h
    have h2 := Bool.and_eq_true _ _ |>.mp h1.2
    exact ⟨by have := h1.1; rw [Nat.blt_eq] at this; exact this, h2.1, wWb_of h2.2⟩
theorem wRt_ok : ∀ a, a < 9 → ∀ j, j < 9 → wWb a (wRt 8 a j) = true ∧ (wRt 8 a j).head? = some j := by decide +kernel
theorem w_conn {a j : Nat} (ha : a < 9) (hj : j < 9) : ∃ w, wW a (j :: w) := by
  obtain ⟨h1, h2⟩ := wRt_ok a ha j hj
  obtain ⟨w, e⟩ := List.head?_eq_some_iff.mp h2
  exact ⟨w, by rw [← e]; exact wWb_of h1⟩
/-- what a table of a search holds: far, or the mud of a walk at least -/
def wS (m : Nat → Nat) (a F K : Nat) (f : Nat → Nat) : Prop := ∀ j, j < 9 → f j = F ∨ (f j ≤ K ∧ ∃ w, wW a (j :: w) ∧ wT m (j :: w) ≤ f j)
def wQ (m : Nat → Nat) (a F K : Nat) (f0 : Nat → Nat) (done : Nat → Nat → Prop) (L : Nat → Int32) : Prop :=
  ∃ f, (∀ j, j < 9 → L j = nI (f j)) ∧ wS m a F K f ∧ (∀ j, j < 9 → f j ≤ f0 j) ∧ ∀ x y, x < 9 → y < 9 → done x y → f x ≤ f0 y + m x
theorem wS_le {m : Nat → Nat} {a F K j : Nat} {f : Nat → Nat} (h : wS m a F K f) (hK : K ≤ F) (hj : j < 9) : f j ≤ F := by
  rcases h j hj with e | ⟨e, -⟩ <;> omega
theorem wQ_relax {m : Nat → Nat} {a F K x y : Nat} {f0 : Nat → Nat} {done done' : Nat → Nat → Prop} {L L' : Nat → Int32} (hm : ∀ j, j < 9 → m j ≤ 50) (hK : K + 50 < F) (hx : x < 9) (hy : y < 9) (hE : wE x y = true) (h : wQ m a F K f0 done L)
    (hL : ∀ f : Nat → Nat, (∀ j, j < 9 → L j = nI (f j)) → (∀ j, j < 9 → f j ≤ F) → wS m a F K f → ∀ j, j < 9 → L' j = if j = x then nI (min (f x) (f y + m x)) else L j)
    (hd : ∀ u v, u < 9 → v < 9 → done' u v → done u v ∨ (u = x ∧ v = y)) : wQ m a F (K + 50) f0 done' L' := by
  obtain ⟨f, h1, h2, h3, h4⟩ := h
  have hF : ∀ j, j < 9 → f j ≤ F := fun j hj => wS_le h2 (by omega) hj
  refine ⟨fun j => if j = x then min (f x) (f y + m x) else f j, ?_, ?_, ?_, ?_⟩
  · intro j hj
    rw [hL f h1 hF h2 j hj]
    by_cases e : j = x
    · rw [if_pos e]; simp only [if_pos e]
    · rw [if_neg e]; simp only [if_neg e]; exact h1 j hj
  · intro j hj
    by_cases e : j = x
    · simp only [if_pos e]
      subst e
      have hmx := hm j hj
      rcases h2 y hy with ey | ⟨ey, w, hw, hwt⟩
      · have := hF j hj
        rw [Nat.min_eq_left (by omega)]
        rcases h2 j hj with c | ⟨c, w, hw⟩
        · exact .inl c
        · exact .inr ⟨by omega, w, hw⟩
      · refine .inr ⟨by omega, ?_⟩
        by_cases c : f j ≤ f y + m j
        · rw [Nat.min_eq_left c]
          rcases h2 j hj with z | ⟨z, w', hw'⟩
          · omega
          · exact ⟨w', hw'⟩
        · rw [Nat.min_eq_right (by omega)]
          refine ⟨y :: w, ⟨hj, hE, hw⟩, ?_⟩
          show m j + wT m (y :: w) ≤ _
          omega
    · simp only [if_neg e]
      rcases h2 j hj with c | ⟨c, w, hw⟩
      · exact .inl c
      · exact .inr ⟨by omega, w, hw⟩
  · intro j hj
    have := h3 j hj
    by_cases e : j = x
    · simp only [if_pos e]; subst e; omega
    · simp only [if_neg e]; exact this
  · intro u v hu hv hdn
    rcases hd u v hu hv hdn with c | ⟨rfl, rfl⟩
    · have := h4 u v hu hv c
      by_cases e : u = x
      · simp only [if_pos e]; subst e; omega
      · simp only [if_neg e]; exact this
    · simp only [if_pos]
      have := h3 v hv
      omega
theorem wQ_skip {m : Nat → Nat} {a F K K' : Nat} {f0 : Nat → Nat} {done done' : Nat → Nat → Prop} {L : Nat → Int32} (hK : K ≤ K') (h : wQ m a F K f0 done L) (hd : ∀ f : Nat → Nat, (∀ j, j < 9 → L j = nI (f j)) → (∀ j, j < 9 → f j ≤ f0 j) → wS m a F K f → ∀ u v, u < 9 → v < 9 → done' u v → done u v ∨ f u ≤ f0 v + m u) : wQ m a F K' f0 done' L := by
  obtain ⟨f, h1, h2, h3, h4⟩ := h
  refine ⟨f, h1, fun j hj => ?_, h3, fun u v hu hv hdn => ?_⟩
  · rcases h2 j hj with c | ⟨c, w⟩
    · exact .inl c
    · exact .inr ⟨by omega, w⟩
  · rcases hd f h1 h3 h2 u v hu hv hdn with c | c
    · exact h4 u v hu hv c
    · exact c
/-- a round: every step of one edge has been made good -/
def wR (m : Nat → Nat) (a F K i : Nat) (L : Nat → Int32) : Prop :=
  ∃ f, (∀ j, j < 9 → L j = nI (f j)) ∧ wS m a F K f ∧ ∀ j w, wW a (j :: w) → w.length ≤ i → f j ≤ wT m (j :: w)
theorem wR_next {m : Nat → Nat} {a F K K' i : Nat} {L L' : Nat → Int32} (h : wR m a F K i L) (hs : ∀ f0 : Nat → Nat, (∀ j, j < 9 → L j = nI (f0 j)) → wQ m a F K f0 (fun _ _ => False) L → wQ m a F K' f0 (fun x y => wE x y = true) L') : wR m a F K' (i + 1) L' := by
  obtain ⟨f0, h1, h2, h3⟩ := h
  obtain ⟨f, g1, g2, g3, g4⟩ := hs f0 h1 ⟨f0, h1, h2, fun _ _ => Nat.le_refl _, fun _ _ _ _ c => absurd c id⟩
  refine ⟨f, g1, g2, ?_⟩
  intro j w hw hl
  have hj : j < 9 := wW_lt hw j (List.mem_cons_self ..)
  cases w with
  | nil => exact Nat.le_trans (g3 j hj) (h3 j [] hw (Nat.zero_le _))
  | cons y r =>
    have hy : y < 9 := wW_lt hw y (by simp)
    have e1 := g4 j y hj hy hw.2.1
    have e2 := h3 y r hw.2.2 (by simp at hl; omega)
    show f j ≤ m j + wT m (y :: r)
    omega
theorem wR_same {m : Nat → Nat} {a F G K K' i i' : Nat} {L L' : Nat → Int32} (ha : a < 9) (hm : ∀ j, j < 9 → m j ≤ 50) (hi : 8 ≤ i) (hi' : 8 ≤ i') (hF : 450 < F) (hG : 450 < G) (h : wR m a F K i L) (h' : wR m a G K' i' L') : ∀ j, j < 9 → L j = L' j := by
  obtain ⟨f, h1, h2, h3⟩ := h
  obtain ⟨g, g1, g2, g3⟩ := h'
  intro j hj
  have key : ∀ w, wW a (j :: w) → f j ≤ wT m (j :: w) ∧ g j ≤ wT m (j :: w) ∧ f j ≤ 450 ∧ g j ≤ 450 := by
    intro w hw
    obtain ⟨w', k1, k2, k3⟩ := wW_nodup m w j hw
    have k4 := nodup_len 9 _ k2 (wW_lt k1)
    have k4' : w'.length ≤ 8 := by simp at k4; omega
    have k5 := wT_le (m := m) (b := 50) (j :: w') (fun x hx => hm x (wW_lt k1 x hx))
    have k6 : 50 * (j :: w').length ≤ 450 := by simp; omega
    have k7 := h3 j w' k1 (by omega)
    have k8 := g3 j w' k1 (by omega)
    refine ⟨?_, ?_, ?_, ?_⟩ <;> omega
  obtain ⟨w, hw⟩ := w_conn ha hj
  obtain ⟨-, -, c1, c2⟩ := key w hw
  rw [h1 j hj, g1 j hj]
  rcases h2 j hj with e | ⟨-, u, hu, eu⟩
  · omega
  · rcases g2 j hj with e | ⟨-, v, hv, ev⟩
    · omega
    · have d1 := (key u hu).2.1
      have d2 := (key v hv).1
      have : f j = g j := by omega
      rw [this]
