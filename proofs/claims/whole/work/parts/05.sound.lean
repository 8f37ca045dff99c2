theorem lk_idx {ad : Nat → Nat} {i : Nat} {v : Value} : ∀ {lv : aV}, lk lv i = some v → ∃ j : Nat, (el ad lv)[j]? = some (i, ev ad v) := by
  intro lv
  induction lv with
  | nil => intro h; simp [lk] at h
  | cons q r ih =>
    intro h
    obtain ⟨j, w⟩ := q
    cases hb : Nat.beq j i with
    | true =>
      simp only [lk, hb, cond_true] at h
      cases h
      have hj : j = i := Nat.eq_of_beq_eq_true hb
      subst hj
      exact ⟨0, rfl⟩
    | false =>
      simp only [lk, hb, cond_false] at h
      obtain ⟨n, hn⟩ := ih h
      exact ⟨n + 1, hn⟩
theorem r_dup_spec {lv : aV} {st : List Value} {h : aH} {z : aV × List Value × aH × List Prop} (hr : r_dup lv st h = some z) : ∃ (v : Value) (r : List Value), st = v :: r ∧ v.category = 1 ∧ z = (lv, v :: v :: r, h, []) := by
  cases st with
  | nil => cases hr
  | cons v r =>
    have hr : (bif Nat.beq v.category 1 then some (lv, v :: v :: r, h, []) else none) = some z := hr
    cases hb2 : Nat.beq v.category 1 with
    | false => rw [hb2] at hr; cases hr
    | true => rw [hb2] at hr; exact ⟨v, r, rfl, Nat.eq_of_beq_eq_true hb2, (Option.some.inj hr).symm⟩
theorem r_pop_spec {lv : aV} {st : List Value} {h : aH} {z : aV × List Value × aH × List Prop} (hr : r_pop lv st h = some z) : ∃ (v : Value) (r : List Value), st = v :: r ∧ v.category = 1 ∧ z = (lv, r, h, []) := by
  cases st with
  | nil => cases hr
  | cons v r =>
    have hr : (bif Nat.beq v.category 1 then some (lv, r, h, []) else none) = some z := hr
    cases hb2 : Nat.beq v.category 1 with
    | false => rw [hb2] at hr; cases hr
    | true => rw [hb2] at hr; exact ⟨v, r, rfl, Nat.eq_of_beq_eq_true hb2, (Option.some.inj hr).symm⟩
theorem r_dup2_spec {lv : aV} {st : List Value} {h : aH} {z : aV × List Value × aH × List Prop} (hr : r_dup2 lv st h = some z) : ∃ (v w : Value) (r : List Value), st = v :: w :: r ∧ v.category = 1 ∧ w.category = 1 ∧ z = (lv, v :: w :: v :: w :: r, h, []) := by
  cases st with
  | nil => cases hr
  | cons v r0 =>
    cases r0 with
    | nil => cases hr
    | cons w r =>
      have hr : (bif Nat.beq v.category 1 && Nat.beq w.category 1 then some (lv, v :: w :: v :: w :: r, h, []) else none) = some z := hr
      cases hb2 : (Nat.beq v.category 1 && Nat.beq w.category 1) with
      | false => rw [hb2] at hr; cases hr
      | true =>
        rw [hb2] at hr
        obtain ⟨b1, b2⟩ := (Bool.and_eq_true _ _).mp hb2
        exact ⟨v, w, r, rfl, Nat.eq_of_beq_eq_true b1, Nat.eq_of_beq_eq_true b2, (Option.some.inj hr).symm⟩
theorem r_get_spec {FT : List (Nat × Nat × Nat)} {idx : Nat} {lv : aV} {st : List Value} {h : aH} {z : aV × List Value × aH × List Prop} (hr : r_get FT idx lv st h = some z) : ∃ (a : Nat) (r : List Value) (x : Nat × List Value) (y : Nat × Nat) (v : Value), st = .ref a :: r ∧ h[a]? = some (.inr (.inr x)) ∧ fnd FT idx = some y ∧ x.1 = y.1 ∧ x.2[y.2]? = some v ∧ z = (lv, v :: r, h, []) := by
  unfold r_get at hr
  split at hr
  · rename_i a r
    split at hr
    · rename_i x h1
      split at hr
      · rename_i y h2
        cases hb : Nat.beq x.1 y.1 with
        | false => rw [hb] at hr; cases hr
        | true =>
          rw [hb] at hr
          simp only [cond_true] at hr
          split at hr
          · rename_i v h3
            exact ⟨a, r, x, y, v, rfl, h1, h2, Nat.eq_of_beq_eq_true hb, h3, (Option.some.inj hr).symm⟩
          · cases hr
      · cases hr
    · cases hr
  · cases hr
theorem r_put_spec {FT : List (Nat × Nat × Nat)} {idx : Nat} {lv : aV} {st : List Value} {h : aH} {z : aV × List Value × aH × List Prop} (hr : r_put FT idx lv st h = some z) : ∃ (v : Int32) (a : Nat) (r : List Value) (x : Nat × List Value) (y : Nat × Nat), st = .int v :: .ref a :: r ∧ h[a]? = some (.inr (.inr x)) ∧ fnd FT idx = some y ∧ x.1 = y.1 ∧ y.2 < x.2.length ∧ z = (lv, r, h.set a (aO x.1 (x.2.set y.2 (.int v))), []) := by
  unfold r_put at hr
  split at hr
  · rename_i v a r
    split at hr
    · rename_i x h1
      split at hr
      · rename_i y h2
        cases hb : (Nat.beq x.1 y.1 && Nat.blt y.2 x.2.length) with
        | false => rw [hb] at hr; cases hr
        | true =>
          rw [hb] at hr
          obtain ⟨b1, b2⟩ := (Bool.and_eq_true _ _).mp hb
          exact ⟨v, a, r, x, y, rfl, h1, h2, Nat.eq_of_beq_eq_true b1, Nat.le_of_ble_eq_true b2, (Option.some.inj hr).symm⟩
      · cases hr
    · cases hr
  · cases hr
theorem r_iald_spec {lv : aV} {st : List Value} {h : aH} {z : aV × List Value × aH × List Prop} (hr : r_iald lv st h = some z) : ∃ (i : Int32) (a : Nat) (r : List Value) (x : Nat × (Nat → Int32)), st = .int i :: .ref a :: r ∧ h[a]? = some (.inl x) ∧ z = (lv, .int (x.2 i.toNatClampNeg) :: r, h, [vp_in i x.1]) := by
  unfold r_iald at hr
  split at hr
  · rename_i i a r
    split at hr
    · rename_i x h1
      exact ⟨i, a, r, x, rfl, h1, (Option.some.inj hr).symm⟩
    · cases hr
  · cases hr
theorem r_lald_spec {lv : aV} {st : List Value} {h : aH} {z : aV × List Value × aH × List Prop} (hr : r_lald lv st h = some z) : ∃ (i : Int32) (a : Nat) (r : List Value) (x : Nat × (Nat → Int64)), st = .int i :: .ref a :: r ∧ h[a]? = some (.inr (.inl x)) ∧ z = (lv, .long (x.2 i.toNatClampNeg) :: r, h, [vp_in i x.1]) := by
  unfold r_lald at hr
  split at hr
  · rename_i i a r
    split at hr
    · rename_i x h1
      exact ⟨i, a, r, x, rfl, h1, (Option.some.inj hr).symm⟩
    · cases hr
  · cases hr
theorem r_iast_spec {lv : aV} {st : List Value} {h : aH} {z : aV × List Value × aH × List Prop} (hr : r_iast lv st h = some z) : ∃ (v i : Int32) (a : Nat) (r : List Value) (x : Nat × (Nat → Int32)), st = .int v :: .int i :: .ref a :: r ∧ h[a]? = some (.inl x) ∧ z = (lv, r, h.set a (aI x.1 (upd x.2 i.toNatClampNeg v)), [vp_in i x.1]) := by
  unfold r_iast at hr
  split at hr
  · rename_i v i a r
    split at hr
    · rename_i x h1
      exact ⟨v, i, a, r, x, rfl, h1, (Option.some.inj hr).symm⟩
    · cases hr
  · cases hr
theorem r_last_spec {lv : aV} {st : List Value} {h : aH} {z : aV × List Value × aH × List Prop} (hr : r_last lv st h = some z) : ∃ (v : Int64) (i : Int32) (a : Nat) (r : List Value) (x : Nat × (Nat → Int64)), st = .long v :: .int i :: .ref a :: r ∧ h[a]? = some (.inr (.inl x)) ∧ z = (lv, r, h.set a (aL x.1 (vp_updL x.2 i.toNatClampNeg v)), [vp_in i x.1]) := by
  unfold r_last at hr
  split at hr
  · rename_i v i a r
    split at hr
    · rename_i x h1
      exact ⟨v, i, a, r, x, rfl, h1, (Option.some.inj hr).symm⟩
    · cases hr
  · cases hr
theorem r_alen_spec {lv : aV} {st : List Value} {h : aH} {z : aV × List Value × aH × List Prop} (hr : r_alen lv st h = some z) : ∃ (a : Nat) (r : List Value) (x : Nat × (Nat → Int32)), st = .ref a :: r ∧ h[a]? = some (.inl x) ∧ z = (lv, .int (Int32.ofNat x.1) :: r, h, []) := by
  unfold r_alen at hr
  split at hr
  · rename_i a r
    split at hr
    · rename_i x h1
      exact ⟨a, r, x, rfl, h1, (Option.some.inj hr).symm⟩
    · cases hr
  · cases hr
/-! ===== the block runner is sound ===== -/
def ilen : Instr → Nat
  | .bipush _ => 2
  | .iload _ => 2
  | .aload _ => 2
  | .lload _ => 2
  | .dload _ => 2
  | .istore _ => 2
  | .astore _ => 2
  | .lstore _ => 2
  | .dstore _ => 2
  | .newarray _ => 2
  | .ldc _ => 2
  | .iinc _ _ => 3
  | .getfield _ => 3
  | .putfield _ => 3
  | .goto _ => 3
  | .if_icmp _ _ => 3
  | .ifCond _ _ => 3
  | .ifnull _ => 3
  | .ifnonnull _ => 3
  | .invokevirtual _ => 3
  | .invokestatic _ => 3
  | .invokespecial _ => 3
  | .new _ => 3
  | .ldc2_w _ => 3
  | .sipush _ => 3
  | _ => 1
set_option maxHeartbeats 4000000 in
theorem run1_ok {G : aG} {M : aM} {h h' : aH} {kc ks pc : Nat} {lv lv' : aV} {st st' : List Value} {FT PT : List (Nat × Nat × Nat)} {i : Instr} {L : List Prop} (hF : FTok M.1 FT) (hPt : PTok M.1 PT) (hd : decode M.2.1 pc = .ok (i, ilen i))
    (hr : run1 FT PT M.2.2.1 i lv st h = some (lv', st', h', L)) (hL : ∀ P ∈ L, P) (k : AW G M h' kc ks (pc + ilen i) lv' st') : AW G M h kc ks pc lv st := by
  obtain ⟨p, l, e, R, s, m, args, below, meth, c, Q, D, cI, cL, A, ad0, X⟩ := G
  intro ok ad H locs ls ha hP hD hS hl
  obtain ⟨hx, hb, hml, hown, hkw, hK, hA, hX⟩ := id ok
  have kk := k ok ad
  cases i with
  | iconst n =>
    have hr : (some (lv, Value.int (Int32.ofInt n) :: st, h, []) : Rs) = some (lv', st', h', L) := hr
    cases hr
    exact lv_iconst hx hb hd rfl (kk H locs ls ha hP hD hS hl)
  | bipush n =>
    have hr : (some (lv, Value.int (Int8.ofInt n).toInt32 :: st, h, []) : Rs) = some (lv', st', h', L) := hr
    cases hr
    exact lv_bipush hx hb hd rfl (kk H locs ls ha hP hD hS hl)
  | iload_n q =>
    have hr : r_iload lv st h q = some (lv', st', h', L) := hr
    unfold r_iload at hr
    split at hr
    · rename_i x hx1
      cases hr
      exact lv_iload_n hx hb hd rfl (lk_at hl hx1) (kk H locs ls ha hP hD hS hl)
    · cases hr
  | iload q =>
    have hr : r_iload lv st h q = some (lv', st', h', L) := hr
    unfold r_iload at hr
    split at hr
    · rename_i x hx1
      cases hr
      exact lv_iload hx hb hd (lk_at hl hx1) (kk H locs ls ha hP hD hS hl)
    · cases hr
  | aload_n q =>
    have hr : r_aload lv st h q = some (lv', st', h', L) := hr
    unfold r_aload at hr
    split at hr
    · rename_i x hx1
      cases hr
      exact lv_aload_n hx hb hd rfl (lk_at hl hx1) (kk H locs ls ha hP hD hS hl)
    · cases hr
  | aload q =>
    have hr : r_aload lv st h q = some (lv', st', h', L) := hr
    unfold r_aload at hr
    split at hr
    · rename_i x hx1
      cases hr
      exact lv_aload hx hb hd (lk_at hl hx1) (kk H locs ls ha hP hD hS hl)
    · cases hr
  | lload_n q =>
    have hr : r_lload lv st h q = some (lv', st', h', L) := hr
    unfold r_lload at hr
    split at hr
    · rename_i x hx1
      cases hr
      exact lv_lload_n hx hb hd rfl (lk_at hl hx1) (kk H locs ls ha hP hD hS hl)
    · cases hr
  | lload q =>
    have hr : r_lload lv st h q = some (lv', st', h', L) := hr
    unfold r_lload at hr
    split at hr
    · rename_i x hx1
      cases hr
      exact lv_lload hx hb hd (lk_at hl hx1) (kk H locs ls ha hP hD hS hl)
    · cases hr
  | dload_n q =>
    have hr : r_dload lv st h q = some (lv', st', h', L) := hr
    unfold r_dload at hr
    split at hr
    · rename_i x hx1
      cases hr
      exact lv_dload_n hx hb hd rfl (lk_at hl hx1) (kk H locs ls ha hP hD hS hl)
    · cases hr
  | dload q =>
    have hr : r_dload lv st h q = some (lv', st', h', L) := hr
    unfold r_dload at hr
    split at hr
    · rename_i x hx1
      cases hr
      exact lv_dload hx hb hd (lk_at hl hx1) (kk H locs ls ha hP hD hS hl)
    · cases hr
  | istore_n q =>
    have hr : r_istore M.2.2.1 lv st h q = some (lv', st', h', L) := hr
    unfold r_istore at hr
    split at hr
    · rename_i x r
      cases hb2 : Nat.blt (q : Nat) M.2.2.1 with
      | false => rw [hb2] at hr; cases hr
      | true =>
        rw [hb2] at hr
        cases hr
        exact lv_istore_n hx hb hd rfl hl (Nat.le_of_ble_eq_true hb2) (el_stl (ad := ad) (v := .int _)) (fun ls' hl' => kk H locs ls' ha hP hD hS hl')
    · cases hr
  | istore q =>
    have hr : r_istore M.2.2.1 lv st h q = some (lv', st', h', L) := hr
    unfold r_istore at hr
    split at hr
    · rename_i x r
      cases hb2 : Nat.blt q M.2.2.1 with
      | false => rw [hb2] at hr; cases hr
      | true =>
        rw [hb2] at hr
        cases hr
        exact lv_istore hx hb hd hl (Nat.le_of_ble_eq_true hb2) (el_stl (ad := ad) (v := .int _)) (fun ls' hl' => kk H locs ls' ha hP hD hS hl')
    · cases hr
  | astore_n q =>
    have hr : r_astore M.2.2.1 lv st h q = some (lv', st', h', L) := hr
    unfold r_astore at hr
    split at hr
    · rename_i x r
      cases hb2 : Nat.blt (q : Nat) M.2.2.1 with
      | false => rw [hb2] at hr; cases hr
      | true =>
        rw [hb2] at hr
        cases hr
        exact lv_astore_n hx hb hd rfl hl (Nat.le_of_ble_eq_true hb2) (el_stl (ad := ad) (v := .ref _)) (fun ls' hl' => kk H locs ls' ha hP hD hS hl')
    · cases hr
  | astore q =>
    have hr : r_astore M.2.2.1 lv st h q = some (lv', st', h', L) := hr
    unfold r_astore at hr
    split at hr
    · rename_i x r
      cases hb2 : Nat.blt q M.2.2.1 with
      | false => rw [hb2] at hr; cases hr
      | true =>
        rw [hb2] at hr
        cases hr
        exact lv_astore hx hb hd hl (Nat.le_of_ble_eq_true hb2) (el_stl (ad := ad) (v := .ref _)) (fun ls' hl' => kk H locs ls' ha hP hD hS hl')
    · cases hr
  | lstore_n q =>
    have hr : r_lstore M.2.2.1 lv st h q = some (lv', st', h', L) := hr
    unfold r_lstore at hr
    split at hr
    · rename_i x r
      cases hb2 : Nat.blt ((q : Nat) + 1) M.2.2.1 with
      | false => rw [hb2] at hr; cases hr
      | true =>
        rw [hb2] at hr
        cases hr
        exact lv_lstore_n hx hb hd rfl hl (Nat.le_of_ble_eq_true hb2) (el_stl2 (ad := ad) (v := .long _)) (fun ls' hl' => kk H locs ls' ha hP hD hS hl')
    · cases hr
  | lstore q =>
    have hr : r_lstore M.2.2.1 lv st h q = some (lv', st', h', L) := hr
    unfold r_lstore at hr
    split at hr
    · rename_i x r
      cases hb2 : Nat.blt (q + 1) M.2.2.1 with
      | false => rw [hb2] at hr; cases hr
      | true =>
        rw [hb2] at hr
        cases hr
        exact lv_lstore hx hb hd hl (Nat.le_of_ble_eq_true hb2) (el_stl2 (ad := ad) (v := .long _)) (fun ls' hl' => kk H locs ls' ha hP hD hS hl')
    · cases hr
  | dstore_n q =>
    have hr : r_dstore M.2.2.1 lv st h q = some (lv', st', h', L) := hr
    unfold r_dstore at hr
    split at hr
    · rename_i x r
      cases hb2 : Nat.blt ((q : Nat) + 1) M.2.2.1 with
      | false => rw [hb2] at hr; cases hr
      | true =>
        rw [hb2] at hr
        cases hr
        exact lv_dstore_n hx hb hd rfl hl (Nat.le_of_ble_eq_true hb2) (el_stl2 (ad := ad) (v := .double _)) (fun ls' hl' => kk H locs ls' ha hP hD hS hl')
    · cases hr
  | dstore q =>
    have hr : r_dstore M.2.2.1 lv st h q = some (lv', st', h', L) := hr
    unfold r_dstore at hr
    split at hr
    · rename_i x r
      cases hb2 : Nat.blt (q + 1) M.2.2.1 with
      | false => rw [hb2] at hr; cases hr
      | true =>
        rw [hb2] at hr
        cases hr
        exact lv_dstore hx hb hd hl (Nat.le_of_ble_eq_true hb2) (el_stl2 (ad := ad) (v := .double _)) (fun ls' hl' => kk H locs ls' ha hP hD hS hl')
    · cases hr
  | iinc q n =>
    have hr : r_iinc M.2.2.1 lv st h q n = some (lv', st', h', L) := hr
    unfold r_iinc at hr
    split at hr
    · rename_i x hx1
      cases hb2 : Nat.blt q M.2.2.1 with
      | false => rw [hb2] at hr; cases hr
      | true =>
        rw [hb2] at hr
        cases hr
        obtain ⟨j, hj⟩ := lk_idx (ad := ad) hx1
        exact lv_iinc hx hb hd hl (k := j) hj rfl (Nat.le_of_ble_eq_true hb2) (el_stl (ad := ad) (v := .int (x + Int32.ofInt n))) (fun ls' hl' => kk H locs ls' ha hP hD hS hl')
    · cases hr
  | iadd =>
    have hr : r_bin (fun x y => x + y) lv st h = some (lv', st', h', L) := hr
    unfold r_bin at hr
    split at hr
    · cases hr
      exact lv_iadd hx hb hd (kk H locs ls ha hP hD hS hl)
    · cases hr
  | isub =>
    have hr : r_bin (fun x y => x - y) lv st h = some (lv', st', h', L) := hr
    unfold r_bin at hr
    split at hr
    · cases hr
      exact lv_isub hx hb hd (kk H locs ls ha hP hD hS hl)
    · cases hr
  | imul =>
    have hr : r_bin (fun x y => x * y) lv st h = some (lv', st', h', L) := hr
    unfold r_bin at hr
    split at hr
    · cases hr
      exact lv_imul hx hb hd (kk H locs ls ha hP hD hS hl)
    · cases hr
  | iand =>
    have hr : r_bin (fun x y => x &&& y) lv st h = some (lv', st', h', L) := hr
    unfold r_bin at hr
    split at hr
    · cases hr
      exact lv_iand hx hb hd (kk H locs ls ha hP hD hS hl)
    · cases hr
  | idiv =>
    have hr : r_div (fun x y => x / y) lv st h = some (lv', st', h', L) := hr
    unfold r_div at hr
    split at hr
    · cases hr
      exact lv_idiv hx hb hd (hL _ List.mem_cons_self) (kk H locs ls ha hP hD hS hl)
    · cases hr
  | irem =>
    have hr : r_div (fun x y => x - x / y * y) lv st h = some (lv', st', h', L) := hr
    unfold r_div at hr
    split at hr
    · cases hr
      exact lv_irem hx hb hd (hL _ List.mem_cons_self) (kk H locs ls ha hP hD hS hl)
    · cases hr
  | ladd =>
    have hr : r_binl (fun x y => x + y) lv st h = some (lv', st', h', L) := hr
    unfold r_binl at hr
    split at hr
    · cases hr
      exact lv_ladd hx hb hd (kk H locs ls ha hP hD hS hl)
    · cases hr
  | lmul =>
    have hr : r_binl (fun x y => x * y) lv st h = some (lv', st', h', L) := hr
    unfold r_binl at hr
    split at hr
    · cases hr
      exact lv_lmul hx hb hd (kk H locs ls ha hP hD hS hl)
    · cases hr
  | i2l =>
    have hr : r_i2l lv st h = some (lv', st', h', L) := hr
    unfold r_i2l at hr
    split at hr
    · cases hr
      exact lv_i2l hx hb hd rfl (kk H locs ls ha hP hD hS hl)
    · cases hr
  | i2d =>
    have hr : r_i2d lv st h = some (lv', st', h', L) := hr
    unfold r_i2d at hr
    split at hr
    · cases hr
      exact lv_i2d hx hb hd (kk H locs ls ha hP hD hS hl)
    · cases hr
  | dup =>
    have hr : r_dup lv st h = some (lv', st', h', L) := hr
    obtain ⟨v, r, rfl, b1, e⟩ := r_dup_spec hr
    cases e
    exact lv_dup hx hb hd ((ev_cat ad v).trans b1) (kk H locs ls ha hP hD hS hl)
  | pop =>
    have hr : r_pop lv st h = some (lv', st', h', L) := hr
    obtain ⟨v, r, rfl, b1, e⟩ := r_pop_spec hr
    cases e
    exact lv_pop hx hb hd ((ev_cat ad v).trans b1) (kk H locs ls ha hP hD hS hl)
  | dup2 =>
    have hr : r_dup2 lv st h = some (lv', st', h', L) := hr
    obtain ⟨v, w, r, rfl, b1, b2, e⟩ := r_dup2_spec hr
    cases e
    exact lv_dup2_11 hx hb hd ((ev_cat ad v).trans b1) ((ev_cat ad w).trans b2) (kk H locs ls ha hP hD hS hl)
  | getfield idx =>
    have hr : r_get FT idx lv st h = some (lv', st', h', L) := hr
    obtain ⟨a, r, x, y, v, rfl, h1, h2, h3, h4, e⟩ := r_get_spec hr
    cases e
    obtain ⟨C, T, N, q1, q2, q3⟩ := hF _ (fnd_mem h2)
    have hts : ∀ w ∈ kwl, w.before args s = true := hkw.use
    have he := wl_get (cI := cI) (cL := cL) (ad := ad) h1
    have hv : (x.2.map (ev ad))[y.2]? = some (ev ad v) := by rw [List.getElem?_map, h4]; rfl
    rw [← h3] at q1
    rcases q3 with q3 | ⟨host, q3⟩
    · exact va_get (ci := x.1) (C := C) (T := T) (N := N) hx hb hts (vw_in q1) hown hK hP a he q1 y.2 q2 (hts _ q3) (fun _ h9 => h9) hv hd (kk H locs ls ha hP hD hS hl)
    · exact va_getN (ci := x.1) (C := C) (T := T) (N := N) hx hb hts (vw_in q1) hown hK hP a he q1 y.2 q2 (hts _ q3) (fun _ h9 => h9) hv hd (kk H locs ls ha hP hD hS hl)
  | putfield idx =>
    have hr : r_put PT idx lv st h = some (lv', st', h', L) := hr
    obtain ⟨v, a, r, x, y, rfl, h1, h2, h3, h4, e⟩ := r_put_spec hr
    cases e
    obtain ⟨C, T, N, q1, q2, q3, q4, q5⟩ := hPt _ (fnd_mem h2)
    have hts : ∀ w ∈ kwl, w.before args s = true := hkw.use
    have he := wl_get (cI := cI) (cL := cL) (ad := ad) h1
    rw [← h3] at q1
    obtain ⟨ty0, t1, t2⟩ := vw_ty q1
    have hlen : y.2 < (x.2.map (ev ad)).length := by rw [List.length_map]; exact h4
    have hw : wl cI cL ad (h.set a (aO x.1 (x.2.set y.2 (.int v)))) = (wl cI cL ad h).set a (ad a, .inr (x.1, (x.2.map (ev ad)).set y.2 (.int v))) := by rw [wl_set]; show _ = _; simp only [ee, List.map_set]; rfl
    rcases q3 with q3 | ⟨host, q3⟩
    · exact va_put (ci := x.1) (C := C) (T := T) (N := N) (ty := .int) (v := .int v) hx hb hts (vw_in q1) ty0 t1 t2 hown hK hP hD hS a he q1 y.2 q2 (hts _ q3) (fun _ h9 => h9) q4 q5 rfl rfl hlen hd (fun H1 locs1 hP hD hS => kk H1 locs1 ls ha (by rw [hw]; exact hP) (by rw [hw]; exact hD) hS hl)
    · exact va_putN (ci := x.1) (C := C) (T := T) (N := N) (ty := .int) (v := .int v) hx hb hts (vw_in q1) ty0 t1 t2 hown hK hP hD hS a he q1 y.2 q2 (hts _ q3) (fun _ h9 => h9) q4 q5 rfl rfl hlen hd (fun H1 locs1 hP hD hS => kk H1 locs1 ls ha (by rw [hw]; exact hP) (by rw [hw]; exact hD) hS hl)
  | iaload =>
    have hr : r_iald lv st h = some (lv', st', h', L) := hr
    obtain ⟨i, a, r, x, rfl, h1, e⟩ := r_iald_spec hr
    cases e
    exact va_iald hx hb hK hP a 0 (wl_get h1) rfl (hL _ List.mem_cons_self) hd (kk H locs ls ha hP hD hS hl)
  | iastore =>
    have hr : r_iast lv st h = some (lv', st', h', L) := hr
    obtain ⟨v, i, a, r, x, rfl, h1, e⟩ := r_iast_spec hr
    cases e
    have hw : wl cI cL ad (h.set a (aI x.1 (upd x.2 i.toNatClampNeg v))) = (wl cI cL ad h).set a (ad a, .inl (cI, x.1, .inl (upd x.2 i.toNatClampNeg v))) := wl_set
    exact va_iast hx hb hK hP hD hS a 0 (wl_get h1) rfl (hL _ List.mem_cons_self) hd (fun H1 locs1 hP hD hS => kk H1 locs1 ls ha (by rw [hw]; exact hP) (by rw [hw]; exact hD) hS hl)
  | laload =>
    have hr : r_lald lv st h = some (lv', st', h', L) := hr
    obtain ⟨i, a, r, x, rfl, h1, e⟩ := r_lald_spec hr
    cases e
    exact va_lald hx hb hK hP a 1 (wl_get h1) rfl (hL _ List.mem_cons_self) hd (kk H locs ls ha hP hD hS hl)
  | lastore =>
    have hr : r_last lv st h = some (lv', st', h', L) := hr
    obtain ⟨v, i, a, r, x, rfl, h1, e⟩ := r_last_spec hr
    cases e
    have hw : wl cI cL ad (h.set a (aL x.1 (vp_updL x.2 i.toNatClampNeg v))) = (wl cI cL ad h).set a (ad a, .inl (cL, x.1, .inr (.inl (vp_updL x.2 i.toNatClampNeg v)))) := wl_set
    exact va_last hx hb hK hP hD hS a 1 (wl_get h1) rfl (hL _ List.mem_cons_self) hd (fun H1 locs1 hP hD hS => kk H1 locs1 ls ha (by rw [hw]; exact hP) (by rw [hw]; exact hD) hS hl)
  | arraylength =>
    have hr : r_alen lv st h = some (lv', st', h', L) := hr
    obtain ⟨a, r, x, rfl, h1, e⟩ := r_alen_spec hr
    cases e
    exact va_alen hx hb hK hP a 0 (wl_get h1) rfl rfl hd (kk H locs ls ha hP hD hS hl)
  | _ => exact absurd (show (none : Rs) = some (lv', st', h', L) from hr) (fun z => by cases z)
-- a stretch of instructions, gotos too
def gto : Instr → Option Int
  | .goto off => some off
  | _ => none
def runB (FT PT : List (Nat × Nat × Nat)) (nL : Nat) : List (Nat × Instr) → Nat → aV → List Value → aH → Option (Nat × aV × List Value × aH × List Prop)
  | [], pc, lv, st, h => some (pc, lv, st, h, [])
  | (q, i) :: r, pc, lv, st, h => bif Nat.beq q pc then (match gto i with
    | some off => match (pc : Int) + off with
      | .ofNat t => runB FT PT nL r t lv st h
      | .negSucc _ => none
    | none => match run1 FT PT nL i lv st h with
      | some z => match runB FT PT nL r (pc + ilen i) z.1 z.2.1 z.2.2.1 with
        | some y => some (y.1, y.2.1, y.2.2.1, y.2.2.2.1, z.2.2.2 ++ y.2.2.2.2)
        | none => none
      | none => none) else none
def tbok (cc : ByteArray) (tb : List (Nat × Instr)) : Prop := ∀ x ∈ tb, decode cc x.1 = .ok (x.2, ilen x.2)
theorem gto_spec {i : Instr} {off : Int} (h : gto i = some off) : i = .goto off := by
  cases i with
  | goto o => cases h; rfl
  | _ => exact absurd (show (none : Option Int) = some off from h) (fun z => by cases z)
theorem AW.goto {G : aG} {M : aM} {h : aH} {kc ks pc tgt : Nat} {lv : aV} {st : List Value} {off : Int} (hd : decode M.2.1 pc = .ok (.goto off, 3)) (ht : (pc : Int) + off = (tgt : Int)) (k : AW G M h kc ks tgt lv st) : AW G M h kc ks pc lv st := by
  obtain ⟨p, l, e, R, s, m, args, below, meth, c, Q, D, cI, cL, A, ad0, X⟩ := G
  intro ok ad H locs ls ha hP hD hS hl
  exact lv_goto ok.1 ok.2.1 hd ht (k ok ad H locs ls ha hP hD hS hl)
theorem runB_ok {G : aG} {M : aM} {FT PT : List (Nat × Nat × Nat)} {kc ks : Nat} (hF : FTok M.1 FT) (hPt : PTok M.1 PT) : ∀ (tb : List (Nat × Instr)), tbok M.2.1 tb → ∀ {h h' : aH} {pc pc' : Nat} {lv lv' : aV} {st st' : List Value} {L : List Prop},
    runB FT PT M.2.2.1 tb pc lv st h = some (pc', lv', st', h', L) → (∀ P ∈ L, P) → AW G M h' kc ks pc' lv' st' → AW G M h kc ks pc lv st := by
  intro tb
  induction tb with
  | nil => intro _ h h' pc pc' lv lv' st st' L hr hL k; cases hr; exact k
  | cons x r ih =>
    intro htb h h' pc pc' lv lv' st st' L hr hL k
    obtain ⟨q, i⟩ := x
    have htr : tbok M.2.1 r := fun y hy => htb y (List.mem_cons_of_mem _ hy)
    have hd := htb (q, i) List.mem_cons_self
    unfold runB at hr
    cases hb : Nat.beq q pc with
    | false => rw [hb] at hr; cases hr
    | true =>
      rw [hb] at hr
      have hj : q = pc := Nat.eq_of_beq_eq_true hb
      subst hj
      simp only [cond_true] at hr
      split at hr
      · rename_i off hg
        have hi := gto_spec hg
        subst hi
        split at hr
        · rename_i t ht
          exact AW.goto hd ht (ih htr hr hL k)
        · cases hr
      · split at hr
        · rename_i z hz
          split at hr
          · rename_i y hy
            cases hr
            exact run1_ok hF hPt hd hz (fun P hp => hL P (List.mem_append_left _ hp)) (ih htr hy (fun P hp => hL P (List.mem_append_right _ hp)) k)
          · cases hr
        · cases hr
def cj : List Prop → Prop
  | [] => True
  | [p] => p
  | p :: q :: r => p ∧ cj (q :: r)
theorem cj_all : ∀ {L : List Prop}, cj L → ∀ P ∈ L, P := by
  intro L
  induction L with
  | nil => intro _ P hP; simp at hP
  | cons a r ih =>
    cases r with
    | nil => intro h P hP; rw [List.mem_singleton] at hP; rw [hP]; exact h
    | cons b t => intro h P hP; rcases List.mem_cons.mp hP with e | e
                  · subst e; exact h.1
                  · exact ih h.2 P e
def amok (M : aM) (tb : List (Nat × Instr)) (FT PT : List (Nat × Nat × Nat)) : Prop := tbok M.2.1 tb ∧ FTok M.1 FT ∧ PTok M.1 PT
theorem tbok_sub {cc : ByteArray} {tb : List (Nat × Instr)} (i n : Nat) (h : tbok cc tb) : tbok cc ((tb.drop i).take n) := fun x hx => h x (List.mem_of_mem_drop (List.mem_of_mem_take hx))
/-- THE ROW OF A BLOCK: instructions i .. i + n - 1 of the table -/
theorem AW.blk {G : aG} {M : aM} {tb : List (Nat × Instr)} {FT PT : List (Nat × Nat × Nat)} {kc ks : Nat} (hm : amok M tb FT PT) (i n : Nat) {h h' : aH} {pc pc' : Nat} {lv lv' : aV} {st st' : List Value} {L : List Prop}
    (hr : runB FT PT M.2.2.1 ((tb.drop i).take n) pc lv st h = some (pc', lv', st', h', L)) (hL : cj L) (k : AW G M h' kc ks pc' lv' st') : AW G M h kc ks pc lv st := runB_ok hm.2.1 hm.2.2 _ (tbok_sub i n hm.1) hr (cj_all hL) k
