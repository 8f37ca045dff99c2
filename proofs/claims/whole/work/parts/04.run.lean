/-! ===== a block of instructions, by computation ===== -/
abbrev Rs : Type := Option (aV × List Value × aH × List Prop)
def fnd : List (Nat × Nat × Nat) → Nat → Option (Nat × Nat)
  | [], _ => none
  | (i, c, k) :: r, x => bif Nat.beq i x then some (c, k) else fnd r x
theorem fnd_mem : ∀ {L : List (Nat × Nat × Nat)} {x c k : Nat}, fnd L x = some (c, k) → (x, c, k) ∈ L := by
  intro L
  induction L with
  | nil => intro x c k h; simp [fnd] at h
  | cons q r ih =>
    intro x c k h
    obtain ⟨i, c', k'⟩ := q
    cases hb : Nat.beq i x with
    | true =>
      simp only [fnd, hb, cond_true] at h
      cases h
      have hj : i = x := Nat.eq_of_beq_eq_true hb
      subst hj
      exact List.mem_cons_self
    | false =>
      simp only [fnd, hb, cond_false] at h
      exact List.mem_cons_of_mem _ (ih h)
def r_iload (lv : aV) (st : List Value) (h : aH) (k : Nat) : Rs := match lk lv k with
  | some (.int x) => some (lv, .int x :: st, h, [])
  | _ => none
def r_aload (lv : aV) (st : List Value) (h : aH) (k : Nat) : Rs := match lk lv k with
  | some (.ref x) => some (lv, .ref x :: st, h, [])
  | _ => none
def r_lload (lv : aV) (st : List Value) (h : aH) (k : Nat) : Rs := match lk lv k with
  | some (.long x) => some (lv, .long x :: st, h, [])
  | _ => none
def r_dload (lv : aV) (st : List Value) (h : aH) (k : Nat) : Rs := match lk lv k with
  | some (.double x) => some (lv, .double x :: st, h, [])
  | _ => none
def r_istore (nL : Nat) (lv : aV) (st : List Value) (h : aH) (k : Nat) : Rs := match st with
  | .int x :: r => bif Nat.blt k nL then some (stl k (.int x) lv, r, h, []) else none
  | _ => none
def r_astore (nL : Nat) (lv : aV) (st : List Value) (h : aH) (k : Nat) : Rs := match st with
  | .ref x :: r => bif Nat.blt k nL then some (stl k (.ref x) lv, r, h, []) else none
  | _ => none
def r_lstore (nL : Nat) (lv : aV) (st : List Value) (h : aH) (k : Nat) : Rs := match st with
  | .long x :: r => bif Nat.blt (k + 1) nL then some (stl2 k (.long x) lv, r, h, []) else none
  | _ => none
def r_dstore (nL : Nat) (lv : aV) (st : List Value) (h : aH) (k : Nat) : Rs := match st with
  | .double x :: r => bif Nat.blt (k + 1) nL then some (stl2 k (.double x) lv, r, h, []) else none
  | _ => none
def r_iinc (nL : Nat) (lv : aV) (st : List Value) (h : aH) (k : Nat) (n : Int) : Rs := match lk lv k with
  | some (.int x) => bif Nat.blt k nL then some (stl k (.int (x + Int32.ofInt n)) lv, st, h, []) else none
  | _ => none
def r_bin (f : Int32 → Int32 → Int32) (lv : aV) (st : List Value) (h : aH) : Rs := match st with
  | .int y :: .int x :: r => some (lv, .int (f x y) :: r, h, [])
  | _ => none
def r_div (f : Int32 → Int32 → Int32) (lv : aV) (st : List Value) (h : aH) : Rs := match st with
  | .int y :: .int x :: r => some (lv, .int (f x y) :: r, h, [¬ y = 0])
  | _ => none
def r_binl (f : Int64 → Int64 → Int64) (lv : aV) (st : List Value) (h : aH) : Rs := match st with
  | .long y :: .long x :: r => some (lv, .long (f x y) :: r, h, [])
  | _ => none
def r_i2l (lv : aV) (st : List Value) (h : aH) : Rs := match st with
  | .int x :: r => some (lv, .long x.toInt64 :: r, h, [])
  | _ => none
def r_i2d (lv : aV) (st : List Value) (h : aH) : Rs := match st with
  | .int x :: r => some (lv, .double (FP.i2d x) :: r, h, [])
  | _ => none
def r_dup (lv : aV) (st : List Value) (h : aH) : Rs := match st with
  | v :: r => bif Nat.beq v.category 1 then some (lv, v :: v :: r, h, []) else none
  | _ => none
def r_dup2 (lv : aV) (st : List Value) (h : aH) : Rs := match st with
  | v :: w :: r => bif Nat.beq v.category 1 && Nat.beq w.category 1 then some (lv, v :: w :: v :: w :: r, h, []) else none
  | _ => none
def r_pop (lv : aV) (st : List Value) (h : aH) : Rs := match st with
  | v :: r => bif Nat.beq v.category 1 then some (lv, r, h, []) else none
  | _ => none
def r_get (FT : List (Nat × Nat × Nat)) (idx : Nat) (lv : aV) (st : List Value) (h : aH) : Rs := match st with
  | .ref a :: r => match h[a]? with
    | some (.inr (.inr x)) => match fnd FT idx with
      | some y => bif Nat.beq x.1 y.1 then (match x.2[y.2]? with
        | some v => some (lv, v :: r, h, [])
        | none => none) else none
      | none => none
    | _ => none
  | _ => none
def r_put (PT : List (Nat × Nat × Nat)) (idx : Nat) (lv : aV) (st : List Value) (h : aH) : Rs := match st with
  | .int v :: .ref a :: r => match h[a]? with
    | some (.inr (.inr x)) => match fnd PT idx with
      | some y => bif Nat.beq x.1 y.1 && Nat.blt y.2 x.2.length then some (lv, r, h.set a (aO x.1 (x.2.set y.2 (.int v))), []) else none
      | none => none
    | _ => none
  | _ => none
def r_iald (lv : aV) (st : List Value) (h : aH) : Rs := match st with
  | .int i :: .ref a :: r => match h[a]? with
    | some (.inl x) => some (lv, .int (x.2 i.toNatClampNeg) :: r, h, [vp_in i x.1])
    | _ => none
  | _ => none
def r_iast (lv : aV) (st : List Value) (h : aH) : Rs := match st with
  | .int v :: .int i :: .ref a :: r => match h[a]? with
    | some (.inl x) => some (lv, r, h.set a (aI x.1 (upd x.2 i.toNatClampNeg v)), [vp_in i x.1])
    | _ => none
  | _ => none
def r_lald (lv : aV) (st : List Value) (h : aH) : Rs := match st with
  | .int i :: .ref a :: r => match h[a]? with
    | some (.inr (.inl x)) => some (lv, .long (x.2 i.toNatClampNeg) :: r, h, [vp_in i x.1])
    | _ => none
  | _ => none
def r_last (lv : aV) (st : List Value) (h : aH) : Rs := match st with
  | .long v :: .int i :: .ref a :: r => match h[a]? with
    | some (.inr (.inl x)) => some (lv, r, h.set a (aL x.1 (vp_updL x.2 i.toNatClampNeg v)), [vp_in i x.1])
    | _ => none
  | _ => none
def r_alen (lv : aV) (st : List Value) (h : aH) : Rs := match st with
  | .ref a :: r => match h[a]? with
    | some (.inl x) => some (lv, .int (Int32.ofNat x.1) :: r, h, [])
    | _ => none
  | _ => none
def run1 (FT PT : List (Nat × Nat × Nat)) (nL : Nat) (i : Instr) (lv : aV) (st : List Value) (h : aH) : Rs := match i with
  | .iconst n => some (lv, .int (Int32.ofInt n) :: st, h, [])
  | .bipush n => some (lv, .int (Int8.ofInt n).toInt32 :: st, h, [])
  | .iload_n k => r_iload lv st h k
  | .iload k => r_iload lv st h k
  | .aload_n k => r_aload lv st h k
  | .aload k => r_aload lv st h k
  | .lload_n k => r_lload lv st h k
  | .lload k => r_lload lv st h k
  | .dload_n k => r_dload lv st h k
  | .dload k => r_dload lv st h k
  | .istore_n k => r_istore nL lv st h k
  | .istore k => r_istore nL lv st h k
  | .astore_n k => r_astore nL lv st h k
  | .astore k => r_astore nL lv st h k
  | .lstore_n k => r_lstore nL lv st h k
  | .lstore k => r_lstore nL lv st h k
  | .dstore_n k => r_dstore nL lv st h k
  | .dstore k => r_dstore nL lv st h k
  | .iinc k n => r_iinc nL lv st h k n
  | .iadd => r_bin (fun x y => x + y) lv st h
  | .isub => r_bin (fun x y => x - y) lv st h
  | .imul => r_bin (fun x y => x * y) lv st h
  | .iand => r_bin (fun x y => x &&& y) lv st h
  | .idiv => r_div (fun x y => x / y) lv st h
  | .irem => r_div (fun x y => x - x / y * y) lv st h
  | .ladd => r_binl (fun x y => x + y) lv st h
  | .lmul => r_binl (fun x y => x * y) lv st h
  | .i2l => r_i2l lv st h
  | .i2d => r_i2d lv st h
  | .dup => r_dup lv st h
  | .dup2 => r_dup2 lv st h
  | .pop => r_pop lv st h
  | .getfield idx => r_get FT idx lv st h
  | .putfield idx => r_put PT idx lv st h
  | .iaload => r_iald lv st h
  | .iastore => r_iast lv st h
  | .laload => r_lald lv st h
  | .lastore => r_last lv st h
  | .arraylength => r_alen lv st h
  | _ => none
def lnk (own : String) (idx : Nat) (a b d : String) : Prop := Cond.fieldLink own idx a b d ∈ kwl ∨ ∃ host : String, Cond.fieldLinkNest own idx a b d host ∈ kwl
def FTok (own : String) (FT : List (Nat × Nat × Nat)) : Prop := ∀ x ∈ FT, ∃ (C : String) (T : u_T) (N : Nat), vwCl[x.2.1]? = some (C, T, N) ∧ x.2.2 < N ∧ lnk own x.1 (T x.2.2).1 (T x.2.2).2.1 (T x.2.2).2.2.1
def PTok (own : String) (PT : List (Nat × Nat × Nat)) : Prop := ∀ x ∈ PT, ∃ (C : String) (T : u_T) (N : Nat), vwCl[x.2.1]? = some (C, T, N) ∧ x.2.2 < N ∧ lnk own x.1 (T x.2.2).1 (T x.2.2).2.1 (T x.2.2).2.2.1 ∧ (T x.2.2).2.2.2 = false ∧ parseFieldDescriptor (T x.2.2).2.2.1 = some .int
theorem vw_in {ci : Nat} {C : String} {T : u_T} {N : Nat} (h : vwCl[ci]? = some (C, T, N)) : ∀ w ∈ u_ws C T N, w ∈ kwl := by
  match ci, h with
  | 0, h => cases h; decide +kernel
  | 1, h => cases h; decide +kernel
  | 2, h => cases h; decide +kernel
  | 3, h => cases h; decide +kernel
  | n + 4, h => simp [vwCl] at h
theorem vw_ty {ci : Nat} {C : String} {T : u_T} {N : Nat} (h : vwCl[ci]? = some (C, T, N)) : ∃ ty0 : Nat → FieldType, (∀ k, k < N → parseFieldDescriptor (T k).2.2.1 = some (ty0 k)) ∧ (∀ a, a < N → ∀ b, b < N → a ≠ b → (T a).2.1 ≠ (T b).2.1) := by
  match ci, h with
  | 0, h => cases h; exact ⟨tyX0, tyX0_ok, nmX0⟩
  | 1, h => cases h; exact ⟨tyX1, tyX1_ok, nmX1⟩
  | 2, h => cases h; exact ⟨tyX2, tyX2_ok, nmX2⟩
  | 3, h => cases h; exact ⟨tyX3, tyX3_ok, nmX3⟩
  | n + 4, h => simp [vwCl] at h
