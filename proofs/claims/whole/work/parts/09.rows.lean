/-! ===== more rows ===== -/
theorem AW.iretE {G : aG} {M : aM} {tb : List (Nat × Instr)} {FT PT : List (Nat × Nat × Nat)} (hm : amok M tb FT PT) (i : Nat) {h0 h h' : aH} {mc ms kc ks pc : Nat} {lv : aV} {ty : FieldType} {x x' : Int32} (hE : aEnd (some ty) (some (.int x')) h0 h' mc ms G) (hi : tb[i]? = some (pc, .ireturn)) (hM : M.2.2.2 = h0.length) (hn : narrow ty (.int x) = .int x) (hc : Nat.ble kc mc = true) (hs : Nat.ble ks ms = true) (hx : x' = x) (hh : h' = h) : AW G M h kc ks pc lv [.int x] := by
  subst hx; subst hh
  exact AW.iret hE (tb_at hm.1 i hi) hM hn (Nat.le_of_ble_eq_true hc) (Nat.le_of_ble_eq_true hs) rfl
theorem AW.vretE {G : aG} {M : aM} {tb : List (Nat × Instr)} {FT PT : List (Nat × Nat × Nat)} (hm : amok M tb FT PT) (i : Nat) {h0 h h' : aH} {mc ms kc ks pc : Nat} {lv : aV} (hE : aEnd none none h0 h' mc ms G) (hi : tb[i]? = some (pc, .return_)) (hM : M.2.2.2 = h0.length) (hc : Nat.ble kc mc = true) (hs : Nat.ble ks ms = true) (hh : h' = h) : AW G M h kc ks pc lv [] := by
  subst hh
  exact AW.vret hE (tb_at hm.1 i hi) hM (Nat.le_of_ble_eq_true hc) (Nat.le_of_ble_eq_true hs) rfl
theorem AW.lretE {G : aG} {M : aM} {tb : List (Nat × Instr)} {FT PT : List (Nat × Nat × Nat)} (hm : amok M tb FT PT) (i : Nat) {h0 h h' : aH} {mc ms kc ks pc : Nat} {lv : aV} {x x' : Int64} (hE : aEnd (some .long) (some (.long x')) h0 h' mc ms G) (hi : tb[i]? = some (pc, .lreturn)) (hM : M.2.2.2 = h0.length) (hc : Nat.ble kc mc = true) (hs : Nat.ble ks ms = true) (hx : x' = x) (hh : h' = h) : AW G M h kc ks pc lv [.long x] := by
  subst hx; subst hh
  exact AW.lret hE (tb_at hm.1 i hi) hM (Nat.le_of_ble_eq_true hc) (Nat.le_of_ble_eq_true hs) rfl
theorem AW.dretE {G : aG} {M : aM} {tb : List (Nat × Instr)} {FT PT : List (Nat × Nat × Nat)} (hm : amok M tb FT PT) (i : Nat) {h0 h h' : aH} {mc ms kc ks pc : Nat} {lv : aV} {x x' : UInt64} (hE : aEnd (some .double) (some (.double x')) h0 h' mc ms G) (hi : tb[i]? = some (pc, .dreturn)) (hM : M.2.2.2 = h0.length) (hc : Nat.ble kc mc = true) (hs : Nat.ble ks ms = true) (hx : x' = x) (hh : h' = h) : AW G M h kc ks pc lv [.double x] := by
  subst hx; subst hh
  exact AW.dret hE (tb_at hm.1 i hi) hM (Nat.le_of_ble_eq_true hc) (Nat.le_of_ble_eq_true hs) rfl
theorem kM1 : Cond.static Lib.Math.min.name ∈ kwl := by decide +kernel
theorem kM2 : Cond.initialized "java/lang/Math" ∈ kwl := by decide +kernel
theorem kM3 : Cond.code Lib.Math.min.name Lib.Math.min.code 2 (some .int) ∈ kwl := by decide +kernel
theorem kM4 : Cond.static Lib.Math.max.name ∈ kwl := by decide +kernel
theorem kM5 : Cond.code Lib.Math.max.name Lib.Math.max.code 2 (some .int) ∈ kwl := by decide +kernel
def imin (x y : Int32) : Int32 := if y < x then y else x
def imax (x y : Int32) : Int32 := if x < y then y else x
theorem AW.mmin {G : aG} {M : aM} {tb : List (Nat × Instr)} {FT PT : List (Nat × Nat × Nat)} (hm : amok M tb FT PT) (i : Nat) {h : aH} {kc ks pc idx : Nat} {lv : aV} {st : List Value} {x y : Int32} {R : Room} (hi : tb[i]? = some (pc, .invokestatic idx)) (hlk : Cond.methodLink M.1 idx Lib.Math.min.name ∈ kwl) (hR : aRm G = R) (hcat : Nat.ble (st.map fun v => v.category).sum 8 = true)
    (hRR : 1 ≤ R.frames ∧ 21 ≤ R.locals ∧ kc ≤ R.cells ∧ ks ≤ R.slots) (k : AW G M h kc ks (pc + 3) lv (.int (imin x y) :: st)) : AW G M h kc ks pc lv (.int y :: .int x :: st) := by
  have hd := tb_at hm.1 i hi
  obtain ⟨p, l, e, R0, s, m, args, below, meth, c, Q, D, cI, cL, A, ad0, X⟩ := G
  have hR : R0 = R := hR
  subst hR
  intro ok ad H locs ls ha hP hD hS hl
  obtain ⟨hx, hb, hml, hown, hkw, -⟩ := id ok
  have hc8 := Nat.le_of_ble_eq_true hcat
  exact va_mmin hx hb (by rw [hml]; exact hl.1.symm) hown (hkw.use _ hlk) (hkw.use _ kM1) (hkw.use _ kM2) (hkw.use _ kM3) hRR.1 (by rw [cats]; omega) hRR.2.2.1 hRR.2.2.2 hd (k ok ad H locs ls ha hP hD hS hl)
theorem AW.mmax {G : aG} {M : aM} {tb : List (Nat × Instr)} {FT PT : List (Nat × Nat × Nat)} (hm : amok M tb FT PT) (i : Nat) {h : aH} {kc ks pc idx : Nat} {lv : aV} {st : List Value} {x y : Int32} {R : Room} (hi : tb[i]? = some (pc, .invokestatic idx)) (hlk : Cond.methodLink M.1 idx Lib.Math.max.name ∈ kwl) (hR : aRm G = R) (hcat : Nat.ble (st.map fun v => v.category).sum 8 = true)
    (hRR : 1 ≤ R.frames ∧ 21 ≤ R.locals ∧ kc ≤ R.cells ∧ ks ≤ R.slots) (k : AW G M h kc ks (pc + 3) lv (.int (imax x y) :: st)) : AW G M h kc ks pc lv (.int y :: .int x :: st) := by
  have hd := tb_at hm.1 i hi
  obtain ⟨p, l, e, R0, s, m, args, below, meth, c, Q, D, cI, cL, A, ad0, X⟩ := G
  have hR : R0 = R := hR
  subst hR
  intro ok ad H locs ls ha hP hD hS hl
  obtain ⟨hx, hb, hml, hown, hkw, -⟩ := id ok
  have hc8 := Nat.le_of_ble_eq_true hcat
  exact va_mmax hx hb (by rw [hml]; exact hl.1.symm) hown (hkw.use _ hlk) (hkw.use _ kM4) (hkw.use _ kM2) (hkw.use _ kM5) hRR.1 (by rw [cats]; omega) hRR.2.2.1 hRR.2.2.2 hd (k ok ad H locs ls ha hP hD hS hl)
-- contracts hold for what is equal
theorem AMet.to {y : MethodName} {b : ByteArray} {maxL : Nat} {ret : Option FieldType} {rm : Room} {as : List Value} {h h' h2 : aH} {r r2 : Option Value} (k : AMet y b maxL ret rm as h r h') (e1 : r = r2) (e2 : h' = h2) : AMet y b maxL ret rm as h r2 h2 := by
  subst e1; subst e2; exact k
-- a city: its cells and its numbers
abbrev CS : Type := (Nat → Int32) × (Nat → Int32) × (Nat → Int32) × (Nat → Int32) × (Nat → Int32) × (Nat → Int32) × (Nat → Int32) × (Nat → Int32) × (Nat → Int32) × (Nat → Int32) × (Nat → Int32) × (Nat → Int32) × Int32 × Int32
def hC (mud car wal hol paid rain place str bro pen swe dri : Nat → Int32) (n q : Int32) : aH := [aO 0 [.ref 1, .ref 2, .ref 3, .ref 4, .ref 5, .ref 6, .ref 7, .ref 8, .ref 9, .ref 10, .ref 11, .ref 12, .int n, .int q], aI 9 mud, aI 9 car, aI 9 wal, aI 9 hol, aI 9 paid, aI 8 rain, aI 8 place, aI 8 str, aI 8 bro, aI 8 pen, aI 8 swe, aI 8 dri]
