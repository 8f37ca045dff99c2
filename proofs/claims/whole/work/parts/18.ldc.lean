/-! ===== constants, comparisons of longs and doubles, a division of doubles ===== -/
theorem AW.ldcI {G : aG} {M : aM} {tb : List (Nat × Instr)} {FT PT : List (Nat × Nat × Nat)} (hm : amok M tb FT PT) (i : Nat) {h : aH} {kc ks pc idx : Nat} {lv : aV} {st : List Value} (v : Int32) (hi : tb[i]? = some (pc, .ldc idx)) (hk : Cond.constant M.1 idx v ∈ kwl) (k : AW G M h kc ks (pc + 2) lv (.int v :: st)) : AW G M h kc ks pc lv st := by
  have hd := tb_at hm.1 i hi
  obtain ⟨p, l, e, R, s, m, args, below, meth, c, Q, D, cI, cL, A, ad0, X⟩ := G
  intro ok ad H locs ls ha hP hD hS hl
  obtain ⟨hx, hb, hml, hown, hkw, -⟩ := id ok
  exact lv_ldc hx hb hown (hkw.use _ hk) hd (k ok ad H locs ls ha hP hD hS hl)
theorem AW.ldcL {G : aG} {M : aM} {tb : List (Nat × Instr)} {FT PT : List (Nat × Nat × Nat)} (hm : amok M tb FT PT) (i : Nat) {h : aH} {kc ks pc idx : Nat} {lv : aV} {st : List Value} (v : Int64) (hi : tb[i]? = some (pc, .ldc2_w idx)) (hk : Cond.constantLong M.1 idx v ∈ kwl) (k : AW G M h kc ks (pc + 3) lv (.long v :: st)) : AW G M h kc ks pc lv st := by
  have hd := tb_at hm.1 i hi
  obtain ⟨p, l, e, R, s, m, args, below, meth, c, Q, D, cI, cL, A, ad0, X⟩ := G
  intro ok ad H locs ls ha hP hD hS hl
  obtain ⟨hx, hb, hml, hown, hkw, -⟩ := id ok
  exact lv_ldc2 hx hb hown (hkw.use _ hk) hd (k ok ad H locs ls ha hP hD hS hl)
theorem AW.ldcD {G : aG} {M : aM} {tb : List (Nat × Instr)} {FT PT : List (Nat × Nat × Nat)} (hm : amok M tb FT PT) (i : Nat) {h : aH} {kc ks pc idx : Nat} {lv : aV} {st : List Value} (v : UInt64) (hi : tb[i]? = some (pc, .ldc2_w idx)) (hk : Cond.constantDouble M.1 idx v ∈ kwl) (k : AW G M h kc ks (pc + 3) lv (.double v :: st)) : AW G M h kc ks pc lv st := by
  have hd := tb_at hm.1 i hi
  obtain ⟨p, l, e, R, s, m, args, below, meth, c, Q, D, cI, cL, A, ad0, X⟩ := G
  intro ok ad H locs ls ha hP hD hS hl
  obtain ⟨hx, hb, hml, hown, hkw, -⟩ := id ok
  exact lv_ldc2d hx hb hown (hkw.use _ hk) hd (k ok ad H locs ls ha hP hD hS hl)
theorem AW.ddiv {G : aG} {M : aM} {tb : List (Nat × Instr)} {FT PT : List (Nat × Nat × Nat)} (hm : amok M tb FT PT) (i : Nat) {h : aH} {kc ks pc : Nat} {lv : aV} {st : List Value} {x y : UInt64} (hi : tb[i]? = some (pc, .ddiv)) (hne : vf_n64 (FP.ddiv x y)) (k : AW G M h kc ks (pc + 1) lv (.double (FP.ddiv x y) :: st)) : AW G M h kc ks pc lv (.double y :: .double x :: st) := by
  have hd := tb_at hm.1 i hi
  obtain ⟨p, l, e, R, s, m, args, below, meth, c, Q, D, cI, cL, A, ad0, X⟩ := G
  intro ok ad H locs ls ha hP hD hS hl
  exact lv_ddiv ok.1 ok.2.1 hd hne (k ok ad H locs ls ha hP hD hS hl)
theorem AW.lcmp {G : aG} {M : aM} {h : aH} {kc ks pc : Nat} {lv : aV} {st : List Value} {x y : Int64} (hd : decode M.2.1 pc = .ok (.lcmp, 1)) (k : AW G M h kc ks (pc + 1) lv (.int (lg_cmp x y) :: st)) : AW G M h kc ks pc lv (.long y :: .long x :: st) := by
  obtain ⟨p, l, e, R, s, m, args, below, meth, c, Q, D, cI, cL, A, ad0, X⟩ := G
  intro ok ad H locs ls ha hP hD hS hl
  exact W.lcmp ok.1 ok.2.1 hd (k ok ad H locs ls ha hP hD hS hl)
theorem AW.dcmp {G : aG} {M : aM} {h : aH} {kc ks pc : Nat} {lv : aV} {st : List Value} {x y : UInt64} {op : CmpOp} (hd : decode M.2.1 pc = .ok (.dcmp op, 1)) (k : AW G M h kc ks (pc + 1) lv (.int (Op.cmpValue (FP.dcmp x y) op) :: st)) : AW G M h kc ks pc lv (.double y :: .double x :: st) := by
  obtain ⟨p, l, e, R, s, m, args, below, meth, c, Q, D, cI, cL, A, ad0, X⟩ := G
  intro ok ad H locs ls ha hP hD hS hl
  exact lv_dcmp ok.1 ok.2.1 hd (k ok ad H locs ls ha hP hD hS hl)
theorem kcX1_131 : Cond.constantDouble RX1 131 4621256167635550208 ∈ kwl := by decide +kernel
theorem kcX1_133 : Cond.constantLong RX1 133 1033 ∈ kwl := by decide +kernel
theorem kcX1_135 : Cond.constantLong RX1 135 31 ∈ kwl := by decide +kernel
theorem kcX1_112 : Cond.constant RX1 112 1000000 ∈ kwl := by decide +kernel
theorem kcX3_132 : Cond.constant RX3 132 2147483647 ∈ kwl := by decide +kernel
theorem kcX3_144 : Cond.constantDouble RX3 144 4621256167635550208 ∈ kwl := by decide +kernel
theorem kcX3_146 : Cond.constantLong RX3 146 1033 ∈ kwl := by decide +kernel
theorem kcX3_148 : Cond.constantLong RX3 148 31 ∈ kwl := by decide +kernel
