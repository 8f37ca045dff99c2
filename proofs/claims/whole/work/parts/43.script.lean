/-! ===== the law reads its script ===== -/
/-- the script lies at place 100 .. -/
def aScr (pl L : Nat) (xs : Nat → Int32) : aG → Prop
  | (_, _, _, _, _, _, _, _, _, _, _, _, _, _, _, _, X) => X = some (pl, L, xs)
theorem AW.sld {G : aG} {M : aM} {tb : List (Nat × Instr)} {FT PT : List (Nat × Nat × Nat)} (hm : amok M tb FT PT) (n : Nat) {h : aH} {kc ks pc pl L : Nat} {xs : Nat → Int32} {lv : aV} {st : List Value} {i : Int32} (hX : aScr pl L xs G) (hi : tb[n]? = some (pc, .iaload)) (hin : vp_in i L)
    (k : AW G M h kc ks (pc + 1) lv (.int (xs i.toNatClampNeg) :: st)) : AW G M h kc ks pc lv (.int i :: .ref pl :: st) := by
  have hd := tb_at hm.1 n hi
  obtain ⟨p, l, e, R, s, m, args, below, meth, c, Q, D, cI, cL, A, ad0, X⟩ := G
  intro ok ad H locs ls ha hP hD hS hl
  obtain ⟨h1, h2, h3, h4⟩ := ok.2.2.2.2.2.2.2 pl L xs hX
  have hap : ad pl = ad0 pl := ha pl (Or.inr h1)
  show W p l e R s m args below meth c H locs kc ks Q (F0 m pc ls (.int i :: .ref (ad pl) :: st.map (ev ad)))
  rw [hap]
  exact va_sld ok.1 ok.2.1 h2 h3 h4 hS hin hd (k ok ad H locs ls ha hP hD hS hl)
theorem AW.slen {G : aG} {M : aM} {tb : List (Nat × Instr)} {FT PT : List (Nat × Nat × Nat)} (hm : amok M tb FT PT) (n : Nat) {h : aH} {kc ks pc pl L : Nat} {xs : Nat → Int32} {lv : aV} {st : List Value} (hX : aScr pl L xs G) (hi : tb[n]? = some (pc, .arraylength))
    (k : AW G M h kc ks (pc + 1) lv (.int (nI L) :: st)) : AW G M h kc ks pc lv (.ref pl :: st) := by
  have hd := tb_at hm.1 n hi
  obtain ⟨p, l, e, R, s, m, args, below, meth, c, Q, D, cI, cL, A, ad0, X⟩ := G
  intro ok ad H locs ls ha hP hD hS hl
  obtain ⟨h1, h2, h3, h4⟩ := ok.2.2.2.2.2.2.2 pl L xs hX
  have hap : ad pl = ad0 pl := ha pl (Or.inr h1)
  show W p l e R s m args below meth c H locs kc ks Q (F0 m pc ls (.ref (ad pl) :: st.map (ev ad)))
  rw [hap]
  exact va_slen ok.1 ok.2.1 h2 h3 h4 hS hd (k ok ad H locs ls ha hP hD hS hl)
