/-! ===== the law's heap: MudSweepers at 0 .. 27, the reference at 28 .. 51, out at 52 ===== -/
def S1 : List Nat := List.range' 0 28
def S2 : List Nat := List.range' 28 24
def S3 : List Nat := List.range' 0 28 ++ [52]
abbrev MW : aM := (yL_law.cls, cL_law, 9, 0)
abbrev RW : Room := { frames := 11, cells := 619416, slots := 7237855, locals := 392 }
def hW (th : Int32) (C T A : CS) (L L2 : Nat → Int32) (O : Nat → Int64) : aH := hM C T L ++ (hX th C A L2).map (rE S2 []) ++ [aL 1 O]
theorem rng_get (m : aH) : ∀ (l r : aH), (List.range' l.length m.length).map (fun i => (l ++ m ++ r)[i]?) = m.map some := by
  induction m with
  | nil => intro l r; rfl
  | cons a m ih =>
    intro l r
    have h := ih (l ++ [a]) r
    have e1 : (l ++ [a]).length = l.length + 1 := by simp
    have e2 : l ++ [a] ++ m ++ r = l ++ a :: m ++ r := by simp
    rw [e1, e2] at h
    show (l ++ a :: m ++ r)[l.length]? :: (List.range' (l.length + 1) m.length).map (fun i => (l ++ a :: m ++ r)[i]?) = some a :: m.map some
    rw [h]
    congr 1
    simp
theorem putb_rng (m : aH) : ∀ (m' l r : aH), m'.length = m.length → putb (List.range' l.length m.length) m' (l ++ m ++ r) = l ++ m' ++ r := by
  induction m with
  | nil =>
    intro m' l r h
    have : m' = [] := List.eq_nil_of_length_eq_zero h
    subst this
    rfl
  | cons a m ih =>
    intro m' l r h
    cases m' with
    | nil => cases h
    | cons b m' =>
      have h2 := ih m' (l ++ [b]) r (Nat.succ.inj h)
      have e1 : (l ++ [b]).length = l.length + 1 := by simp
      have e2 : l ++ [b] ++ m ++ r = (l ++ a :: m ++ r).set l.length b := by simp
      have e3 : l ++ [b] ++ m' ++ r = l ++ b :: m' ++ r := by simp
      rw [e1, e2, e3] at h2
      exact h2
theorem putb_app : ∀ (σ τ : List Nat) (es fs h : aH), es.length = σ.length → putb (σ ++ τ) (es ++ fs) h = putb τ fs (putb σ es h) := by
  intro σ
  induction σ with
  | nil =>
    intro τ es fs h he
    have : es = [] := List.eq_nil_of_length_eq_zero he
    subst this
    rfl
  | cons i r ih =>
    intro τ es fs h he
    cases es with
    | nil => cases he
    | cons e q => exact ih τ q fs (h.set i e) (Nat.succ.inj he)
theorem get_S1 {P Q : aH} (hP : P.length = 28) : S1.map (fun i => (P ++ Q)[i]?) = P.map some := by
  have h := rng_get P [] Q
  rw [hP] at h
  exact h
theorem get_S2 {P Q R : aH} (hP : P.length = 28) (hQ : Q.length = 24) : S2.map (fun i => (P ++ Q ++ R)[i]?) = Q.map some := by
  have h := rng_get Q P R
  rw [hP, hQ] at h
  exact h
theorem get_52 {P Q : aH} {r : aE} (hP : P.length = 28) (hQ : Q.length = 24) : (P ++ Q ++ [r])[52]? = some r := by
  have e : (P ++ Q).length = 52 := by rw [List.length_append, hP, hQ]
  rw [List.getElem?_append_right (by omega), e]
  rfl
theorem set_52 {P Q : aH} {r r' : aE} (hP : P.length = 28) (hQ : Q.length = 24) : (P ++ Q ++ [r]).set 52 r' = P ++ Q ++ [r'] := by
  have e : (P ++ Q).length = 52 := by rw [List.length_append, hP, hQ]
  rw [List.set_append_right _ _ (by omega), e]
  rfl
theorem get_S3 {P Q : aH} {r : aE} (hP : P.length = 28) (hQ : Q.length = 24) : S3.map (fun i => (P ++ Q ++ [r])[i]?) = (P ++ [r]).map some := by
  have h := get_S1 (P := P) (Q := Q ++ [r]) hP
  rw [← List.append_assoc] at h
  show (S1 ++ [52]).map _ = _
  rw [List.map_append, List.map_append, h]
  show _ ++ [(P ++ Q ++ [r])[52]?] = _
  rw [get_52 hP hQ]
  rfl
theorem put_S1 {P P' Q : aH} (hP : P.length = 28) (hP' : P'.length = 28) : putb S1 P' (P ++ Q) = P' ++ Q := by
  have h := putb_rng P P' [] Q (hP'.trans hP.symm)
  rw [hP] at h
  exact h
theorem put_S2 {P Q Q' R : aH} (hP : P.length = 28) (hQ : Q.length = 24) (hQ' : Q'.length = 24) : putb S2 Q' (P ++ Q ++ R) = P ++ Q' ++ R := by
  have h := putb_rng Q Q' P R (hQ'.trans hQ.symm)
  rw [hP, hQ] at h
  exact h
theorem put_S3 {P P' Q : aH} {r r' : aE} (hP : P.length = 28) (hP' : P'.length = 28) (hQ : Q.length = 24) : putb S3 (P' ++ [r']) (P ++ Q ++ [r]) = P' ++ Q ++ [r'] := by
  show putb (S1 ++ [52]) (P' ++ [r']) _ = _
  rw [putb_app _ _ _ _ _ (by rw [hP']; rfl), List.append_assoc, put_S1 hP hP', ← List.append_assoc]
  exact set_52 hP' hQ
theorem hM_len (C T : CS) (L : Nat → Int32) : (hM C T L).length = 28 := rfl
theorem hX_len (th : Int32) (C A : CS) (L : Nat → Int32) : (hX th C A L).length = 24 := rfl
theorem hM_S1 (C T : CS) (L : Nat → Int32) : (hM C T L).map (rE S1 []) = hM C T L := rfl
theorem hM_S3 (C T : CS) (L : Nat → Int32) : (hM C T L).map (rE S3 []) = hM C T L := rfl
theorem hM_ok (C T : CS) (L : Nat → Int32) : (hM C T L).all (okE 28) = true := rfl
theorem hM_ok2 (C T : CS) (L : Nat → Int32) : (hM C T L).all (okE 29) = true := rfl
theorem hX_ok (th : Int32) (C A : CS) (L : Nat → Int32) : (hX th C A L).all (okE 24) = true := rfl
theorem ndS1 : va_nd S1 = true := by decide +kernel
theorem ndS2 : va_nd S2 = true := by decide +kernel
theorem ndS3 : va_nd S3 = true := by decide +kernel
theorem hQ_len (th : Int32) (C A : CS) (L : Nat → Int32) : ((hX th C A L).map (rE S2 [])).length = 24 := rfl
/-- the law calls a wrapper -/
theorem AW.lawW {G : aG} {tb : List (Nat × Instr)} (hm : amok MW tb FTL PTL) (i : Nat) {th : Int32} {C T C' T' A CC : CS} {L L' L2 : Nat → Int32} {O O' : Nat → Int64} {kc ks pc idx maxL n : Nat} {lv : aV} {as rest st st' : List Value} {y : MethodName} {b : ByteArray} {hh hg : List (Nat × Nat × Nat × Nat)} {rm : Room} {x : Int32}
    (hc0 : AMetW y b maxL (some .int) hh rm as (hM C T L ++ [aL 1 O]) (some (.int x)) (hM C' T' L' ++ [aL 1 O'])) (hE : aEx hg G) (hcode : Cond.codeWith y b maxL (some .int) hh ∈ kwl) (hyc : y.cls = RL) (hsig : (parseMethodDescriptor y.desc).map (fun d => d.parameters.length) = some n) (hstat : Cond.static y ∈ kwl) (hlk : Cond.methodLink RL idx y ∈ kwl) (hn : as.length = n)
    (hi : tb[i]? = some (pc, .invokestatic idx)) (hst : st = (as.map (rv S3 [])).reverse ++ rest) (hcat : Nat.ble (rest.map fun v => v.category).sum 8 = true)
    (hR : aRm G = RW) (hRR : rm.frames + 1 ≤ 11 ∧ 8 + (maxL + 11) + rm.locals ≤ 392 ∧ kc + rm.cells ≤ 619416 ∧ ks + rm.slots ≤ 7237855)
    (hst' : .int x :: rest = st') (k : AW G MW (hM C' T' L' ++ (hX th CC A L2).map (rE S2 []) ++ [aL 1 O']) (kc + rm.cells) (ks + rm.slots) (pc + 3) lv st') : AW G MW (hM C T L ++ (hX th CC A L2).map (rE S2 []) ++ [aL 1 O]) kc ks pc lv st :=
  AW.callSW hm i hc0 S3 [] hE hcode (by rw [hyc]; exact wiL) (by rw [hyc]; exact wnL) hsig hstat hlk hn hi hst hcat hR hRR
    (by rw [List.map_append, hM_S3]; exact get_S3 (hM_len _ _ _) (hQ_len _ _ _ _)) ndS3 (by rw [List.length_append, List.length_append]; rfl) rfl
    (by rw [List.all_append]; show ((hM C' T' L').all (okE 29) && _) = true; rw [hM_ok2]; rfl) (fun _ => rfl)
    (by rw [List.map_append, hM_S3]; exact put_S3 (hM_len _ _ _) (hM_len _ _ _) (hQ_len _ _ _ _)) hst' k
/-- the law calls the reference -/
theorem AW.lawX {G : aG} {tb : List (Nat × Instr)} (hm : amok MW tb FTL PTL) (i : Nat) {th th' : Int32} {C C' A A' : CS} {L2 L2' : Nat → Int32} {P R : aH} {kc ks pc idx maxL n : Nat} {lv : aV} {as rest st st' : List Value} {y : MethodName} {b : ByteArray} {ret : Option FieldType} {rm : Room} {r : Option Value}
    (hc0 : AMet y b maxL ret rm (.ref 0 :: as) (hX th C A L2) r (hX th' C' A' L2')) (hP : P.length = 28) (hcl : (vwCl[3]?).map (fun q => q.1) = some y.cls) (hy : yok y b maxL ret n) (hinst : Cond.instanceMethod y ∈ kwl) (hsel : Cond.selects y.cls y y ∈ kwl) (hlk : mlnk RL idx y) (hn : as.length = n)
    (hi : tb[i]? = some (pc, .invokevirtual idx)) (hst : st = (as.map (rv S2 [])).reverse ++ .ref 28 :: rest) (hcat : Nat.ble (rest.map fun v => v.category).sum 8 = true)
    (hR : aRm G = RW) (hRR : rm.frames + 1 ≤ 11 ∧ 8 + (maxL + 11) + rm.locals ≤ 392 ∧ kc + rm.cells ≤ 619416 ∧ ks + rm.slots ≤ 7237855) (hr0 : ∀ ad, r.map (ev ad) = r)
    (hst' : r.toList ++ rest = st') (k : AW G MW (P ++ (hX th' C' A' L2').map (rE S2 []) ++ R) (kc + rm.cells) (ks + rm.slots) (pc + 3) lv st') : AW G MW (P ++ (hX th C A L2).map (rE S2 []) ++ R) kc ks pc lv st :=
  AW.callV hm i hc0 rfl hcl S2 [] hy hinst hsel hlk hn hi hst hcat hR hRR (get_S2 hP (hQ_len _ _ _ _)) ndS2 rfl rfl (hX_ok _ _ _ _) hr0 (put_S2 hP (hQ_len _ _ _ _) (hQ_len _ _ _ _)) hst' k
/-- the law calls the class itself -/
theorem AW.lawM {G : aG} {tb : List (Nat × Instr)} (hm : amok MW tb FTL PTL) (i : Nat) {C T C' T' : CS} {L L' : Nat → Int32} {Q R : aH} {kc ks pc idx maxL n : Nat} {lv : aV} {as rest st st' : List Value} {y : MethodName} {b : ByteArray} {ret : Option FieldType} {rm : Room} {r : Option Value}
    (hc0 : AMet y b maxL ret rm (.ref 0 :: as) (hM C T L) r (hM C' T' L')) (hcl : (vwCl[1]?).map (fun q => q.1) = some y.cls) (hy : yok y b maxL ret n) (hinst : Cond.instanceMethod y ∈ kwl) (hsel : Cond.selects y.cls y y ∈ kwl) (hlk : mlnk RL idx y) (hn : as.length = n)
    (hi : tb[i]? = some (pc, .invokevirtual idx)) (hst : st = (as.map (rv S1 [])).reverse ++ .ref 0 :: rest) (hcat : Nat.ble (rest.map fun v => v.category).sum 8 = true)
    (hR : aRm G = RW) (hRR : rm.frames + 1 ≤ 11 ∧ 8 + (maxL + 11) + rm.locals ≤ 392 ∧ kc + rm.cells ≤ 619416 ∧ ks + rm.slots ≤ 7237855) (hr0 : ∀ ad, r.map (ev ad) = r)
    (hst' : r.toList ++ rest = st') (k : AW G MW (hM C' T' L' ++ Q ++ R) (kc + rm.cells) (ks + rm.slots) (pc + 3) lv st') : AW G MW (hM C T L ++ Q ++ R) kc ks pc lv st :=
  AW.callV hm i hc0 rfl hcl S1 [] hy hinst hsel hlk hn hi hst hcat hR hRR (by rw [hM_S1, List.append_assoc]; exact get_S1 (hM_len _ _ _)) ndS1 rfl rfl (hM_ok _ _ _) hr0 (by rw [hM_S1, List.append_assoc, put_S1 (hM_len _ _ _) (hM_len _ _ _), ← List.append_assoc]) hst' k
theorem AW.lald {G : aG} {M : aM} {tb : List (Nat × Instr)} {FT PT : List (Nat × Nat × Nat)} (hm : amok M tb FT PT) (n : Nat) {h : aH} {kc ks pc a : Nat} {lv : aV} {st : List Value} {i : Int32} {N : Nat} {f : Nat → Int64} (hi : tb[n]? = some (pc, .laload)) (ha : h[a]? = some (aL N f)) (hin : vp_in i N)
    (k : AW G M h kc ks (pc + 1) lv (.long (f i.toNatClampNeg) :: st)) : AW G M h kc ks pc lv (.int i :: .ref a :: st) := by
  have hd := tb_at hm.1 n hi
  obtain ⟨p, l, e, R, s, m, args, below, meth, c, Q, D, cI, cL, A, ad0, X⟩ := G
  intro ok ad H locs ls h0 hP hD hS hl
  obtain ⟨hx, hb, hml, hown, hkw, hK, hA, hX⟩ := id ok
  exact va_lald hx hb hK hP a 1 (wl_get ha) rfl hin hd (k ok ad H locs ls h0 hP hD hS hl)
theorem AW.lcmpE {G : aG} {M : aM} {tb : List (Nat × Instr)} {FT PT : List (Nat × Nat × Nat)} (hm : amok M tb FT PT) (n : Nat) {h : aH} {kc ks pc : Nat} {lv : aV} {st : List Value} {x y : Int64} (hi : tb[n]? = some (pc, .lcmp)) (hxy : x = y)
    (k : AW G M h kc ks (pc + 1) lv (.int 0 :: st)) : AW G M h kc ks pc lv (.long y :: .long x :: st) := by
  have hd := tb_at hm.1 n hi
  subst hxy
  obtain ⟨p, l, e, R, s, m, args, below, meth, c, Q, D, cI, cL, A, ad0, X⟩ := G
  intro ok ad H locs ls h0 hP hD hS hl
  refine W.lcmp ok.1 ok.2.1 hd ?_
  have e1 : lg_cmp x x = 0 := by simp [lg_cmp]
  rw [e1]
  exact k ok ad H locs ls h0 hP hD hS hl
theorem AW.dcmpL {G : aG} {M : aM} {tb : List (Nat × Instr)} {FT PT : List (Nat × Nat × Nat)} (hm : amok M tb FT PT) (n : Nat) {h : aH} {kc ks pc : Nat} {lv : aV} {st : List Value} {x y : UInt64} {op : CmpOp} (hi : tb[n]? = some (pc, .dcmp op))
    (k : AW G M h kc ks (pc + 1) lv (.int (Op.cmpValue (FP.dcmp x y) op) :: st)) : AW G M h kc ks pc lv (.double y :: .double x :: st) := by
  have hd := tb_at hm.1 n hi
  obtain ⟨p, l, e, R, s, m, args, below, meth, c, Q, D, cI, cL, A, ad0, X⟩ := G
  intro ok ad H locs ls h0 hP hD hS hl
  exact lv_dcmp ok.1 ok.2.1 hd (k ok ad H locs ls h0 hP hD hS hl)
set_option maxHeartbeats 2000000 in
theorem kX3_thrownX (th : Int32) (C A : CS) (L : Nat → Int32) : AMet yX3_thrown cX3_thrown 1 (some .int) { frames := 0, cells := 0, slots := 0, locals := 0 } [.ref 0] (hX th C A L) (some (.int th)) (hX th C A L) := by
  refine AMet.of (by decide) rfl ?_
  intro G hR hE hI
  refine AW.blk (amX3_thrown _) 0 2 (h' := hX th C A L) (pc' := 4) (lv' := [(0, .ref 0)]) (st' := [.int th]) (L := []) rfl trivial ?_
  exact AW.iretE (amX3_thrown _) 2 hE rfl rfl (by first | rfl | exact narrow_b _ (by decide)) rfl rfl rfl rfl
