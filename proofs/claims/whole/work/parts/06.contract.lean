/-! ===== branches ===== -/
def cnd (i : Instr) (st : List Value) : Option (Prop × Prop × List Value × Int) := match i with
  | .if_icmp c off => match st with
    | .int y :: .int x :: r => match c with
      | .eq => some (x = y, ¬ x = y, r, off)
      | .ne => some (¬ x = y, x = y, r, off)
      | .lt => some (x < y, ¬ x < y, r, off)
      | .ge => some (y ≤ x, ¬ y ≤ x, r, off)
      | .gt => some (y < x, ¬ y < x, r, off)
      | .le => some (x ≤ y, ¬ x ≤ y, r, off)
    | _ => none
  | .ifCond c off => match st with
    | .int x :: r => match c with
      | .eq => some (x = 0, ¬ x = 0, r, off)
      | .ne => some (¬ x = 0, x = 0, r, off)
      | .lt => some (x < 0, ¬ x < 0, r, off)
      | .ge => some (0 ≤ x, ¬ 0 ≤ x, r, off)
      | .gt => some (0 < x, ¬ 0 < x, r, off)
      | .le => some (x ≤ 0, ¬ x ≤ 0, r, off)
    | _ => none
  | _ => none
theorem AW.brD {G : aG} {M : aM} {h : aH} {kc ks pc tgt : Nat} {lv : aV} {st st' : List Value} {i : Instr} {off : Int} {C C' : Prop} (hd : decode M.2.1 pc = .ok (i, ilen i)) (hc : cnd i st = some (C, C', st', off)) (ht : (pc : Int) + off = (tgt : Int))
    (kt : C → AW G M h kc ks tgt lv st') (kf : C' → AW G M h kc ks (pc + 3) lv st') : AW G M h kc ks pc lv st := by
  obtain ⟨p, l, e, R, s, m, args, below, meth, c, Q, D, cI, cL, A, ad0, X⟩ := G
  intro ok ad H locs ls ha hP hD hS hl
  obtain ⟨hx, hb, -⟩ := id ok
  cases i with
  | if_icmp q off2 =>
    match st, hc with
    | .int y :: .int x :: r, hc =>
      cases q with
      | eq => cases hc; exact lv_icmp_eq hx hb hd ht (fun z => kt z ok ad H locs ls ha hP hD hS hl) (fun z => kf z ok ad H locs ls ha hP hD hS hl)
      | ne => cases hc; exact lv_icmp_ne hx hb hd ht (fun z => kt z ok ad H locs ls ha hP hD hS hl) (fun z => kf z ok ad H locs ls ha hP hD hS hl)
      | lt => cases hc; exact lv_icmp_lt hx hb hd ht (fun z => kt z ok ad H locs ls ha hP hD hS hl) (fun z => kf z ok ad H locs ls ha hP hD hS hl)
      | ge => cases hc; exact lv_icmp_ge hx hb hd ht (fun z => kt z ok ad H locs ls ha hP hD hS hl) (fun z => kf z ok ad H locs ls ha hP hD hS hl)
      | gt => cases hc; exact lv_icmp_gt hx hb hd ht (fun z => kt z ok ad H locs ls ha hP hD hS hl) (fun z => kf z ok ad H locs ls ha hP hD hS hl)
      | le => cases hc; exact lv_icmp_le hx hb hd ht (fun z => kt z ok ad H locs ls ha hP hD hS hl) (fun z => kf z ok ad H locs ls ha hP hD hS hl)
  | ifCond q off2 =>
    match st, hc with
    | .int x :: r, hc =>
      cases q with
      | eq => cases hc; exact lv_if_eq hx hb hd ht (fun z => kt z ok ad H locs ls ha hP hD hS hl) (fun z => kf z ok ad H locs ls ha hP hD hS hl)
      | ne => cases hc; exact lv_if_ne hx hb hd ht (fun z => kt z ok ad H locs ls ha hP hD hS hl) (fun z => kf z ok ad H locs ls ha hP hD hS hl)
      | lt => cases hc; exact lv_if_lt hx hb hd ht (fun z => kt z ok ad H locs ls ha hP hD hS hl) (fun z => kf z ok ad H locs ls ha hP hD hS hl)
      | ge => cases hc; exact lv_if_ge hx hb hd ht (fun z => kt z ok ad H locs ls ha hP hD hS hl) (fun z => kf z ok ad H locs ls ha hP hD hS hl)
      | gt => cases hc; exact lv_if_gt hx hb hd ht (fun z => kt z ok ad H locs ls ha hP hD hS hl) (fun z => kf z ok ad H locs ls ha hP hD hS hl)
      | le => cases hc; exact lv_if_le hx hb hd ht (fun z => kt z ok ad H locs ls ha hP hD hS hl) (fun z => kf z ok ad H locs ls ha hP hD hS hl)
  | _ => exact absurd (show (none : Option (Prop × Prop × List Value × Int)) = some (C, C', st', off) from hc) (fun z => by cases z)
theorem tb_at {cc : ByteArray} {tb : List (Nat × Instr)} (h : tbok cc tb) (i : Nat) {pc : Nat} {ins : Instr} (hi : tb[i]? = some (pc, ins)) : decode cc pc = .ok (ins, ilen ins) := h (pc, ins) (List.mem_of_getElem? hi)
theorem AW.br {G : aG} {M : aM} {tb : List (Nat × Instr)} {FT PT : List (Nat × Nat × Nat)} (hm : amok M tb FT PT) (n : Nat) {h : aH} {kc ks pc tgt : Nat} {lv : aV} {st st' : List Value} {i : Instr} {off : Int} {C C' : Prop} (hi : tb[n]? = some (pc, i)) (hc : cnd i st = some (C, C', st', off)) (ht : (pc : Int) + off = (tgt : Int))
    (kt : C → AW G M h kc ks tgt lv st') (kf : C' → AW G M h kc ks (pc + 3) lv st') : AW G M h kc ks pc lv st := AW.brD (tb_at hm.1 n hi) hc ht kt kf
theorem AW.ifnonnull {G : aG} {M : aM} {tb : List (Nat × Instr)} {FT PT : List (Nat × Nat × Nat)} (hm : amok M tb FT PT) (n : Nat) {h : aH} {kc ks pc tgt x : Nat} {lv : aV} {st : List Value} {off : Int} (hi : tb[n]? = some (pc, .ifnonnull off)) (ht : (pc : Int) + off = (tgt : Int)) (k : AW G M h kc ks tgt lv st) : AW G M h kc ks pc lv (.ref x :: st) := by
  have hd := tb_at hm.1 n hi
  obtain ⟨p, l, e, R, s, m, args, below, meth, c, Q, D, cI, cL, A, ad0, X⟩ := G
  intro ok ad H locs ls ha hP hD hS hl
  exact lv_ifnonnull ok.1 ok.2.1 hd ht (k ok ad H locs ls ha hP hD hS hl)
theorem AW.ifnull {G : aG} {M : aM} {tb : List (Nat × Instr)} {FT PT : List (Nat × Nat × Nat)} (hm : amok M tb FT PT) (n : Nat) {h : aH} {kc ks pc x : Nat} {lv : aV} {st : List Value} {off : Int} (hi : tb[n]? = some (pc, .ifnull off)) (k : AW G M h kc ks (pc + 3) lv st) : AW G M h kc ks pc lv (.ref x :: st) := by
  have hd := tb_at hm.1 n hi
  obtain ⟨p, l, e, R, s, m, args, below, meth, c, Q, D, cI, cL, A, ad0, X⟩ := G
  intro ok ad H locs ls ha hP hD hS hl
  exact lv_ifnull ok.1 ok.2.1 hd (k ok ad H locs ls ha hP hD hS hl)
theorem AW.swIn {G : aG} {M : aM} {h : aH} {kc ks pc tgt len : Nat} {lv : aV} {st : List Value} {dflt lo hi off : Int} {offs : Array Int} {x : Int32} (hd : decode M.2.1 pc = .ok (.tableswitch dflt lo hi offs, len)) (h1 : ¬ x.toInt < lo) (h2 : ¬ hi < x.toInt) (ho : offs[(x.toInt - lo).toNat]? = some off) (ht : (pc : Int) + off = (tgt : Int)) (k : AW G M h kc ks tgt lv st) : AW G M h kc ks pc lv (.int x :: st) := by
  obtain ⟨p, l, e, R, s, m, args, below, meth, c, Q, D, cI, cL, A, ad0, X⟩ := G
  intro ok ad H locs ls ha hP hD hS hl
  exact lv_tableIn ok.1 ok.2.1 hd h1 h2 ho ht (k ok ad H locs ls ha hP hD hS hl)
theorem AW.swOut {G : aG} {M : aM} {h : aH} {kc ks pc tgt len : Nat} {lv : aV} {st : List Value} {dflt lo hi : Int} {offs : Array Int} {x : Int32} (hd : decode M.2.1 pc = .ok (.tableswitch dflt lo hi offs, len)) (h1 : x.toInt < lo ∨ hi < x.toInt) (ht : (pc : Int) + dflt = (tgt : Int)) (k : AW G M h kc ks tgt lv st) : AW G M h kc ks pc lv (.int x :: st) := by
  obtain ⟨p, l, e, R, s, m, args, below, meth, c, Q, D, cI, cL, A, ad0, X⟩ := G
  intro ok ad H locs ls ha hP hD hS hl
  exact lv_tableOut ok.1 ok.2.1 hd h1 ht (k ok ad H locs ls ha hP hD hS hl)
/-! ===== contracts ===== -/
def aPc (as : List Value) (h : aH) (D : va_G) (cI cL : ClassId) (ad0 : Nat → Nat) (sz : Nat) : Array Value → State → Prop := va_Pc (as.map (ev ad0)) (fun U => U.heap.size = sz ∧ va_P D vwCl (wl cI cL ad0 h) U.heap ∧ va_K D vwCl [(cI, .int), (cL, .long)] U ∧ va_D (fun _ => True) (wl cI cL ad0 h) ∧ kw U)
def aQc (r : Option Value) (h h' : aH) (D : va_G) (cI cL : ClassId) (ad0 : Nat → Nat) (sz : Nat) : Array Value → State → Outcome → State → Prop := fun _ st o t =>
  (∃ ad' : Nat → Nat, (∀ i, i < h.length ∨ 100 ≤ i → ad' i = ad0 i) ∧ o = .returned r ∧ va_P D vwCl (wl cI cL ad' h') t.heap ∧ va_D (va_A (wl cI cL ad0 h) sz) (wl cI cL ad' h')) ∧ va_F (va_A (wl cI cL ad0 h) sz) st t
/-- THE CONTRACT: over a heap that holds h (places 0 ..), with these arguments, the method y answers r and leaves h' -/
def AMet (y : MethodName) (b : ByteArray) (maxL : Nat) (ret : Option FieldType) (rm : Room) (as : List Value) (h : aH) (r : Option Value) (h' : aH) : Prop :=
  ∀ (l : Launch) (D : va_G) (cI cL : ClassId) (ad0 : Nat → Nat) (sz : Nat), Met l y [.code y b maxL ret] rm (aPc as h D cI cL ad0 sz) (aQc r h h' D cI cL ad0 sz) rm.cells rm.slots (va_A (wl cI cL ad0 h) sz)
/-- what a walk's end asks -/
def aEnd (ret : Option FieldType) (r : Option Value) (h0 h' : aH) (mc ms : Nat) : aG → Prop
  | (p, l, e, R, s, m, args, below, meth, c, Q, D, cI, cL, A, ad0, _) => meth.sig.returnType = ret ∧ meth.locks = false ∧ A = va_A (wl cI cL ad0 h0) s.heap.size ∧ ∀ (H : Heap) (locs : List Loc) (kc ks : Nat) (g : JFrame), W p l e R s m args below meth c H locs kc ks (MQ below (aQc r h0 h' D cI cL ad0 s.heap.size) args s mc ms A) g → W p l e R s m args below meth c H locs kc ks Q g
def aIn : aG → Prop
  | (_, _, _, _, _, _, _, _, meth, _) => meth.name = "<init>"
theorem lv_args_el (ad : Nat → Nat) : ∀ (vs : List Value) (i : Nat), lv_args i (vs.map (ev ad)) = el ad (lv_args i vs) := by
  intro vs
  induction vs with
  | nil => intro i; rfl
  | cons v r ih => intro i; simp only [List.map_cons, lv_args, el, ev_cat]; rw [ih]; rfl
theorem lg_sl_len (ad : Nat → Nat) : ∀ (vs : List Value), (lg_sl (vs.map (ev ad))).length = (lg_sl vs).length := by
  intro vs
  induction vs with
  | nil => rfl
  | cons v r ih =>
    simp only [lg_sl, List.map_cons, List.flatMap_cons, List.length_append, ev_cat] at ih ⊢
    rw [ih]
    by_cases h : v.category = 2 <;> simp [h]
set_option maxHeartbeats 1000000 in
theorem AMet.of {y : MethodName} {b : ByteArray} {maxL : Nat} {ret : Option FieldType} {rm : Room} {as : List Value} {h h' : aH} {r : Option Value} (hy : plainName y.cls = true) (hlen : Nat.ble (lg_sl as).length maxL = true)
    (body : ∀ G : aG, aRm G = rm → aEnd ret r h h' rm.cells rm.slots G → (y.name = "<init>" → aIn G) → AW G (y.cls, b, maxL, h.length) h 0 0 0 (lv_args 0 as) []) : AMet y b maxL ret rm as h r h' := by
  intro l D cI cL ad0 sz
  refine Met.ofW (cc := b) (maxL := maxL) (ret := ret) hy rfl ?_
  intro p e s m args below meth c s₁ B hml hv
  obtain ⟨rfl, hsz, hP, hK, hD0, hkw⟩ := hv
  have hown : s.vm.findClass y.cls = some m.cls := findClass_of_methodNamed B.named
  subst hsz
  have hl := lv_entry (as.map (ev ad0)) (n := maxL) (by rw [lg_sl_len]; exact Nat.le_of_ble_eq_true hlen)
  rw [lg_entry_eq]
  generalize (lg_sl (as.map (ev ad0)) ++ List.replicate (maxL - (lg_sl (as.map (ev ad0))).length) Slot.unset).toArray = ls at hl ⊢
  rw [lv_args_el] at hl
  have k := body (p, l, e, rm, s, m, (as.map (ev ad0)).toArray, below, meth, c, MQ below (aQc r h h' D cI cL ad0 s.heap.size) (as.map (ev ad0)).toArray s rm.cells rm.slots (va_A (wl cI cL ad0 h) s.heap.size), D, cI, cL, va_A (wl cI cL ad0 h) s.heap.size, ad0, none) rfl
    ⟨B.returns, B.notSynchronized, rfl, fun _ _ _ _ _ z => z⟩ (fun hin => (name_of_methodNamed B.named B.method).1.trans hin)
    ⟨B.exec, B.bytes, hml, hown, hkw, hK, fun q hq => Or.inr hq, fun _ _ _ z => by cases z⟩
  exact k ad0 s.heap [] ls (fun _ _ => rfl) hP hD0.self va_S.rf hl
/-! ===== returns ===== -/
theorem AW.iret {G : aG} {M : aM} {h0 h h' : aH} {mc ms kc ks pc : Nat} {lv : aV} {ty : FieldType} {x : Int32} (hE : aEnd (some ty) (some (.int x)) h0 h' mc ms G) (hd : decode M.2.1 pc = .ok (.ireturn, 1)) (hM : M.2.2.2 = h0.length) (hn : narrow ty (.int x) = .int x) (hc : kc ≤ mc) (hs : ks ≤ ms) (hh : h = h') : AW G M h kc ks pc lv [.int x] := by
  obtain ⟨p, l, e, R, s, m, args, below, meth, c, Q, D, cI, cL, A, ad0, X⟩ := G
  intro ok ad H locs ls ha hP hD hS hl
  obtain ⟨h1, h2, h3, h4⟩ := hE
  subst hh
  rw [hM] at ha
  refine h4 _ _ _ _ _ (W.widen hc hs ?_)
  exact W.zret ok.1 ok.2.1 h1 hn (fun t ht _ => ⟨⟨ad, ha, rfl, by rw [ht]; exact hP, by rw [← h3]; exact hD⟩, by rw [← h3]; exact hS.F ht⟩) hS.2.2 hd (hlocks := h2)
theorem AW.lret {G : aG} {M : aM} {h0 h h' : aH} {mc ms kc ks pc : Nat} {lv : aV} {x : Int64} (hE : aEnd (some .long) (some (.long x)) h0 h' mc ms G) (hd : decode M.2.1 pc = .ok (.lreturn, 1)) (hM : M.2.2.2 = h0.length) (hc : kc ≤ mc) (hs : ks ≤ ms) (hh : h = h') : AW G M h kc ks pc lv [.long x] := by
  obtain ⟨p, l, e, R, s, m, args, below, meth, c, Q, D, cI, cL, A, ad0, X⟩ := G
  intro ok ad H locs ls ha hP hD hS hl
  obtain ⟨h1, h2, h3, h4⟩ := hE
  subst hh
  rw [hM] at ha
  refine h4 _ _ _ _ _ (W.widen hc hs ?_)
  exact W.lret ok.1 ok.2.1 h1 (fun t ht _ => ⟨⟨ad, ha, rfl, by rw [ht]; exact hP, by rw [← h3]; exact hD⟩, by rw [← h3]; exact hS.F ht⟩) hS.2.2 hd (hlocks := h2)
theorem AW.dret {G : aG} {M : aM} {h0 h h' : aH} {mc ms kc ks pc : Nat} {lv : aV} {x : UInt64} (hE : aEnd (some .double) (some (.double x)) h0 h' mc ms G) (hd : decode M.2.1 pc = .ok (.dreturn, 1)) (hM : M.2.2.2 = h0.length) (hc : kc ≤ mc) (hs : ks ≤ ms) (hh : h = h') : AW G M h kc ks pc lv [.double x] := by
  obtain ⟨p, l, e, R, s, m, args, below, meth, c, Q, D, cI, cL, A, ad0, X⟩ := G
  intro ok ad H locs ls ha hP hD hS hl
  obtain ⟨h1, h2, h3, h4⟩ := hE
  subst hh
  rw [hM] at ha
  refine h4 _ _ _ _ _ (W.widen hc hs ?_)
  exact W.dret ok.1 ok.2.1 h1 (fun t ht _ => ⟨⟨ad, ha, rfl, by rw [ht]; exact hP, by rw [← h3]; exact hD⟩, by rw [← h3]; exact hS.F ht⟩) hS.2.2 hd (hlocks := h2)
theorem AW.vret {G : aG} {M : aM} {h0 h h' : aH} {mc ms kc ks pc : Nat} {lv : aV} (hE : aEnd none none h0 h' mc ms G) (hd : decode M.2.1 pc = .ok (.return_, 1)) (hM : M.2.2.2 = h0.length) (hc : kc ≤ mc) (hs : ks ≤ ms) (hh : h = h') : AW G M h kc ks pc lv [] := by
  obtain ⟨p, l, e, R, s, m, args, below, meth, c, Q, D, cI, cL, A, ad0, X⟩ := G
  intro ok ad H locs ls ha hP hD hS hl
  obtain ⟨h1, h2, h3, h4⟩ := hE
  subst hh
  rw [hM] at ha
  refine h4 _ _ _ _ _ (W.widen hc hs ?_)
  exact W.vret ok.1 ok.2.1 h1 (fun t ht _ => ⟨⟨ad, ha, rfl, by rw [ht]; exact hP, by rw [← h3]; exact hD⟩, by rw [← h3]; exact hS.F ht⟩) hS.2.2 hd (hlocks := h2)
