/-! ===== making cells, copying rows, constructors ===== -/
theorem aarr : Cond.arrayClass .int ∈ kwl := by decide +kernel
theorem aarrL : Cond.arrayClass .long ∈ kwl := by decide +kernel
def okS (n : Nat) (h : aH) (lv : aV) (st : List Value) : Bool := h.all (okE n) && (lv.all (fun q => okv n q.2) && st.all (okv n))
theorem wl_agree {n : Nat} {cI cL : ClassId} {ad ad' : Nat → Nat} {h : aH} (ha : ∀ i, i < n ∨ 100 ≤ i → ad' i = ad i) (hn : h.length ≤ n) (hk : h.all (okE n) = true) : wl cI cL ad' h = wl cI cL ad h := by
  refine List.ext_getElem? fun k => ?_
  simp only [wl, List.getElem?_mapIdx]
  cases hb : h[k]? with
  | none => rfl
  | some e =>
    have hl : k < h.length := (List.getElem?_eq_some_iff.mp hb).1
    simp only [Option.map_some]
    rw [ha k (Or.inl (by omega)), ee_agree ha (List.all_eq_true.mp hk e (List.mem_of_getElem? hb))]
theorem el_agree {n : Nat} {ad ad' : Nat → Nat} {lv : aV} (ha : ∀ i, i < n ∨ 100 ≤ i → ad' i = ad i) (hk : lv.all (fun q => okv n q.2) = true) : el ad' lv = el ad lv := by
  refine List.map_congr_left fun q hq => ?_
  rw [ev_agree ha (List.all_eq_true.mp hk q hq)]
theorem evs_agree {n : Nat} {ad ad' : Nat → Nat} {st : List Value} (ha : ∀ i, i < n ∨ 100 ≤ i → ad' i = ad i) (hk : st.all (okv n) = true) : st.map (ev ad') = st.map (ev ad) :=
  List.map_congr_left fun v hv => ev_agree ha (List.all_eq_true.mp hk v hv)
-- the new place's address
def adn (n q : Nat) (ad : Nat → Nat) : Nat → Nat := fun i => if i = n then q else ad i
theorem adn_agree {n q : Nat} {ad : Nat → Nat} (hn : n < 100) : ∀ i, i < n ∨ 100 ≤ i → adn n q ad i = ad i := fun i h => by
  unfold adn
  rw [if_neg (by omega)]
theorem AW.newarr {G : aG} {M : aM} {tb : List (Nat × Instr)} {FT PT : List (Nat × Nat × Nat)} (hm : amok M tb FT PT) (i : Nat) {h h1 : aH} {kc ks pc : Nat} {lv : aV} {st st' : List Value} {n : Int32} {R : Room} (N : Nat) (hi : tb[i]? = some (pc, .newarray .int)) (hn : ¬ n < 0) (hN : n.toNatClampNeg = N) (hb : Nat.ble (N * 4) 536870912 = true) (hR : aRm G = R) (hc : kc + 1 ≤ R.cells) (hs : ks + N ≤ R.slots)
    (hM : Nat.ble M.2.2.2 h.length = true) (h100 : Nat.blt h.length 100 = true) (hok : okS h.length h lv st = true) (hh : h ++ [aI N (fun _ => 0)] = h1) (hst : .ref h.length :: st = st') (k : AW G M h1 (kc + 1) (ks + N) (pc + 2) lv st') : AW G M h kc ks pc lv (.int n :: st) := by
  have hd := tb_at hm.1 i hi
  obtain ⟨p, l, e, R0, s, m, args, below, meth, c, Q, D, cI, cL, A, ad0, X⟩ := G
  have hR : R0 = R := hR
  subst hR; subst hh; subst hst
  intro ok ad H locs ls ha hP hD hS hl
  obtain ⟨hx, hb2, hml, hown, hkw, hK, hA, hX⟩ := id ok
  have h100 : h.length < 100 := Nat.le_of_ble_eq_true h100
  have hM : M.2.2.2 ≤ h.length := Nat.le_of_ble_eq_true hM
  obtain ⟨o1, o2⟩ := (Bool.and_eq_true _ _).mp hok
  obtain ⟨o2, o3⟩ := (Bool.and_eq_true _ _).mp o2
  refine va_newa (a0 := (N, .inl (fun _ => 0))) (ty := .int) (atype := .int) hx hb2 (hkw.use _ aarr) rfl hK hP hD hS hA (fun cA => rfl) hn hN (Nat.le_of_ble_eq_true hb) hc hs hd (fun q cA H1 hK2 hP2 hD2 hS2 => ?_)
  have e1 : s.vm.findClass ("[" ++ (FieldType.int).toString) = some cA := (hK2.2 2 _ rfl).2
  have e2 : s.vm.findClass ("[" ++ (FieldType.int).toString) = some cI := (hK.2 0 _ rfl).2
  have e3 : cA = cI := Option.some.inj (e1.symm.trans e2)
  subst e3
  have hag := adn_agree (q := q) (ad := ad) h100
  have hw : wl cA cL (adn h.length q ad) (h ++ [aI N (fun _ => 0)]) = wl cA cL ad h ++ [(q, .inl (cA, N, .inl (fun _ => 0)))] := by
    rw [wl_snoc, wl_agree hag (Nat.le_refl _) o1]
    simp [adn, ee]
  have k2 := k ok (adn h.length q ad) H1 locs ls (fun j hj => by rw [hag j (by omega)]; exact ha j hj) (by rw [hw]; exact hP2) (by rw [hw]; exact hD2) hS2 (by rw [el_agree hag o2]; exact hl)
  have hs2 : (Value.ref h.length :: st).map (ev (adn h.length q ad)) = .ref q :: st.map (ev ad) := by
    rw [List.map_cons, evs_agree hag o3]
    simp [ev, adn]
  rw [hs2] at k2
  exact k2
theorem AW.newarrL {G : aG} {M : aM} {h h1 : aH} {kc ks pc : Nat} {lv : aV} {st st' : List Value} {n : Int32} {R : Room} (N : Nat) (hd : decode M.2.1 pc = .ok (.newarray .long, 2)) (hn : ¬ n < 0) (hN : n.toNatClampNeg = N) (hb : Nat.ble (N * 8) 536870912 = true) (hR : aRm G = R) (hc : kc + 1 ≤ R.cells) (hs : ks + N ≤ R.slots)
    (hM : Nat.ble M.2.2.2 h.length = true) (h100 : Nat.blt h.length 100 = true) (hok : okS h.length h lv st = true) (hh : h ++ [aL N (fun _ => 0)] = h1) (hst : .ref h.length :: st = st') (k : AW G M h1 (kc + 1) (ks + N) (pc + 2) lv st') : AW G M h kc ks pc lv (.int n :: st) := by
  obtain ⟨p, l, e, R0, s, m, args, below, meth, c, Q, D, cI, cL, A, ad0, X⟩ := G
  have hR : R0 = R := hR
  subst hR; subst hh; subst hst
  intro ok ad H locs ls ha hP hD hS hl
  obtain ⟨hx, hb2, hml, hown, hkw, hK, hA, hX⟩ := id ok
  have h100 : h.length < 100 := Nat.le_of_ble_eq_true h100
  have hM : M.2.2.2 ≤ h.length := Nat.le_of_ble_eq_true hM
  obtain ⟨o1, o2⟩ := (Bool.and_eq_true _ _).mp hok
  obtain ⟨o2, o3⟩ := (Bool.and_eq_true _ _).mp o2
  refine va_newa (a0 := (N, .inr (.inl (fun _ => 0)))) (ty := .long) (atype := .long) hx hb2 (hkw.use _ aarrL) rfl hK hP hD hS hA (fun cA => rfl) hn hN (Nat.le_of_ble_eq_true hb) hc hs hd (fun q cA H1 hK2 hP2 hD2 hS2 => ?_)
  have e1 : s.vm.findClass ("[" ++ (FieldType.long).toString) = some cA := (hK2.2 2 _ rfl).2
  have e2 : s.vm.findClass ("[" ++ (FieldType.long).toString) = some cL := (hK.2 1 _ rfl).2
  have e3 : cA = cL := Option.some.inj (e1.symm.trans e2)
  subst e3
  have hag := adn_agree (q := q) (ad := ad) h100
  have hw : wl cI cA (adn h.length q ad) (h ++ [aL N (fun _ => 0)]) = wl cI cA ad h ++ [(q, .inl (cA, N, .inr (.inl (fun _ => 0))))] := by
    rw [wl_snoc, wl_agree hag (Nat.le_refl _) o1]
    simp [adn, ee]
  have k2 := k ok (adn h.length q ad) H1 locs ls (fun j hj => by rw [hag j (by omega)]; exact ha j hj) (by rw [hw]; exact hP2) (by rw [hw]; exact hD2) hS2 (by rw [el_agree hag o2]; exact hl)
  have hs2 : (Value.ref h.length :: st).map (ev (adn h.length q ad)) = .ref q :: st.map (ev ad) := by
    rw [List.map_cons, evs_agree hag o3]
    simp [ev, adn]
  rw [hs2] at k2
  exact k2
def dfv : FieldType → Value := defaultValue
theorem AW.newobj {G : aG} {M : aM} {h h1 : aH} {kc ks pc idx ci N : Nat} {C : String} {T : u_T} {ty : Nat → FieldType} {lv : aV} {st st' fs : List Value} {R : Room} (hd : decode M.2.1 pc = .ok (.new idx, 3)) (hci : vwCl[ci]? = some (C, T, N)) (hty : ∀ k, k < N → parseFieldDescriptor (T k).2.2.1 = some (ty k)) (hcl : Cond.classLink M.1 idx C ∈ kwl) (hins : Cond.instantiable C N ∈ kwl) (hini : Cond.initialized C ∈ kwl) (hfs : ∀ ad : Nat → Nat, fs.map (ev ad) = fs) (hdf : ∀ j, j < N → defaultValue (ty j) = vp_V fs j) (hR : aRm G = R) (hc : kc + 1 ≤ R.cells) (hs : ks + N ≤ R.slots)
    (hM : Nat.ble M.2.2.2 h.length = true) (h100 : Nat.blt h.length 100 = true) (hok : okS h.length h lv st = true) (hh : h ++ [aO ci fs] = h1) (hst : .ref h.length :: st = st') (k : AW G M h1 (kc + 1) (ks + N) (pc + 3) lv st') : AW G M h kc ks pc lv st := by
  obtain ⟨p, l, e, R0, s, m, args, below, meth, c, Q, D, cI, cL, A, ad0, X⟩ := G
  have hR : R0 = R := hR
  subst hR; subst hh; subst hst
  intro ok ad H locs ls ha hP hD hS hl
  obtain ⟨hx, hb2, hml, hown, hkw, hK, hA, hX⟩ := id ok
  have h100 : h.length < 100 := Nat.le_of_ble_eq_true h100
  have hM : M.2.2.2 ≤ h.length := Nat.le_of_ble_eq_true hM
  obtain ⟨o1, o2⟩ := (Bool.and_eq_true _ _).mp hok
  obtain ⟨o2, o3⟩ := (Bool.and_eq_true _ _).mp o2
  refine va_new (ci := ci) (fs := fs) (C := C) (T := T) (N := N) hx hb2 hkw.use (vw_in hci) ty hty hown (hkw.use _ hcl) (hkw.use _ hins) (hkw.use _ hini) hK hP hD hS hA hci hdf hc hs hd (fun q H1 hP2 hD2 hS2 => ?_)
  have hag := adn_agree (q := q) (ad := ad) h100
  have hw : wl cI cL (adn h.length q ad) (h ++ [aO ci fs]) = wl cI cL ad h ++ [(q, .inr (ci, fs))] := by
    rw [wl_snoc, wl_agree hag (Nat.le_refl _) o1]
    simp [adn, ee, hfs]
  have k2 := k ok (adn h.length q ad) H1 locs ls (fun j hj => by rw [hag j (by omega)]; exact ha j hj) (by rw [hw]; exact hP2) (by rw [hw]; exact hD2) hS2 (by rw [el_agree hag o2]; exact hl)
  have hs2 : (Value.ref h.length :: st).map (ev (adn h.length q ad)) = .ref q :: st.map (ev ad) := by
    rw [List.map_cons, evs_agree hag o3]
    simp [ev, adn]
  rw [hs2] at k2
  exact k2
theorem kOb1 : Cond.instanceMethod objectInit ∈ kwl := by decide +kernel
theorem kOb2 : Cond.code objectInit ⟨#[0xb1]⟩ 1 none ∈ kwl := by decide +kernel
theorem AW.objInit {G : aG} {M : aM} {tb : List (Nat × Instr)} {FT PT : List (Nat × Nat × Nat)} (hm : amok M tb FT PT) (i : Nat) {h : aH} {kc ks pc idx a : Nat} {lv : aV} {st : List Value} {R : Room} (hi : tb[i]? = some (pc, .invokespecial idx)) (hlk : Cond.methodLink M.1 idx objectInit ∈ kwl) (hcat : Nat.ble (st.map fun v => v.category).sum 8 = true) (hR : aRm G = R) (hRR : 1 ≤ R.frames ∧ 20 ≤ R.locals) (k : AW G M h kc ks (pc + 3) lv st) : AW G M h kc ks pc lv (.ref a :: st) := by
  have hd := tb_at hm.1 i hi
  obtain ⟨p, l, e, R0, s, m, args, below, meth, c, Q, D, cI, cL, A, ad0, X⟩ := G
  have hR : R0 = R := hR
  subst hR
  intro ok ad H locs ls ha hP hD hS hl
  obtain ⟨hx, hb, hml, hown, hkw, hK, hA, hX⟩ := id ok
  have hc8 := Nat.le_of_ble_eq_true hcat
  refine W.objInit (a := ad a) (rest := st.map (ev ad)) hx hb hown (hkw.use _ hlk) (hkw.use _ kOb1) (hkw.use _ kOb2) rfl (by rw [hml]; exact hl.1) rfl hd hRR.1 ?_ (k ok ad H locs ls ha hP hD hS hl)
  show 2 * 0 + _ + 12 ≤ _
  rw [cats]; omega
theorem AW.putF {G : aG} {M : aM} {tb : List (Nat × Instr)} {FT PT : List (Nat × Nat × Nat)} (hm : amok M tb FT PT) (i : Nat) {h h1 : aH} {kc ks pc idx a b ci N j : Nat} {C : String} {T : u_T} {ty : FieldType} {lv : aV} {st fs : List Value} (hi : tb[i]? = some (pc, .putfield idx)) (hin : aIn G) (hci : vwCl[ci]? = some (C, T, N)) (hj : j < N) (hlk : Cond.fieldLink M.1 idx (T j).1 (T j).2.1 (T j).2.2.1 ∈ kwl) (hfin : (T j).2.2.2 = true) (hdecl : (T j).1 = M.1) (hdt : parseFieldDescriptor (T j).2.2.1 = some ty) (hr : ∀ q : Nat, narrow ty (.ref q) = .ref q ∧ fits ty (.ref q) = true)
    (ha0 : h[a]? = some (aO ci fs)) (hl0 : Nat.blt j fs.length = true) (hh : h.set a (aO ci (fs.set j (.ref b))) = h1) (k : AW G M h1 kc ks (pc + 3) lv st) : AW G M h kc ks pc lv (.ref b :: .ref a :: st) := by
  have hd := tb_at hm.1 i hi
  obtain ⟨p, l, e, R0, s, m, args, below, meth, c, Q, D, cI, cL, A, ad0, X⟩ := G
  subst hh
  intro ok ad H locs ls ha hP hD hS hl
  obtain ⟨hx, hb, hml, hown, hkw, hK, hA, hX⟩ := id ok
  obtain ⟨ty0, t1, t2⟩ := vw_ty hci
  have he := wl_get (cI := cI) (cL := cL) (ad := ad) ha0
  have hlen : j < (fs.map (ev ad)).length := by rw [List.length_map]; exact Nat.le_of_ble_eq_true hl0
  have hw : wl cI cL ad (h.set a (aO ci (fs.set j (.ref b)))) = (wl cI cL ad h).set a (ad a, .inr (ci, (fs.map (ev ad)).set j (.ref (ad b)))) := by rw [wl_set]; simp only [ee, List.map_set]; rfl
  exact va_putF (ci := ci) (C := C) (T := T) (N := N) (ty := ty) (v := .ref (ad b)) hx hb hkw.use (vw_in hci) ty0 t1 t2 hown hK hP hD hS a he hci j hj (hkw.use _ hlk) (fun _ h9 => h9) hfin hin hdecl hdt (hr _).1 (hr _).2 hlen hd (fun H1 locs1 hP hD hS => k ok ad H1 locs1 ls ha (by rw [hw]; exact hP) (by rw [hw]; exact hD) hS hl)
theorem kCp1 : Cond.native arraycopyName ∈ kwl := by decide +kernel
theorem kCp2 : Cond.static arraycopyName ∈ kwl := by decide +kernel
theorem kCp3 : Cond.initialized "java/lang/System" ∈ kwl := by decide +kernel
theorem AW.acopy {G : aG} {M : aM} {tb : List (Nat × Instr)} {FT PT : List (Nat × Nat × Nat)} (hm : amok M tb FT PT) (i : Nat) {h h1 : aH} {kc ks pc idx a0 a1 : Nat} {lv : aV} {st : List Value} {f g : Nat → Int32} {n : Int32} {R : Room} (N : Nat) (hi : tb[i]? = some (pc, .invokestatic idx)) (hlk : Cond.methodLink M.1 idx arraycopyName ∈ kwl) (hcat : Nat.ble (st.map fun v => v.category).sum 8 = true) (hR : aRm G = R) (hRR : 1 ≤ R.frames ∧ 40 ≤ R.locals) (hn : ¬ n < 0) (hN : n.toNatClampNeg = N)
    (h0 : h[a0]? = some (aI N f)) (h2 : h[a1]? = some (aI N g)) (hh : h.set a1 (aI N f) = h1) (k : AW G M h1 kc ks (pc + 3) lv st) : AW G M h kc ks pc lv (.int n :: .int 0 :: .ref a1 :: .int 0 :: .ref a0 :: st) := by
  have hd := tb_at hm.1 i hi
  obtain ⟨p, l, e, R0, s, m, args, below, meth, c, Q, D, cI, cL, A, ad0, X⟩ := G
  have hR : R0 = R := hR
  subst hR; subst hh
  intro ok ad H locs ls ha hP hD hS hl
  obtain ⟨hx, hb, hml, hown, hkw, hK, hA, hX⟩ := id ok
  have hc8 := Nat.le_of_ble_eq_true hcat
  have hz : (0 : Int32).toNatClampNeg = 0 := by decide
  refine va_copyi hx hb (by rw [hml]; exact hl.1.symm) hown (hkw.use _ hlk) (hkw.use _ kCp1) (hkw.use _ kCp2) (hkw.use _ kCp3) hK hP hD hS a0 a1 0 0 (wl_get h0) (wl_get h2) rfl rfl rfl (by decide) (by decide) hn (by rw [hz, hN]; omega) (by rw [hz, hN]; omega) (fun _ _ => rfl) hRR.1 ?_ hd (fun H1 locs1 hP hD hS => ?_)
  · rw [cats]
    have : nativeFrameWords "java/lang/System" "arraycopy" 5 + 11 ≤ 32 := by decide
    omega
  rw [hz, hN] at hP hD
  have hw : (wl cI cL ad h).set a1 (ad a1, .inl (cI, N, .inl (va_cpy f g 0 0 N))) = wl cI cL ad (h.set a1 (aI N (va_cpy f g 0 0 N))) := by rw [wl_set]; rfl
  rw [hw] at hP hD
  have hcq : ∀ (h : aH) (a : Nat), hq9 (h.set a (aI N (va_cpy f g 0 0 N))) (h.set a (aI N f)) := by
    have hrf : ∀ (h : aH), hq9 h h := by
      intro h
      induction h with
      | nil => trivial
      | cons x r ih => exact ⟨by rcases x with x | x | x <;> first | exact ⟨rfl, fun _ _ => rfl⟩ | rfl, ih⟩
    intro h
    induction h with
    | nil => intro a; trivial
    | cons x r ih =>
      intro a
      cases a with
      | zero => exact ⟨⟨rfl, fun j hj => by
          show va_cpy f g 0 0 N j = f j
          have hj : j < N := hj
          simp [va_cpy, hj]⟩, hrf r⟩
      | succ a => exact ⟨by rcases x with x | x | x <;> first | exact ⟨rfl, fun _ _ => rfl⟩ | rfl, ih a⟩
  exact k ok ad H1 locs1 ls ha (heq_P (hcq h a1) hP) (heq_D (hcq h a1) hD) hS hl
