/-! ===== a callee's throw goes on to the caller ===== -/
section CX
variable {p : Program} {l : Launch} {e : Env} {R : Room} {s : State} {m : MethodId} {args : Array Value} {below : List Frame} {meth : Method} {c : Code} {H : Heap} {locs : List Loc} {kc ks : Nat}
variable {D : va_G} {cI cL : ClassId} {ad : Nat → Nat} {A : Nat → Prop} {H0 : Heap}
theorem xA {hc h : aH} {σ δ : List Nat} (hD : va_D A (wl cI cL ad h)) (hS : va_S A H0 H locs) (hA : ∀ q, H0.size ≤ q → A q) (hsub : σ.map (fun i => h[i]?) = (hc.map (rE σ δ)).map some) (h100 : hc.length ≤ 100) : ∀ q, va_A (wl cI cL (fun i => ad (sg σ δ i)) hc) H.size q → A q := by
  intro q hq
  rcases hq with ⟨k, x, hk⟩ | hq
  · obtain ⟨e0, he0, hq2⟩ := wl_some hk
    have hjl : k < hc.length := (List.getElem?_eq_some_iff.mp he0).1
    obtain ⟨i, hi, hh⟩ := sub_get hsub he0
    have h3 := hD.2 i _ (wl_get hh)
    have h4 : q = ad i := by
      have := congrArg Prod.fst hq2
      simpa [sg_at (δ := δ) (by omega : k < 100) hi] using this
    rw [h4]; exact h3
  · exact hA q (Nat.le_trans hS.1 hq)
theorem xP {hc h : aH} {σ δ : List Nat} {ad' : Nat → Nat} {H1 : Heap} (hP : va_P D vwCl (wl cI cL ad h) H) (hD : va_D A (wl cI cL ad h))
    (hsub : σ.map (fun i => h[i]?) = (hc.map (rE σ δ)).map some) (h100 : hc.length ≤ 100) (hok : hc.all (okE hc.length) = true)
    (ha' : ∀ i, i < hc.length ∨ 100 ≤ i → ad' i = ad (sg σ δ i)) (hP1 : va_P D vwCl (wl cI cL ad' hc) H1)
    (hk : ∀ q : Nat, q < H.size → ¬ va_A (wl cI cL (fun i => ad (sg σ δ i)) hc) H.size q → H1[q]? = H[q]?) : va_P D vwCl (wl cI cL ad h) H1 := by
  intro k q hq
  obtain ⟨e0, he0, rfl⟩ := wl_some hq
  by_cases hkσ : k ∈ σ
  · obtain ⟨j, hj⟩ := List.getElem?_of_mem hkσ
    have hjl : j < hc.length := by rw [← sub_len hsub]; exact (List.getElem?_eq_some_iff.mp hj).1
    have he' : hc[j]? = some hc[j] := List.getElem?_eq_getElem hjl
    obtain ⟨i, hi, hh⟩ := sub_get hsub he'
    have hik : i = k := Option.some.inj (hi.symm.trans hj)
    subst hik
    have h2 : e0 = rE σ δ hc[j] := Option.some.inj (he0.symm.trans hh)
    have h3 := hP1 j _ (wl_get he')
    have e7 : ad (sg σ δ j) = ad i := by
      rw [sg_at (δ := δ) (by omega : j < 100) hj]
    rw [ha' j (Or.inl hjl), ee_agree (ad := fun i => ad (sg σ δ i)) ha' (List.all_eq_true.mp hok _ (List.getElem_mem hjl)), e7] at h3
    rw [h2, ee_rE]
    exact h3
  · have h1 := hP k _ (wl_get (cI := cI) (cL := cL) (ad := ad) he0)
    have hlt : ad k < H.size := h1.lt
    refine h1.kept (hk (ad k) hlt ?_)
    rintro (⟨k2, x, hx⟩ | hx)
    · obtain ⟨e2, he2, hq2⟩ := wl_some hx
      have hjl : k2 < hc.length := (List.getElem?_eq_some_iff.mp he2).1
      obtain ⟨i, hi, hh⟩ := sub_get hsub he2
      have h4 : ad k = ad i := by
        have := congrArg Prod.fst hq2
        simpa [sg_at (δ := δ) (by omega : k2 < 100) hi] using this
      have h5 := hD.1 k i _ _ (wl_get he0) (wl_get hh) h4
      exact hkσ (h5 ▸ List.mem_of_getElem? hi)
    · omega
theorem xcore {mc ms pc MC MS : Nat} {ls : Array Slot} {st0 rest : List Value} {σ δ : List Nat} {h hc : aH} {as : Array Value} {E : String} {ad0 : Nat → Nat} {n0 : Nat}
    (hr : vx_Run p l e R s m args below meth c H locs kc ks mc ms (F0 m pc ls st0) rest (aNo as) (aXC E hc D cI cL (fun i => ad (sg σ δ i)) H.size) (va_A (wl cI cL (fun i => ad (sg σ δ i)) hc) H.size))
    (hP : va_P D vwCl (wl cI cL ad h) H) (hD : va_D A (wl cI cL ad h)) (hS : va_S A s.heap H locs) (hA : ∀ q, s.heap.size ≤ q → A q)
    (hsub : σ.map (fun i => h[i]?) = (hc.map (rE σ δ)).map some) (h100 : hc.length ≤ 100) (hok : hc.all (okE hc.length) = true)
    (hn0 : n0 = h.length) (ha : ∀ i, i < n0 ∨ 100 ≤ i → ad i = ad0 i) (hlk : meth.locks = false) (hnt : ∀ x ∈ c.exceptionTable.toList, False) (hAe : A = va_A (wl cI cL ad0 h) s.heap.size) (hcs : kc + mc ≤ MC ∧ ks + ms ≤ MS) :
    W p l e R s m args below meth c H locs kc ks (vx_MQ below aNo (aXC E h D cI cL ad0 s.heap.size) args s MC MS A) (F0 m pc ls st0) := by
  intro T hT X
  rcases hr T hT X with ⟨v, st₀, t, T', L, h0, X', hL, e1, e2, hQ, -⟩ | ⟨q, st₀, t, T', L, E', ce, h0, X', hL, e1, e2, ⟨hE, ⟨ad', ha', hP1, hD1⟩, hF⟩, hce, hcv, hcl, st⟩
  · exact absurd hQ id
  · have hAc := xA (δ := δ) hD hS hA hsub h100
    have hz : H.size ≤ t.heap.size := by rw [← h0]; exact hF.1
    have hk : ∀ q : Nat, q < H.size → ¬ va_A (wl cI cL (fun i => ad (sg σ δ i)) hc) H.size q → t.heap[q]? = H[q]? := fun q h1 h2 => by
      have := hF.2 q (by rw [h0]; exact h1) h2
      rw [h0] at this
      exact this
    have hPn := xP hP hD hsub h100 hok ha' hP1 hk
    have hk2 := vx_out (p := p) (l := l) (e := e) (R := R) (s := s) (m := m) (args := args) (below := below) (meth := meth) (c := c) (H := t.heap) (locs := locs ++ L) (cells := kc + mc) (slots := ks + ms) (Qc := aNo) (XC := aXC E h D cI cL ad0 s.heap.size) (free := A) (pc := pc) (ls := ls) (rest := rest) (mc := MC) (ms := MS) (fun x hx => absurd (hnt x hx) id) hlk hce hcv hcl (fun t' ht' _ => by
        refine ⟨hE, ⟨ad, by rw [← hn0]; exact ha, by rw [ht']; exact hPn, by rw [← hAe]; exact hD⟩, ?_⟩
        rw [← hAe]
        refine ⟨by rw [ht']; exact Nat.le_trans hS.1 hz, fun q h1 h2 => ?_⟩
        rw [ht', hk q (Nat.lt_of_lt_of_le h1 hS.1) (fun z => h2 (hAc q z))]
        exact hS.2.1 q h1 h2) (fun z hz => by
        rcases List.mem_append.mp hz with h | h
        · exact hS.2.2 z h
        · exact hAc _ (hL z h)) hcs.1 hcs.2
    obtain ⟨t2, a1, b1⟩ := hk2 T' e1 X'
    exact ⟨t2, st.trans a1, b1⟩
end CX
set_option maxHeartbeats 1000000 in
theorem AW.callSX {G : aG} {M : aM} {tb : List (Nat × Instr)} {FT PT : List (Nat × Nat × Nat)} (hm : amok M tb FT PT) (i : Nat) {h hc : aH} {kc ks pc idx maxL n mc ms : Nat} {lv : aV} {as rest st : List Value} {y : MethodName} {b : ByteArray} {ret : Option FieldType} {rm R : Room} {E : String}
    (hc0 : AMetX y b maxL ret rm as hc E) (σ δ : List Nat) (hE : aEnX E h mc ms G) (hM : M.2.2.2 = h.length) (hy : yok y b maxL ret n) (hstat : Cond.static y ∈ kwl) (hlk : Cond.methodLink M.1 idx y ∈ kwl) (hn : as.length = n)
    (hi : tb[i]? = some (pc, .invokestatic idx)) (hst : st = (as.map (rv σ δ)).reverse ++ rest) (hcat : Nat.ble (rest.map fun v => v.category).sum 8 = true)
    (hR : aRm G = R) (hRR : rm.frames + 1 ≤ R.frames ∧ 8 + (maxL + 11) + rm.locals ≤ R.locals ∧ kc + rm.cells ≤ R.cells ∧ ks + rm.slots ≤ R.slots) (hcs : kc + rm.cells ≤ mc ∧ ks + rm.slots ≤ ms)
    (hsub : σ.map (fun i => h[i]?) = (hc.map (rE σ δ)).map some) (hnd : va_nd σ = true) (h100 : Nat.ble hc.length 100 = true) (hok : hc.all (okE hc.length) = true) : AW G M h kc ks pc lv st := by
  have hd := tb_at hm.1 i hi
  obtain ⟨p, l, e, R0, s, m, args, below, meth, c, Q, D, cI, cL, A, ad0, X⟩ := G
  have hR : R0 = R := hR
  subst hR; subst hst
  intro ok ad H locs ls ha hP hD hS hl
  obtain ⟨hx, hb, hml, hown, hkw, hK, hA, hX⟩ := id ok
  obtain ⟨hlk2, htr, hnt, hAe, hkx, hxS, hxZ, hQ⟩ := hE
  have h100 := Nat.le_of_ble_eq_true h100
  obtain ⟨hPc, hDc⟩ := sub_PD (δ := δ) hP hD hsub hnd h100
  have hws : ∀ w ∈ ([.code y b maxL ret] : List Cond), ∀ (a' : Array Value) (U : State), s.WarmedH U.vm → w.before a' U = true := fun w hw a' U hW => (kw.moved hW hkw).use w (by rw [List.mem_singleton.mp hw]; exact hy.1)
  have hpre : PreS s H (aPx as hc D cI cL (fun i => ad (sg σ δ i)) H.size) (as.map (ev (fun i => ad (sg σ δ i)))) := ⟨aPx_blind _ _ _ _ _ _ _, fun U hU hW => ⟨rfl, ⟨by rw [hU], by rw [hU]; exact hPc, va_K.moved hW.alike hK, hDc, kw.moved hW hkw⟩, kx.moved hW hkx, xS.moved hW hxS, by rw [hU]; exact xZ.moved hW.alike ((hxZ.kept hS.2.1).narrow (xA (δ := δ) hD hS hA hsub h100))⟩⟩
  have hstk : ((as.map (rv σ δ)).reverse ++ rest).map (ev ad) = (as.map (ev (fun i => ad (sg σ δ i)))).reverse ++ rest.map (ev ad) := by
    rw [List.map_append, List.map_reverse, evs_rv]
  have hcat2 : 2 * (F0 m pc ls (((as.map (rv σ δ)).reverse ++ rest).map (ev ad))).monitorRoom + ((rest.map (ev ad)).map fun v => v.category).sum ≤ 8 := lv_room (by rw [cats]; exact Nat.le_of_ble_eq_true hcat)
  have run := vx_runS (Ts := kwl) (own := M.1) (p := p) (l := l) (e := e) (R := R0) (s := s) (m := m) (args := args) (below := below) (meth := meth) (c := c) (H := H) (locs := locs) (cells := kc) (slots := ks) (g := F0 m pc ls (((as.map (rv σ δ)).reverse ++ rest).map (ev ad))) (rest := rest.map (ev ad)) ⟨hx, hb, hml, hown, hkw.use⟩ (hc0 l htr D cI cL (fun i => ad (sg σ δ i)) H.size) ⟨⟨rfl, rfl, hRR.1, hRR.2.1, hws, List.mem_singleton.mpr rfl, hkw.use _ hy.1, hkw.use _ hy.2.1, hy.2.2.1, yok_n hy, hkw.use _ hlk⟩, hkw.use _ hstat⟩ hpre rfl (by rw [List.length_map]; exact hn) hl.1 hstk hcat2 hd ⟨hRR.2.2.1, hRR.2.2.2⟩
  rw [hQ]
  exact xcore run hP hD hS hA hsub h100 hok hM ha hlk2 hnt hAe hcs
set_option maxHeartbeats 1000000 in
theorem AW.callVX {G : aG} {M : aM} {tb : List (Nat × Instr)} {FT PT : List (Nat × Nat × Nat)} (hm : amok M tb FT PT) (i : Nat) {h hc : aH} {kc ks pc idx maxL n mc ms : Nat} {lv : aV} {as rest st : List Value} {ci : Nat} {fs : List Value} {hcr : aH} {y : MethodName} {b : ByteArray} {ret : Option FieldType} {rm R : Room} {E : String}
    (hc0 : AMetX y b maxL ret rm (.ref 0 :: as) hc E) (hrec : hc = aO ci fs :: hcr) (hcl : (vwCl[ci]?).map (fun q => q.1) = some y.cls) (σ δ : List Nat) (hE : aEnX E h mc ms G) (hM : M.2.2.2 = h.length) (hy : yok y b maxL ret n) (hinst : Cond.instanceMethod y ∈ kwl) (hsel : Cond.selects y.cls y y ∈ kwl) (hlk : Cond.methodLink M.1 idx y ∈ kwl) (hn : as.length = n)
    (hi : tb[i]? = some (pc, .invokevirtual idx)) (hst : st = (as.map (rv σ δ)).reverse ++ .ref (sg σ δ 0) :: rest) (hcat : Nat.ble (rest.map fun v => v.category).sum 8 = true)
    (hR : aRm G = R) (hRR : rm.frames + 1 ≤ R.frames ∧ 8 + (maxL + 11) + rm.locals ≤ R.locals ∧ kc + rm.cells ≤ R.cells ∧ ks + rm.slots ≤ R.slots) (hcs : kc + rm.cells ≤ mc ∧ ks + rm.slots ≤ ms)
    (hsub : σ.map (fun i => h[i]?) = (hc.map (rE σ δ)).map some) (hnd : va_nd σ = true) (h100 : Nat.ble hc.length 100 = true) (hok : hc.all (okE hc.length) = true) : AW G M h kc ks pc lv st := by
  have hd := tb_at hm.1 i hi
  obtain ⟨p, l, e, R0, s, m, args, below, meth, c, Q, D, cI, cL, A, ad0, X⟩ := G
  have hR : R0 = R := hR
  subst hR; subst hst
  intro ok ad H locs ls ha hP hD hS hl
  obtain ⟨hx, hb, hml, hown, hkw, hK, hA, hX⟩ := id ok
  obtain ⟨hlk2, htr, hnt, hAe, hkx, hxS, hxZ, hQ⟩ := hE
  have h100 := Nat.le_of_ble_eq_true h100
  obtain ⟨hPc, hDc⟩ := sub_PD (δ := δ) hP hD hsub hnd h100
  have hws : ∀ w ∈ ([.code y b maxL ret] : List Cond), ∀ (a' : Array Value) (U : State), s.WarmedH U.vm → w.before a' U = true := fun w hw a' U hW => (kw.moved hW hkw).use w (by rw [List.mem_singleton.mp hw]; exact hy.1)
  obtain ⟨q, hq, hqc⟩ : ∃ q, vwCl[ci]? = some q ∧ q.1 = y.cls := by
    cases hh : vwCl[ci]? with
    | none => rw [hh] at hcl; cases hcl
    | some q => rw [hh] at hcl; exact ⟨q, rfl, Option.some.inj hcl⟩
  have hcell : ∃ cellB : Cell, H[ad (sg σ δ 0)]? = some cellB ∧ cellB.vm.isStatics = false ∧ s.vm.findClass y.cls = some cellB.cls := by
    have h0 : hc[0]? = some (aO ci fs) := by rw [hrec]; rfl
    have := va_recv (q0 := 0) hK hPc hq (by rw [wl_get h0]; rfl)
    rw [hqc] at this
    exact this
  have hpre : PreV s H y.cls (ad (sg σ δ 0)) (aPx (.ref 0 :: as) hc D cI cL (fun i => ad (sg σ δ i)) H.size) (as.map (ev (fun i => ad (sg σ δ i)))) := ⟨aPx_blind _ _ _ _ _ _ _, hcell, fun U hU hW => ⟨rfl, ⟨by rw [hU], by rw [hU]; exact hPc, va_K.moved hW.alike hK, hDc, kw.moved hW hkw⟩, kx.moved hW hkx, xS.moved hW hxS, by rw [hU]; exact xZ.moved hW.alike ((hxZ.kept hS.2.1).narrow (xA (δ := δ) hD hS hA hsub h100))⟩⟩
  have hstk : ((as.map (rv σ δ)).reverse ++ .ref (sg σ δ 0) :: rest).map (ev ad) = (as.map (ev (fun i => ad (sg σ δ i)))).reverse ++ .ref (ad (sg σ δ 0)) :: rest.map (ev ad) := by
    rw [List.map_append, List.map_reverse, evs_rv]
    rfl
  have hcat2 : 2 * (F0 m pc ls (((as.map (rv σ δ)).reverse ++ .ref (sg σ δ 0) :: rest).map (ev ad))).monitorRoom + ((rest.map (ev ad)).map fun v => v.category).sum ≤ 8 := lv_room (by rw [cats]; exact Nat.le_of_ble_eq_true hcat)
  have run := vx_runV (Ts := kwl) (own := M.1) (C := y.cls) (p := p) (l := l) (e := e) (R := R0) (s := s) (m := m) (args := args) (below := below) (meth := meth) (c := c) (H := H) (locs := locs) (cells := kc) (slots := ks) (g := F0 m pc ls (((as.map (rv σ δ)).reverse ++ .ref (sg σ δ 0) :: rest).map (ev ad))) (rest := rest.map (ev ad)) ⟨hx, hb, hml, hown, hkw.use⟩ (hc0 l htr D cI cL (fun i => ad (sg σ δ i)) H.size) ⟨⟨rfl, rfl, hRR.1, hRR.2.1, hws, List.mem_singleton.mpr rfl, hkw.use _ hy.1, hkw.use _ hy.2.1, hy.2.2.1, yok_n hy, hkw.use _ hlk⟩, hkw.use _ hinst, hkw.use _ hsel⟩ hpre rfl (by rw [List.length_map]; exact hn) hl.1 hstk hcat2 hd ⟨hRR.2.2.1, hRR.2.2.2⟩
  rw [hQ]
  exact xcore run hP hD hS hA hsub h100 hok hM ha hlk2 hnt hAe hcs
