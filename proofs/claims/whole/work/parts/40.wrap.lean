/-! ===== methods with handlers ===== -/
def xE : List String := [nI0, nA0, nS0]
def xN (U : State) : Prop := ∀ a ∈ xE, ∀ b ∈ xE, a ≠ b → va_Nc a b U
theorem xN.moved {s U : State} (hvm : s.vm.Alike U.vm) (h : xN s) : xN U := fun a ha b hb hab => va_Nc.moved hvm (h a ha b hb hab)
theorem Met_ofWH {l : Launch} {y : MethodName} {ws ws' : List Cond} {rm : Room} {Pc : Array Value → State → Prop} {Qc : Array Value → State → Outcome → State → Prop} {mc ms : Nat} {free : Addr → Prop} {cc : ByteArray} {maxL : Nat} {ret : Option FieldType} {hh : List (Nat × Nat × Nat × Nat)}
    (hy : plainName y.cls = true) (hw : ws = Cond.codeWith y cc maxL ret hh :: ws')
    (body : ∀ p e s m args below meth c s₁, BodyLoose p l y (headSpec ws rm) cc maxL ret e s m args below meth c s₁ → c.maxLocals = maxL → c.exceptionTable.toList = tableOf hh → Pc args s →
      W p l e (headSpec ws rm).room s m args below meth c s.heap [] 0 0 (MQ below Qc args s mc ms free) (entryFrame m args maxL)) : Met l y ws rm Pc Qc mc ms free := by
  refine MetFree.of_bodyS (code := cc) (maxLocals := maxL) (ret := ret) hy ?_ ?_
  · intro args s m h hn
    obtain ⟨m9, meth, c, hn9, h1, h2, h3, h4, -, h5, h6, -⟩ := Cond.codeWith_spec (atoms_spec (ws := ws) h _ (by rw [hw]; exact List.mem_cons_self))
    cases hn.symm.trans hn9
    exact ⟨meth, c, h1, h2, h3, h4, h5, h6⟩
  · intro p e s m args below meth c s₁ B hml hP _
    have hh0 : s₁.heap = s.heap := by rw [B.state]; rfl
    have ht := vx_table (x := y) B (atoms_spec (ws := ws) B.pre _ (by rw [hw]; exact List.mem_cons_self))
    obtain ⟨t, a1, o, b1, b2, b3⟩ := body p e s m args below meth c s₁ B hml ht hP s₁ hh0 (Stand.of_body B)
    exact ⟨t, o, a1, b1, b2, ⟨b3.1, b3.2⟩⟩
def aPw (as : List Value) (h : aH) (D : va_G) (cI cL : ClassId) (ad0 : Nat → Nat) (sz : Nat) : Array Value → State → Prop := va_Pc (as.map (ev ad0)) (fun U => (U.heap.size = sz ∧ va_P D vwCl (wl cI cL ad0 h) U.heap ∧ va_K D vwCl [(cI, .int), (cL, .long)] U ∧ va_D (fun _ => True) (wl cI cL ad0 h) ∧ kw U) ∧ kx U ∧ xS U ∧ xZ (va_A (wl cI cL ad0 h) sz) U U.heap ∧ xN U)
theorem aPw_blind (as : List Value) (h : aH) (D : va_G) (cI cL : ClassId) (ad0 : Nat → Nat) (sz : Nat) : FrameBlind (aPw as h D cI cL ad0 sz) := fun a U g mk q => by
  obtain ⟨q1, ⟨q2, q3, q4, q5, q6⟩, q7, q8, q9, qa⟩ := q
  exact ⟨q1, ⟨q2, q3, va_K.moved (u := U) (U := U.calling g mk a) (Vm.Alike.refl U.vm) q4, q5, kw.moved (s := U) (U := U.calling g mk a) (State.WarmedH.refl U) q6⟩, kx.moved (s := U) (U := U.calling g mk a) (State.WarmedH.refl U) q7, xS.moved (s := U) (U := U.calling g mk a) (State.WarmedH.refl U) q8, xZ.moved (u := U) (U := U.calling g mk a) (Vm.Alike.refl U.vm) q9, xN.moved (s := U) (U := U.calling g mk a) (Vm.Alike.refl U.vm) qa⟩
/-- the contract of a method that catches: it answers r and leaves h2 -/
def AMetW (y : MethodName) (b : ByteArray) (maxL : Nat) (ret : Option FieldType) (hh : List (Nat × Nat × Nat × Nat)) (rm : Room) (as : List Value) (h : aH) (r : Option Value) (h' : aH) : Prop :=
  ∀ (l : Launch), l.stackTraces = false → ∀ (D : va_G) (cI cL : ClassId) (ad0 : Nat → Nat) (sz : Nat), Met l y [.codeWith y b maxL ret hh] rm (aPw as h D cI cL ad0 sz) (aQc r h h' D cI cL ad0 sz) rm.cells rm.slots (va_A (wl cI cL ad0 h) sz)
/-- what the throw layer asks of a walk -/
def aEx (hh : List (Nat × Nat × Nat × Nat)) : aG → Prop
  | (_, l, _, _, s, _, _, _, _, c, _, _, _, _, A, _, _) => l.stackTraces = false ∧ c.exceptionTable.toList = tableOf hh ∧ kx s ∧ xS s ∧ xZ A s s.heap ∧ xN s
set_option maxHeartbeats 1000000 in
theorem AMetW.of {y : MethodName} {b : ByteArray} {maxL : Nat} {ret : Option FieldType} {hh : List (Nat × Nat × Nat × Nat)} {rm : Room} {as : List Value} {h h' : aH} {r : Option Value} (hy : plainName y.cls = true) (hlen : Nat.ble (lg_sl as).length maxL = true)
    (body : ∀ G : aG, aRm G = rm → aEnd ret r h h' rm.cells rm.slots G → aEx hh G → AW G (y.cls, b, maxL, h.length) h 0 0 0 (lv_args 0 as) []) : AMetW y b maxL ret hh rm as h r h' := by
  intro l htr D cI cL ad0 sz
  refine Met_ofWH (cc := b) (maxL := maxL) (ret := ret) (hh := hh) hy rfl ?_
  intro p e s m args below meth c s₁ B hml hnt hv
  obtain ⟨rfl, ⟨hsz, hP, hK, hD0, hkw⟩, hkx, hxS, hxZ, hxN⟩ := hv
  have hown : s.vm.findClass y.cls = some m.cls := findClass_of_methodNamed B.named
  subst hsz
  have hl := lv_entry (as.map (ev ad0)) (n := maxL) (by rw [lg_sl_len]; exact Nat.le_of_ble_eq_true hlen)
  rw [lg_entry_eq]
  generalize (lg_sl (as.map (ev ad0)) ++ List.replicate (maxL - (lg_sl (as.map (ev ad0))).length) Slot.unset).toArray = ls at hl ⊢
  rw [lv_args_el] at hl
  have k := body (p, l, e, rm, s, m, (as.map (ev ad0)).toArray, below, meth, c, MQ below (aQc r h h' D cI cL ad0 s.heap.size) (as.map (ev ad0)).toArray s rm.cells rm.slots (va_A (wl cI cL ad0 h) s.heap.size), D, cI, cL, va_A (wl cI cL ad0 h) s.heap.size, ad0, none) rfl
    ⟨B.returns, B.notSynchronized, rfl, fun _ _ _ _ _ z => z⟩ ⟨htr, hnt, hkx, hxS, hxZ, hxN⟩
    ⟨B.exec, B.bytes, hml, hown, hkw, hK, fun q hq => Or.inr hq, fun _ _ _ z => by cases z⟩
  exact k ad0 s.heap [] ls (fun _ _ => rfl) hP hD0.self va_S.rf hl
theorem el_drop {ad : Nat → Nat} {i : Nat} {lv : aV} : (el ad lv).filter (fun q => !(q.1 == i) && !(q.1 + 1 == i && q.2.category == 2)) = el ad (lv.filter (fun q => !(q.1 == i) && !(q.1 + 1 == i && q.2.category == 2))) := (List.cons.inj (el_stl (ad := ad) (i := i) (v := .int 0) (lv := lv))).2
def isAst (i : Nat) : Instr → Bool
  | .astore j => Nat.beq j i
  | .astore_n k => Nat.beq k i
  | _ => false

set_option maxHeartbeats 2000000 in
/-- a call that throws E, caught here -/
theorem AW.callVE {G : aG} {M : aM} {tb : List (Nat × Instr)} {FT PT : List (Nat × Nat × Nat)} (hm : amok M tb FT PT) (i : Nat) {h hc : aH} {kc ks pc idx maxL n : Nat} {lv lv' : aV} {as rest st : List Value} {ci : Nat} {fs : List Value} {hcr : aH} {y : MethodName} {b : ByteArray} {ret : Option FieldType} {rm R : Room} {E : String}
    {hh suf : List (Nat × Nat × Nat × Nat)} (pre : List ((Nat × Nat × Nat × Nat) × String)) {ha0 hb0 hpc hct jl j il : Nat} {ji : Instr}
    (hc0 : AMetX y b maxL ret rm (.ref 0 :: as) hc E) (hrec : hc = aO ci fs :: hcr) (hcl : (vwCl[ci]?).map (fun q => q.1) = some y.cls) (σ δ : List Nat) (hE : aEx hh G) (hy : yok y b maxL ret n) (hinst : Cond.instanceMethod y ∈ kwl) (hsel : Cond.selects y.cls y y ∈ kwl) (hlk : Cond.methodLink M.1 idx y ∈ kwl) (hn : as.length = n)
    (hi : tb[i]? = some (pc, .invokevirtual idx)) (hst : st = (as.map (rv σ δ)).reverse ++ .ref (sg σ δ 0) :: rest) (hcat : Nat.ble (rest.map fun v => v.category).sum 8 = true)
    (hR : aRm G = R) (hRR : rm.frames + 1 ≤ R.frames ∧ 8 + (maxL + 11) + rm.locals ≤ R.locals ∧ kc + rm.cells ≤ R.cells ∧ ks + rm.slots ≤ R.slots)
    (hsub : σ.map (fun i => h[i]?) = (hc.map (rE σ δ)).map some) (hnd : va_nd σ = true) (h100 : Nat.ble hc.length 100 = true) (hok : hc.all (okE hc.length) = true)
    (hsp : hh = pre.map (fun q => q.1) ++ (ha0, hb0, hpc, hct) :: suf) (hEE : E ∈ xE) (hpre : ∀ z ∈ pre, z.1.2.2.2 ≠ 0 ∧ Cond.classLink M.1 z.1.2.2.2 z.2 ∈ kxl ∧ z.2 ∈ xE ∧ E ≠ z.2)
    (hcov : ha0 ≤ pc ∧ pc < hb0) (hct0 : hct ≠ 0) (hctl : Cond.classLink M.1 hct E ∈ kxl) (hcast : Cond.castable E E ∈ kxl)
    (hj : tb[j]? = some (hpc, ji)) (hast : isAst il ji = true) (hil : Nat.blt il M.2.2.1 = true) (hlv : lv.filter (fun q => !(q.1 == il) && !(q.1 + 1 == il && q.2.category == 2)) = lv') (hpl : hpc + ilen ji = jl)
    (k : AW G M h (kc + rm.cells) (ks + rm.slots) jl lv' []) : AW G M h kc ks pc lv st := by
  have hd := tb_at hm.1 i hi
  have hdj := tb_at hm.1 j hj
  obtain ⟨p, l, e, R0, s, m, args, below, meth, c, Q, D, cI, cL, A, ad0, X⟩ := G
  have hR : R0 = R := hR
  subst hR; subst hst; subst hlv; subst hpl
  intro ok ad H locs ls ha hP hD hS hl
  obtain ⟨hx, hb, hml, hown, hkw, hK, hA, hX⟩ := id ok
  obtain ⟨htr, hnt, hkx, hxS, hxZ, hxN⟩ := hE
  have h100 := Nat.le_of_ble_eq_true h100
  obtain ⟨hPc, hDc⟩ := sub_PD (δ := δ) hP hD hsub hnd h100
  have hws : ∀ w ∈ ([.code y b maxL ret] : List Cond), ∀ (a' : Array Value) (U : State), s.WarmedH U.vm → w.before a' U = true := fun w hw a' U hW => (kw.moved hW hkw).use w (by rw [List.mem_singleton.mp hw]; exact hy.1)
  obtain ⟨q, hq, hqc⟩ : ∃ q, vwCl[ci]? = some q ∧ q.1 = y.cls := by
    cases hh : vwCl[ci]? with
    | none => rw [hh] at hcl; cases hcl
    | some q => rw [hh] at hcl; exact ⟨q, rfl, Option.some.inj hcl⟩
  have hcell : ∃ cellB : Cell, H[ad (sg σ δ 0)]? = some cellB ∧ cellB.vm.isStatics = false ∧ s.vm.findClass y.cls = some cellB.cls := by
    have h0 : hc[0]? = some (aO ci fs) := by rw [hrec]; rfl
    have := va_recv (q0 := 0) hK hPc hq (by rw [wl_get h0]; rfl)
    rw [hqc] at this
    exact this
  have hpreV : PreV s H y.cls (ad (sg σ δ 0)) (aPx (.ref 0 :: as) hc D cI cL (fun i => ad (sg σ δ i)) H.size) (as.map (ev (fun i => ad (sg σ δ i)))) := ⟨aPx_blind _ _ _ _ _ _ _, hcell, fun U hU hW => ⟨rfl, ⟨by rw [hU], by rw [hU]; exact hPc, va_K.moved hW.alike hK, hDc, kw.moved hW hkw⟩, kx.moved hW hkx, xS.moved hW hxS, by rw [hU]; exact xZ.moved hW.alike ((hxZ.kept hS.2.1).narrow (xA (δ := δ) hD hS hA hsub h100))⟩⟩
  have hstk : ((as.map (rv σ δ)).reverse ++ .ref (sg σ δ 0) :: rest).map (ev ad) = (as.map (ev (fun i => ad (sg σ δ i)))).reverse ++ .ref (ad (sg σ δ 0)) :: rest.map (ev ad) := by
    rw [List.map_append, List.map_reverse, evs_rv]
    rfl
  have hcat2 : 2 * (F0 m pc ls (((as.map (rv σ δ)).reverse ++ .ref (sg σ δ 0) :: rest).map (ev ad))).monitorRoom + ((rest.map (ev ad)).map fun v => v.category).sum ≤ 8 := lv_room (by rw [cats]; exact Nat.le_of_ble_eq_true hcat)
  have run := vx_runV (Ts := kwl) (own := M.1) (C := y.cls) (p := p) (l := l) (e := e) (R := R0) (s := s) (m := m) (args := args) (below := below) (meth := meth) (c := c) (H := H) (locs := locs) (cells := kc) (slots := ks) (g := F0 m pc ls (((as.map (rv σ δ)).reverse ++ .ref (sg σ δ 0) :: rest).map (ev ad))) (rest := rest.map (ev ad)) ⟨hx, hb, hml, hown, hkw.use⟩ (hc0 l htr D cI cL (fun i => ad (sg σ δ i)) H.size) ⟨⟨rfl, rfl, hRR.1, hRR.2.1, hws, List.mem_singleton.mpr rfl, hkw.use _ hy.1, hkw.use _ hy.2.1, hy.2.2.1, yok_n hy, hkw.use _ hlk⟩, hkw.use _ hinst, hkw.use _ hsel⟩ hpreV rfl (by rw [List.length_map]; exact hn) hl.1 hstk hcat2 hd ⟨hRR.2.2.1, hRR.2.2.2⟩
  intro T hT XX
  rcases run T hT XX with ⟨v, st₀, t, T', L, h0, X', hL, e1, e2, hQ, -⟩ | ⟨q, st₀, t, T', L, E', ce, h0, X', hL, e1, e2, ⟨hE', ⟨ad', ha', hP1, hD1⟩, hF⟩, hce, hcv, hcl, st⟩
  · exact absurd hQ id
  · subst hE'
    have hAc := xA (δ := δ) hD hS hA hsub h100
    have hz : H.size ≤ t.heap.size := by rw [← h0]; exact hF.1
    have hk : ∀ q : Nat, q < H.size → ¬ va_A (wl cI cL (fun i => ad (sg σ δ i)) hc) H.size q → t.heap[q]? = H[q]? := fun q h1 h2 => by
      have := hF.2 q (by rw [h0]; exact h1) h2
      rw [h0] at this
      exact this
    have hPn := xP hP hD hsub h100 hok ha' hP1 hk
    have hSn : va_S A s.heap t.heap (locs ++ L) := ⟨Nat.le_trans hS.1 hz, fun q h1 h2 => by
      rw [hk q (Nat.lt_of_lt_of_le h1 hS.1) (fun z => h2 (hAc q z))]
      exact hS.2.1 q h1 h2, fun z hz => by
        rcases List.mem_append.mp hz with h | h
        · exact hS.2.2 z h
        · exact hAc _ (hL z h)⟩
    have hend : ∀ ls' : Array Slot, lv_has ls' M.2.2.1 ((il, Value.ref q) :: (el ad lv).filter (fun q => !(q.1 == il) && !(q.1 + 1 == il && q.2.category == 2))) → W p l e R0 s m args below meth c t.heap (locs ++ L) (kc + rm.cells) (ks + rm.slots) Q (F0 m (hpc + ilen ji) ls' []) := by
      intro ls' hl'
      refine k ok ad t.heap (locs ++ L) ls' ha hPn hD hSn ⟨hl'.1, hl'.2.1, fun q hq => hl'.2.2 q ?_⟩
      rw [el_drop]
      exact List.mem_cons_of_mem _ hq
    have hw : W p l e R0 s m args below meth c t.heap (locs ++ L) (kc + rm.cells) (ks + rm.slots) Q (F0 m hpc ls [.ref q]) := by
      cases ji with
      | astore w =>
        have hw : w = il := Nat.eq_of_beq_eq_true hast
        subst hw
        exact lv_astore hx hb hdj hl (Nat.le_of_ble_eq_true hil) rfl hend
      | astore_n w =>
        have hw : (w : Nat) = il := Nat.eq_of_beq_eq_true hast
        exact lv_astore_n hx hb hdj hw hl (Nat.le_of_ble_eq_true hil) rfl hend
      | _ => exact absurd hast (by simp [isAst])
    have hcatch := vx_catch (p := p) (l := l) (e := e) (R := R0) (s := s) (m := m) (args := args) (below := below) (meth := meth) (c := c) (H := t.heap) (locs := locs ++ L) (cells := kc + rm.cells) (slots := ks + rm.slots) (Q := Q) (pc := pc) (ls := ls) (rest := rest.map (ev ad)) (own := M.1) (name := E') (E := E') (ce := ce) (q := q) hown (tableOf (pre.map (fun q => q.1))) ⟨ha0, hb0, hpc, hct⟩ (tableOf suf) (by rw [hnt, hsp]; simp [tableOf]) (fun z hz => by
      right
      obtain ⟨w, hw, rfl⟩ := List.mem_map.mp hz
      obtain ⟨u, hu, rfl⟩ := List.mem_map.mp hw
      obtain ⟨h1, h2, h3, h4⟩ := hpre u hu
      exact ⟨h1, u.2, hkx.use _ h2, hxN _ hEE _ h3 h4⟩) (by simp [covers, hcov.1, hcov.2]) hct0 (hkx.use _ hctl) (hkx.use _ hcast) hce hcv hcl hw
    obtain ⟨t2, a1, b1⟩ := hcatch T' e1 X'
    exact ⟨t2, st.trans a1, b1⟩
