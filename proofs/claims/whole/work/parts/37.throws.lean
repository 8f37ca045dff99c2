/-! ===== methods that throw, over places ===== -/
def isC : Cond → Bool
  | .castable _ _ => true
  | .declares _ => true
  | _ => false
def kxl : List Cond := lw_tbl.filter (fun w => goodWord w || isC w)
def kx (U : State) : Prop := ∀ w ∈ kxl, w.before #[] U = true
theorem kx_one {args args' : Array Value} {s U : State} (hW : s.WarmedH U.vm) {w : Cond} (hg : (goodWord w || isC w) = true) (h : w.before args s = true) : w.before args' U = true := by
  rcases Bool.or_eq_true _ _ ▸ hg with h1 | h1
  · exact word_at hW (good_of_word h1) h
  · cases w with
    | castable a b => exact va_Nw.use rfl (va_Nw.warmC hW (va_Nw.of rfl h))
    | declares x => exact va_tabs rfl (rfl : (s.setVm U.vm).vm = U.vm) (by rw [Cond.declares_setVm hW.alike]; exact h)
    | _ => exact absurd h1 (by simp [isC])
theorem kx.moved {s U : State} (hW : s.WarmedH U.vm) (h : kx s) : kx U := fun w hw => kx_one hW (List.mem_filter.mp hw).2 (h w hw)
theorem kx.use {args : Array Value} {s : State} (h : kx s) : ∀ w ∈ kxl, w.before args s = true := fun w hw => kx_one (State.WarmedH.refl s) (List.mem_filter.mp hw).2 (h w hw)
theorem kx.of {args : Array Value} {s : State} (h : ∀ w ∈ lw_tbl, w.before args s = true) : kx s := fun w hw => kx_one (State.WarmedH.refl s) (List.mem_filter.mp hw).2 (h w (List.mem_filter.mp hw).1)
def xst : List (Nat × String) := [(141, "a crossing is 0 to 8"), (146, "there is no such sweeper"), (148, "nothing is told under this number"), (150, "quarters are 1 to 96"), (29, "carriages are 0 to 9"), (34, "walkers are 0 to 30"), (44, "a quarter of the table is 0 to 7"), (47, "rain is 0 to 9"), (52, "mud to be thrown is 1 to 50"), (61, "strength is 1 to 9"), (69, "there are 8 sweepers"), (88, "a broom costs 5 pence")]
def xS (U : State) : Prop := ∀ w ∈ xst, ∃ sa, vk_R "MudSweepers" w.1 w.2 sa U
theorem xS.moved {s U : State} (hW : s.WarmedH U.vm) (h : xS s) : xS U := fun w hw => by
  obtain ⟨sa, z⟩ := h w hw
  exact ⟨sa, vk_R.warm hW z⟩
def xZ (A : Nat → Prop) (U : State) (H : Heap) : Prop := vx_Zq Bundle.tN "UNASSIGNED_STACK" Bundle.steD A U H ∧ vx_Zq Bundle.tN "SUPPRESSED_SENTINEL" Bundle.listD A U H
theorem xZ.moved {A : Nat → Prop} {u U : State} {H : Heap} (hvm : u.vm.Alike U.vm) (h : xZ A u H) : xZ A U H := ⟨vx_Zq.moved hvm h.1, vx_Zq.moved hvm h.2⟩
theorem xZ.kept {A : Nat → Prop} {U : State} {H H1 : Heap} (h : xZ A U H) (hq : ∀ a : Nat, a < H.size → ¬ A a → H1[a]? = H[a]?) : xZ A U H1 := ⟨vx_Zq.kept h.1 hq, vx_Zq.kept h.2 hq⟩
theorem xZ.narrow {A B : Nat → Prop} {U : State} {H : Heap} (h : xZ A U H) (hAB : ∀ q, B q → A q) : xZ B U H := ⟨vx_Zq.narrow h.1 hAB, vx_Zq.narrow h.2 hAB⟩
def aPx (as : List Value) (h : aH) (D : va_G) (cI cL : ClassId) (ad0 : Nat → Nat) (sz : Nat) : Array Value → State → Prop := va_Pc (as.map (ev ad0)) (fun U => (U.heap.size = sz ∧ va_P D vwCl (wl cI cL ad0 h) U.heap ∧ va_K D vwCl [(cI, .int), (cL, .long)] U ∧ va_D (fun _ => True) (wl cI cL ad0 h) ∧ kw U) ∧ kx U ∧ xS U ∧ xZ (va_A (wl cI cL ad0 h) sz) U U.heap)
theorem aPx_blind (as : List Value) (h : aH) (D : va_G) (cI cL : ClassId) (ad0 : Nat → Nat) (sz : Nat) : FrameBlind (aPx as h D cI cL ad0 sz) := fun a U g mk q => by
  obtain ⟨q1, ⟨q2, q3, q4, q5, q6⟩, q7, q8, q9⟩ := q
  exact ⟨q1, ⟨q2, q3, va_K.moved (u := U) (U := U.calling g mk a) (Vm.Alike.refl U.vm) q4, q5, kw.moved (s := U) (U := U.calling g mk a) (State.WarmedH.refl U) q6⟩, kx.moved (s := U) (U := U.calling g mk a) (State.WarmedH.refl U) q7, xS.moved (s := U) (U := U.calling g mk a) (State.WarmedH.refl U) q8, xZ.moved (u := U) (U := U.calling g mk a) (Vm.Alike.refl U.vm) q9⟩
def aXC (E : String) (h : aH) (D : va_G) (cI cL : ClassId) (ad0 : Nat → Nat) (sz : Nat) : String → State → State → Prop := fun E' st t =>
  E' = E ∧ (∃ ad' : Nat → Nat, (∀ i, i < h.length ∨ 100 ≤ i → ad' i = ad0 i) ∧ va_P D vwCl (wl cI cL ad' h) t.heap ∧ va_D (va_A (wl cI cL ad0 h) sz) (wl cI cL ad' h)) ∧ va_F (va_A (wl cI cL ad0 h) sz) st t
def aNo : Array Value → State → Outcome → State → Prop := fun _ _ _ _ => False
/-- THE CONTRACT OF A THROW: over a heap that holds h, with these arguments, y throws an E and leaves h -/
def AMetX (y : MethodName) (b : ByteArray) (maxL : Nat) (ret : Option FieldType) (rm : Room) (as : List Value) (h : aH) (E : String) : Prop :=
  ∀ (l : Launch), l.stackTraces = false → ∀ (D : va_G) (cI cL : ClassId) (ad0 : Nat → Nat) (sz : Nat), vx_Met l y [.code y b maxL ret] rm (aPx as h D cI cL ad0 sz) aNo (aXC E h D cI cL ad0 sz) rm.cells rm.slots (va_A (wl cI cL ad0 h) sz)
def aEnX (E : String) (h0 : aH) (mc ms : Nat) : aG → Prop
  | (_, l, _, _, s, _, args, below, meth, c, Q, D, cI, cL, A, ad0, _) => meth.locks = false ∧ l.stackTraces = false ∧ (∀ x ∈ c.exceptionTable.toList, False) ∧ A = va_A (wl cI cL ad0 h0) s.heap.size ∧ kx s ∧ xS s ∧ xZ A s s.heap ∧ Q = vx_MQ below aNo (aXC E h0 D cI cL ad0 s.heap.size) args s mc ms A
set_option maxHeartbeats 1000000 in
theorem AMetX.of {y : MethodName} {b : ByteArray} {maxL : Nat} {ret : Option FieldType} {rm : Room} {as : List Value} {h : aH} {E : String} (hy : plainName y.cls = true) (hlen : Nat.ble (lg_sl as).length maxL = true)
    (body : ∀ G : aG, aRm G = rm → aEnX E h rm.cells rm.slots G → AW G (y.cls, b, maxL, h.length) h 0 0 0 (lv_args 0 as) []) : AMetX y b maxL ret rm as h E := by
  intro l htr D cI cL ad0 sz
  refine vx_ofW (cc := b) (maxL := maxL) (ret := ret) hy rfl ?_
  intro p e s m args below meth c s₁ B hml hnt hv
  obtain ⟨rfl, ⟨hsz, hP, hK, hD0, hkw⟩, hkx, hxS, hxZ⟩ := hv
  have hown : s.vm.findClass y.cls = some m.cls := findClass_of_methodNamed B.named
  subst hsz
  have hl := lv_entry (as.map (ev ad0)) (n := maxL) (by rw [lg_sl_len]; exact Nat.le_of_ble_eq_true hlen)
  rw [lg_entry_eq]
  generalize (lg_sl (as.map (ev ad0)) ++ List.replicate (maxL - (lg_sl (as.map (ev ad0))).length) Slot.unset).toArray = ls at hl ⊢
  rw [lv_args_el] at hl
  have k := body (p, l, e, rm, s, m, (as.map (ev ad0)).toArray, below, meth, c, vx_MQ below aNo (aXC E h D cI cL ad0 s.heap.size) (as.map (ev ad0)).toArray s rm.cells rm.slots (va_A (wl cI cL ad0 h) s.heap.size), D, cI, cL, va_A (wl cI cL ad0 h) s.heap.size, ad0, none) rfl
    ⟨B.notSynchronized, htr, hnt, rfl, hkx, hxS, hxZ, rfl⟩
    ⟨B.exec, B.bytes, hml, hown, hkw, hK, fun q hq => Or.inr hq, fun _ _ _ z => by cases z⟩
  exact k ad0 s.heap [] ls (fun _ _ => rfl) hP hD0.self va_S.rf hl
theorem P_kept {D : va_G} {cI cL : ClassId} {ad : Nat → Nat} {h : aH} {H H1 : Heap} (hP : va_P D vwCl (wl cI cL ad h) H) (hq : ∀ q : Nat, q < H.size → H1[q]? = H[q]?) : va_P D vwCl (wl cI cL ad h) H1 := fun k q hk => by
  have h1 := hP k q hk
  exact h1.kept (hq _ h1.lt)
set_option maxHeartbeats 1000000 in
/-- throw new E(text) -/
theorem AW.throwS {G : aG} {M : aM} {tb : List (Nat × Instr)} {FT PT : List (Nat × Nat × Nat)} (hm : amok M tb FT PT) (n : Nat) {h : aH} {kc ks pc mc ms ik is ic : Nat} {lv : aV} {st : List Value} {E text : String} {names : List String} {R : Room}
    (hE : aEnX E h mc ms G) (hM : M.2.2.2 = h.length) (hown0 : M.1 = "MudSweepers") (hcls : Bundle.fit E = true) (hnames : ∀ n ∈ names, Bundle.fit n = true) (hk : Cond.classLink "MudSweepers" ik E ∈ kxl) (hini : Cond.initialized E ∈ kxl) (hat : ∀ w ∈ vx_atS "MudSweepers" ic E names, w ∈ kxl)
    (hgood : ∀ w ∈ Cond.classLink "MudSweepers" ik E :: Cond.initialized E :: vx_atS "MudSweepers" ic E names, vx_ot w = true) (hstr : (is, text) ∈ xst)
    (d0 : tb[n]? = some (pc, .new ik)) (d3 : tb[n + 1]? = some (pc + 3, .dup)) (d4 : tb[n + 2]? = some (pc + 4, .ldc is)) (d6 : tb[n + 3]? = some (pc + 6, .invokespecial ic)) (d9 : tb[n + 4]? = some (pc + 9, .athrow))
    (hR : aRm G = R) (hRR : names.length + 3 < R.frames ∧ (st.map fun v => v.category).sum + (13 * (names.length + 1) + 43) ≤ R.locals ∧ kc + 1 ≤ R.cells ∧ ks + 6 ≤ R.slots) (hcs : kc + 1 ≤ mc ∧ ks + 6 ≤ ms) : AW G M h kc ks pc lv st := by
  have e0 := tb_at hm.1 n d0
  have e3 := tb_at hm.1 _ d3
  have e4 := tb_at hm.1 _ d4
  have e6 := tb_at hm.1 _ d6
  have e9 := tb_at hm.1 _ d9
  obtain ⟨p, l, e, R0, s, m, args, below, meth, c, Q, D, cI, cL, A, ad0, X⟩ := G
  have hR : R0 = R := hR
  subst hR
  intro ok ad H locs ls ha hP hD hS hl
  obtain ⟨hx, hb, hml, hown, hkw, hK, hA, hX⟩ := id ok
  obtain ⟨hlk, htr, hnt, hAe, hkx, hxS, hxZ, hQ⟩ := hE
  obtain ⟨sa, hsa⟩ := hxS _ hstr
  rw [hM] at ha
  rw [hown0] at hown
  rw [hQ]
  refine vx_throwS (own := "MudSweepers") (rest := st.map (ev ad)) hx hb htr hown hcls hnames (hkx.use _ hk) (hkx.use _ hini) hsa (fun w hw => hkx.use _ (hat w hw)) hgood hxZ.1 hxZ.2 hS (by rw [hl.1, hml]) e0 e3 e4 e6 e9 (fun x hx => absurd (hnt x hx) id) hRR.1 (by rw [cats]; exact hRR.2.1) hRR.2.2.1 hRR.2.2.2 hlk (fun t _ hz hq => ?_) hS.2.2 hcs.1 hcs.2
  refine ⟨rfl, ⟨ad, ha, P_kept hP hq, by rw [← hAe]; exact hD⟩, ?_⟩
  rw [← hAe]
  exact ⟨Nat.le_trans hS.1 hz, fun q h1 h2 => by rw [hq q (Nat.lt_of_lt_of_le h1 hS.1)]; exact hS.2.1 q h1 h2⟩
