/-! ===== a call of a method that catches ===== -/
set_option maxHeartbeats 1000000 in
theorem AW.callSW {G : aG} {M : aM} {tb : List (Nat × Instr)} {FT PT : List (Nat × Nat × Nat)} (hm : amok M tb FT PT) (i : Nat) {h hc hc' h1 : aH} {kc ks pc idx maxL n : Nat} {lv : aV} {as rest st st' : List Value} {y : MethodName} {b : ByteArray} {ret : Option FieldType} {hh hg : List (Nat × Nat × Nat × Nat)} {rm R : Room} {r : Option Value}
    (hc0 : AMetW y b maxL ret hh rm as hc r hc') (σ δ : List Nat) (hE : aEx hg G) (hcode : Cond.codeWith y b maxL ret hh ∈ kwl) (hini : Cond.initialized y.cls ∈ kwl) (hny : y.cls ≠ "java/lang/invoke/MethodHandle" ∧ y.cls ≠ "java/lang/invoke/VarHandle") (hsig : (parseMethodDescriptor y.desc).map (fun d => d.parameters.length) = some n) (hstat : Cond.static y ∈ kwl) (hlk : Cond.methodLink M.1 idx y ∈ kwl) (hn : as.length = n)
    (hi : tb[i]? = some (pc, .invokestatic idx)) (hst : st = (as.map (rv σ δ)).reverse ++ rest) (hcat : Nat.ble (rest.map fun v => v.category).sum 8 = true)
    (hR : aRm G = R) (hRR : rm.frames + 1 ≤ R.frames ∧ 8 + (maxL + 11) + rm.locals ≤ R.locals ∧ kc + rm.cells ≤ R.cells ∧ ks + rm.slots ≤ R.slots)
    (hsub : σ.map (fun i => h[i]?) = (hc.map (rE σ δ)).map some) (hnd : va_nd σ = true) (hlen : hc'.length = hc.length) (h100 : Nat.ble hc.length 100 = true) (hok : hc'.all (okE hc.length) = true) (hr0 : ∀ ad, r.map (ev ad) = r)
    (hh1 : putb σ (hc'.map (rE σ δ)) h = h1) (hst' : r.toList ++ rest = st') (k : AW G M h1 (kc + rm.cells) (ks + rm.slots) (pc + 3) lv st') : AW G M h kc ks pc lv st := by
  have hd := tb_at hm.1 i hi
  obtain ⟨p, l, e, R0, s, m, args, below, meth, c, Q, D, cI, cL, A, ad0, X⟩ := G
  have hR : R0 = R := hR
  subst hR; subst hh1; subst hst'; subst hst
  intro ok ad H locs ls ha hP hD hS hl
  obtain ⟨hx, hb, hml, hown, hkw, hK, hA, hX⟩ := id ok
  obtain ⟨htr, hnt, hkx, hxS, hxZ, hxN⟩ := hE
  have h100 := Nat.le_of_ble_eq_true h100
  obtain ⟨hPc, hDc⟩ := sub_PD (δ := δ) hP hD hsub hnd h100
  have hws : ∀ w ∈ ([.codeWith y b maxL ret hh] : List Cond), ∀ (a' : Array Value) (U : State), s.WarmedH U.vm → w.before a' U = true := fun w hw a' U hW => (kw.moved hW hkw).use w (by rw [List.mem_singleton.mp hw]; exact hcode)
  have hpre : PreS s H (aPw as hc D cI cL (fun i => ad (sg σ δ i)) H.size) (as.map (ev (fun i => ad (sg σ δ i)))) := ⟨aPw_blind _ _ _ _ _ _ _, fun U hU hW => ⟨rfl, ⟨by rw [hU], by rw [hU]; exact hPc, va_K.moved hW.alike hK, hDc, kw.moved hW hkw⟩, kx.moved hW hkx, xS.moved hW hxS, by rw [hU]; exact xZ.moved hW.alike ((hxZ.kept hS.2.1).narrow (xA (δ := δ) hD hS hA hsub h100)), xN.moved hW.alike hxN⟩⟩
  have hstk : ((as.map (rv σ δ)).reverse ++ rest).map (ev ad) = (as.map (ev (fun i => ad (sg σ δ i)))).reverse ++ rest.map (ev ad) := by
    rw [List.map_append, List.map_reverse, evs_rv]
  have hcat2 : 2 * (F0 m pc ls (((as.map (rv σ δ)).reverse ++ rest).map (ev ad))).monitorRoom + ((rest.map (ev ad)).map fun v => v.category).sum ≤ 8 := lv_room (by rw [cats]; exact Nat.le_of_ble_eq_true hcat)
  have run : va_Run p l e R0 s m args below meth c H locs kc ks rm.cells rm.slots (F0 m pc ls (((as.map (rv σ δ)).reverse ++ rest).map (ev ad))) (rest.map (ev ad)) (aQc r hc hc' D cI cL (fun i => ad (sg σ δ i)) H.size (as.map (ev (fun i => ad (sg σ δ i)))).toArray) (va_A (wl cI cL (fun i => ad (sg σ δ i)) hc) H.size) :=
    vx_runSW (Ts := kwl) (own := M.1) (n := n) (hh := hh) ⟨hx, hb, hml, hown, hkw.use⟩ (hc0 l htr D cI cL _ H.size) ⟨⟨rfl, rfl, hRR.1, hRR.2.1, hws, List.mem_singleton.mpr rfl⟩, hkw.use _ hcode, hkw.use _ hini, hny, fun sig hs => by
      rw [hs] at hsig
      exact (Option.some.inj hsig).symm, hkw.use _ hlk, hkw.use _ hstat⟩ hpre rfl (by rw [List.length_map]; exact hn) hl.1 hstk hcat2 hd ⟨hRR.2.2.1, hRR.2.2.2⟩
  refine call_core run hP hD hS hA hsub hnd hlen h100 hok (fun H1 locs1 hP hD hS => ?_)
  have k2 := k ok ad H1 locs1 ls ha hP hD hS hl
  rw [List.map_append] at k2
  have hr1 : r.toList.map (ev ad) = r.toList := by
    have := hr0 ad
    cases r with
    | none => rfl
    | some v => simpa using this
  rw [hr1] at k2
  exact k2
