/-! ===== calls: the callee's places σ among the caller's, its outer references δ ===== -/
def sg (σ δ : List Nat) (i : Nat) : Nat := bif Nat.blt i 100 then σ.getD i 0 else δ.getD (i - 100) 0
def rv (σ δ : List Nat) : Value → Value
  | .ref i => .ref (sg σ δ i)
  | v => v
def rE (σ δ : List Nat) : aE → aE
  | .inl x => .inl x
  | .inr (.inl x) => .inr (.inl x)
  | .inr (.inr x) => .inr (.inr (x.1, x.2.map (rv σ δ)))
theorem ev_rv (σ δ : List Nat) (ad : Nat → Nat) (v : Value) : ev ad (rv σ δ v) = ev (fun i => ad (sg σ δ i)) v := by cases v <;> rfl
theorem evs_rv (σ δ : List Nat) (ad : Nat → Nat) (vs : List Value) : (vs.map (rv σ δ)).map (ev ad) = vs.map (ev (fun i => ad (sg σ δ i))) := by
  rw [List.map_map]
  exact List.map_congr_left fun v _ => ev_rv σ δ ad v
theorem ee_rE (σ δ : List Nat) (cI cL : ClassId) (ad : Nat → Nat) (e : aE) : ee cI cL ad (rE σ δ e) = ee cI cL (fun i => ad (sg σ δ i)) e := by
  rcases e with x | x | x
  · rfl
  · rfl
  · show Sum.inr (x.1, (x.2.map (rv σ δ)).map (ev ad)) = Sum.inr (x.1, x.2.map (ev (fun i => ad (sg σ δ i))))
    rw [evs_rv]
def okv (n : Nat) : Value → Bool
  | .ref i => Nat.blt i n || Nat.ble 100 i
  | _ => true
def okE (n : Nat) : aE → Bool
  | .inr (.inr x) => x.2.all (okv n)
  | _ => true
theorem ev_agree {n : Nat} {ad ad' : Nat → Nat} (h : ∀ i, i < n ∨ 100 ≤ i → ad' i = ad i) {v : Value} (hk : okv n v = true) : ev ad' v = ev ad v := by
  cases v with
  | ref i =>
    have hk : (Nat.blt i n || Nat.ble 100 i) = true := hk
    show Value.ref (ad' i) = Value.ref (ad i)
    rw [h i]
    rcases (Bool.or_eq_true _ _).mp hk with z | z
    · exact Or.inl (Nat.le_of_ble_eq_true z)
    · exact Or.inr (Nat.le_of_ble_eq_true z)
  | _ => rfl
theorem ee_agree {n : Nat} {cI cL : ClassId} {ad ad' : Nat → Nat} (h : ∀ i, i < n ∨ 100 ≤ i → ad' i = ad i) {e : aE} (hk : okE n e = true) : ee cI cL ad' e = ee cI cL ad e := by
  rcases e with x | x | x
  · rfl
  · rfl
  · show Sum.inr (x.1, x.2.map (ev ad')) = Sum.inr (x.1, x.2.map (ev ad))
    rw [List.map_congr_left fun v hv => ev_agree h (List.all_eq_true.mp hk v hv)]
def putb : List Nat → aH → aH → aH
  | i :: σ, e :: es, h => putb σ es (h.set i e)
  | _, _, h => h
theorem putb_len : ∀ (σ : List Nat) (es h : aH), (putb σ es h).length = h.length := by
  intro σ
  induction σ with
  | nil => intro es h; rfl
  | cons i r ih => intro es h; cases es with
    | nil => rfl
    | cons e q => show (putb r q (h.set i e)).length = _; rw [ih, List.length_set]
theorem putb_out : ∀ (σ : List Nat) (es h : aH) {k : Nat}, k ∉ σ → (putb σ es h)[k]? = h[k]? := by
  intro σ
  induction σ with
  | nil => intro es h k _; rfl
  | cons i r ih => intro es h k hk; cases es with
    | nil => rfl
    | cons e q =>
      show (putb r q (h.set i e))[k]? = _
      rw [ih q (h.set i e) (fun z => hk (List.mem_cons_of_mem _ z)), List.getElem?_set_ne (fun z => hk (List.mem_cons.mpr (Or.inl z.symm)))]
theorem putb_in : ∀ (σ : List Nat) (es h : aH) {j k : Nat} {e : aE}, va_nd σ = true → σ[j]? = some k → es[j]? = some e → k < h.length → (putb σ es h)[k]? = some e := by
  intro σ
  induction σ with
  | nil => intro es h j k e _ hj; simp at hj
  | cons i r ih => intro es h j k e hn hj he hk; cases es with
    | nil => simp at he
    | cons e0 q =>
      simp only [va_nd, Bool.and_eq_true, decide_eq_true_eq] at hn
      show (putb r q (h.set i e0))[k]? = some e
      cases j with
      | zero =>
        simp at hj he
        subst hj; subst he
        rw [putb_out r q _ hn.1]
        simp [hk]
      | succ j =>
        exact ih q (h.set i e0) hn.2 (by simpa using hj) (by simpa using he) (by rw [List.length_set]; exact hk)
theorem wl_some {cI cL : ClassId} {ad : Nat → Nat} {h : aH} {k : Nat} {q : Nat × va_E} (hq : (wl cI cL ad h)[k]? = some q) : ∃ e, h[k]? = some e ∧ q = (ad k, ee cI cL ad e) := by
  simp only [wl, List.getElem?_mapIdx] at hq
  cases hb : h[k]? with
  | none => rw [hb] at hq; simp at hq
  | some b => rw [hb] at hq; simp at hq; exact ⟨b, rfl, hq.symm⟩
theorem sub_get {σ : List Nat} {δ : List Nat} {h hc : aH} (hsub : σ.map (fun i => h[i]?) = (hc.map (rE σ δ)).map some) {j : Nat} {e : aE} (he : hc[j]? = some e) : ∃ i, σ[j]? = some i ∧ h[i]? = some (rE σ δ e) := by
  have h1 : (σ.map (fun i => h[i]?))[j]? = some (some (rE σ δ e)) := by rw [hsub]; simp [he]
  rw [List.getElem?_map] at h1
  cases hi : σ[j]? with
  | none => rw [hi] at h1; simp at h1
  | some i => rw [hi] at h1; simp at h1; exact ⟨i, rfl, h1⟩
theorem sub_len {σ : List Nat} {δ : List Nat} {h hc : aH} (hsub : σ.map (fun i => h[i]?) = (hc.map (rE σ δ)).map some) : σ.length = hc.length := by
  have := congrArg List.length hsub
  simpa using this
theorem sg_at {σ δ : List Nat} {j i : Nat} (hj : j < 100) (hi : σ[j]? = some i) : sg σ δ j = i := by
  have hb : Nat.blt j 100 = true := Nat.ble_eq.mpr hj
  simp [sg, hb, List.getD_eq_getElem?_getD, hi]
section CC
variable {p : Program} {l : Launch} {e : Env} {R : Room} {s : State} {m : MethodId} {args : Array Value} {below : List Frame} {meth : Method} {c : Code} {H : Heap} {locs : List Loc} {kc ks : Nat} {Q : State → Prop}
variable {D : va_G} {cI cL : ClassId} {ad : Nat → Nat} {A : Nat → Prop} {H0 : Heap}
theorem call_core {mc ms pc : Nat} {ls : Array Slot} {st0 rest : List Value} {σ δ : List Nat} {h hc hc' : aH} {r : Option Value} {as : Array Value}
    (hr : va_Run p l e R s m args below meth c H locs kc ks mc ms (F0 m pc ls st0) rest (aQc r hc hc' D cI cL (fun i => ad (sg σ δ i)) H.size as) (va_A (wl cI cL (fun i => ad (sg σ δ i)) hc) H.size))
    (hP : va_P D vwCl (wl cI cL ad h) H) (hD : va_D A (wl cI cL ad h)) (hS : va_S A H0 H locs) (hA : ∀ q, H0.size ≤ q → A q)
    (hsub : σ.map (fun i => h[i]?) = (hc.map (rE σ δ)).map some) (hnd : va_nd σ = true) (hlen : hc'.length = hc.length) (h100 : hc.length ≤ 100) (hok : hc'.all (okE hc.length) = true)
    (kk : ∀ (H1 : Heap) (locs1 : List Loc), va_P D vwCl (wl cI cL ad (putb σ (hc'.map (rE σ δ)) h)) H1 → va_D A (wl cI cL ad (putb σ (hc'.map (rE σ δ)) h)) → va_S A H0 H1 locs1 → W p l e R s m args below meth c H1 locs1 (kc + mc) (ks + ms) Q (F0 m (pc + 3) ls (r.toList ++ rest))) :
    W p l e R s m args below meth c H locs kc ks Q (F0 m pc ls st0) := by
  intro T hT X
  obtain ⟨v, st₀, t, T', L, h0, X', hL, e1, e2, ⟨⟨ad', ha', hv, hP1, hD1⟩, hF⟩, st⟩ := hr T hT X
  cases hv
  have hAc : ∀ q, va_A (wl cI cL (fun i => ad (sg σ δ i)) hc) H.size q → A q := by
    intro q hq
    rcases hq with ⟨k, x, hk⟩ | hq
    · obtain ⟨e0, he0, hq2⟩ := wl_some hk
      have hjl : k < hc.length := (List.getElem?_eq_some_iff.mp he0).1
      obtain ⟨i, hi, hh⟩ := sub_get hsub he0
      have h3 := hD.2 i _ (wl_get hh)
      have h4 : q = ad i := by
        have := congrArg Prod.fst hq2
        simpa [sg_at (δ := δ) (by omega : k < 100) hi] using this
      rw [h4]; exact h3
    · exact hA q (Nat.le_trans hS.1 hq)
  have hz : H.size ≤ t.heap.size := by rw [← h0]; exact hF.1
  have hk : ∀ q : Nat, q < H.size → ¬ va_A (wl cI cL (fun i => ad (sg σ δ i)) hc) H.size q → t.heap[q]? = H[q]? := fun q h1 h2 => by
    have := hF.2 q (by rw [h0]; exact h1) h2
    rw [h0] at this
    exact this
  have hPn : va_P D vwCl (wl cI cL ad (putb σ (hc'.map (rE σ δ)) h)) T'.heap := by
    intro k q hq
    obtain ⟨e0, he0, rfl⟩ := wl_some hq
    by_cases hkσ : k ∈ σ
    · obtain ⟨j, hj⟩ := List.getElem?_of_mem hkσ
      have hjl : j < hc.length := by rw [← sub_len hsub]; exact (List.getElem?_eq_some_iff.mp hj).1
      have hjl' : j < hc'.length := by rw [hlen]; exact hjl
      have he' : hc'[j]? = some hc'[j] := List.getElem?_eq_getElem hjl'
      have hkl : k < h.length := by
        have := (List.getElem?_eq_some_iff.mp he0).1
        rwa [putb_len] at this
      have h1 := putb_in σ (hc'.map (rE σ δ)) h hnd hj (e := rE σ δ hc'[j]) (by rw [List.getElem?_map, he']; rfl) hkl
      have h2 : e0 = rE σ δ hc'[j] := Option.some.inj (he0.symm.trans h1)
      have h3 := hP1 j _ (wl_get he')
      have e7 : (fun i => ad (sg σ δ i)) j = ad k := by
        show ad (sg σ δ j) = ad k
        rw [sg_at (δ := δ) (by omega : j < 100) hj]
      rw [ha' j (Or.inl hjl), ee_agree ha' (List.all_eq_true.mp hok _ (List.getElem_mem hjl')), e7] at h3
      rw [h2, ee_rE, e1]
      exact h3
    · rw [putb_out σ _ h hkσ] at he0
      have h1 := hP k _ (wl_get (cI := cI) (cL := cL) (ad := ad) he0)
      have hlt : ad k < H.size := h1.lt
      refine h1.kept ?_
      rw [e1]
      refine hk (ad k) hlt ?_
      rintro (⟨k2, x, hx⟩ | hx)
      · obtain ⟨e2, he2, hq2⟩ := wl_some hx
        have hjl : k2 < hc.length := (List.getElem?_eq_some_iff.mp he2).1
        obtain ⟨i, hi, hh⟩ := sub_get hsub he2
        have h4 : ad k = ad i := by
          have := congrArg Prod.fst hq2
          simpa [sg_at (δ := δ) (by omega : k2 < 100) hi] using this
        have h5 := hD.1 k i _ _ (wl_get he0) (wl_get hh) h4
        exact hkσ (h5 ▸ List.mem_of_getElem? hi)
      · omega
  have hDn : va_D A (wl cI cL ad (putb σ (hc'.map (rE σ δ)) h)) := by
    have tt : ∀ (k : Nat) (q : Nat × va_E), (wl cI cL ad (putb σ (hc'.map (rE σ δ)) h))[k]? = some q → ∃ q', (wl cI cL ad h)[k]? = some q' ∧ q'.1 = q.1 := fun k q hq => by
      obtain ⟨e0, he0, rfl⟩ := wl_some hq
      have hkl : k < h.length := by
        have := (List.getElem?_eq_some_iff.mp he0).1
        rwa [putb_len] at this
      exact ⟨_, wl_get (List.getElem?_eq_getElem hkl), rfl⟩
    refine ⟨fun i j x y hi hj he => ?_, fun k q hk => ?_⟩
    · obtain ⟨x', hx, e3⟩ := tt i x hi
      obtain ⟨y', hy, e4⟩ := tt j y hj
      exact hD.1 i j x' y' hx hy (by rw [e3, e4, he])
    · obtain ⟨q', hq, e3⟩ := tt k q hk
      rw [← e3]; exact hD.2 k q' hq
  have hSn : va_S A H0 T'.heap (locs ++ L) := ⟨Nat.le_trans hS.1 (by rw [e1]; exact hz), fun q h1 h2 => by rw [e1, hk q (Nat.lt_of_lt_of_le h1 hS.1) (fun z => h2 (hAc q z))]; exact hS.2.1 q h1 h2, fun q hq => by
      rcases List.mem_append.mp hq with h | h
      · exact hS.2.2 q h
      · exact hAc _ (hL q h)⟩
  obtain ⟨t2, a1, b1⟩ := kk T'.heap (locs ++ L) hPn hDn hSn T' rfl X'
  exact ⟨t2, st t2 a1, b1⟩
end CC
def mlnk (own : String) (idx : Nat) (y : MethodName) : Prop := Cond.methodLink own idx y ∈ kwl ∨ ∃ host : String, Cond.methodLinkNest own idx y host ∈ kwl
def yok (y : MethodName) (b : ByteArray) (maxL : Nat) (ret : Option FieldType) (n : Nat) : Prop := Cond.code y b maxL ret ∈ kwl ∧ Cond.initialized y.cls ∈ kwl ∧ (y.cls ≠ "java/lang/invoke/MethodHandle" ∧ y.cls ≠ "java/lang/invoke/VarHandle") ∧ (parseMethodDescriptor y.desc).map (fun d => d.parameters.length) = some n
theorem yok_n {y : MethodName} {b : ByteArray} {maxL : Nat} {ret : Option FieldType} {n : Nat} (h : yok y b maxL ret n) : ∀ sig, parseMethodDescriptor y.desc = some sig → n = sig.parameters.length := fun sig hs => by
  have h2 := h.2.2.2
  rw [hs] at h2
  exact (Option.some.inj h2).symm
theorem aPc_blind (as : List Value) (h : aH) (D : va_G) (cI cL : ClassId) (ad0 : Nat → Nat) (sz : Nat) : FrameBlind (aPc as h D cI cL ad0 sz) := fun a U g mk q => by
  obtain ⟨q1, q2, q3, q4, q5, q6⟩ := q
  exact ⟨q1, q2, q3, va_K.moved (u := U) (U := U.calling g mk a) (Vm.Alike.refl U.vm) q4, q5, kw.moved (s := U) (U := U.calling g mk a) (State.WarmedH.refl U) q6⟩
theorem sub_PD {D : va_G} {cI cL : ClassId} {ad : Nat → Nat} {A : Nat → Prop} {H : Heap} {σ δ : List Nat} {h hc : aH} (hP : va_P D vwCl (wl cI cL ad h) H) (hD : va_D A (wl cI cL ad h)) (hsub : σ.map (fun i => h[i]?) = (hc.map (rE σ δ)).map some) (hnd : va_nd σ = true) (h100 : hc.length ≤ 100) :
    va_P D vwCl (wl cI cL (fun i => ad (sg σ δ i)) hc) H ∧ va_D (fun _ => True) (wl cI cL (fun i => ad (sg σ δ i)) hc) := by
  have tt : ∀ (k : Nat) (q : Nat × va_E), (wl cI cL (fun i => ad (sg σ δ i)) hc)[k]? = some q → ∃ i, σ[k]? = some i ∧ (wl cI cL ad h)[i]? = some q := fun k q hq => by
    obtain ⟨e0, he0, rfl⟩ := wl_some hq
    have hjl : k < hc.length := (List.getElem?_eq_some_iff.mp he0).1
    obtain ⟨i, hi, hh⟩ := sub_get hsub he0
    refine ⟨i, hi, ?_⟩
    rw [wl_get hh, ee_rE, sg_at (δ := δ) (by omega : k < 100) hi]
  refine ⟨fun k q hq => ?_, fun a b x y hx hy he => ?_, fun _ _ _ => trivial⟩
  · obtain ⟨i, -, hi⟩ := tt k q hq
    exact hP i q hi
  · obtain ⟨i, h1, h2⟩ := tt a x hx
    obtain ⟨j, h3, h4⟩ := tt b y hy
    have hij := hD.1 i j x y h2 h4 he
    subst hij
    exact va_nd_inj σ hnd a b i h1 h3
theorem cats (ad : Nat → Nat) (l : List Value) : ((l.map (ev ad)).map fun v => v.category) = l.map fun v => v.category := by
  rw [List.map_map]
  exact List.map_congr_left fun v _ => ev_cat ad v
theorem AW.callS {G : aG} {M : aM} {tb : List (Nat × Instr)} {FT PT : List (Nat × Nat × Nat)} (hm : amok M tb FT PT) (i : Nat) {h hc hc' h1 : aH} {kc ks pc idx maxL n : Nat} {lv : aV} {as rest st st' : List Value} {y : MethodName} {b : ByteArray} {ret : Option FieldType} {rm R : Room} {r : Option Value}
    (hc0 : AMet y b maxL ret rm as hc r hc') (σ δ : List Nat) (hy : yok y b maxL ret n) (hstat : Cond.static y ∈ kwl) (hlk : mlnk M.1 idx y) (hn : as.length = n)
    (hi : tb[i]? = some (pc, .invokestatic idx)) (hst : st = (as.map (rv σ δ)).reverse ++ rest) (hcat : Nat.ble (rest.map fun v => v.category).sum 8 = true)
    (hR : aRm G = R) (hRR : rm.frames + 1 ≤ R.frames ∧ 8 + (maxL + 11) + rm.locals ≤ R.locals ∧ kc + rm.cells ≤ R.cells ∧ ks + rm.slots ≤ R.slots)
    (hsub : σ.map (fun i => h[i]?) = (hc.map (rE σ δ)).map some) (hnd : va_nd σ = true) (hlen : hc'.length = hc.length) (h100 : Nat.ble hc.length 100 = true) (hok : hc'.all (okE hc.length) = true) (hr0 : ∀ ad, r.map (ev ad) = r)
    (hh1 : putb σ (hc'.map (rE σ δ)) h = h1) (hst' : r.toList ++ rest = st') (k : AW G M h1 (kc + rm.cells) (ks + rm.slots) (pc + 3) lv st') : AW G M h kc ks pc lv st := by
  have hd := tb_at hm.1 i hi
  obtain ⟨p, l, e, R0, s, m, args, below, meth, c, Q, D, cI, cL, A, ad0, X⟩ := G
  have hR : R0 = R := hR
  subst hR; subst hh1; subst hst'; subst hst
  intro ok ad H locs ls ha hP hD hS hl
  obtain ⟨hx, hb, hml, hown, hkw, hK, hA, hX⟩ := id ok
  have h100 := Nat.le_of_ble_eq_true h100
  obtain ⟨hPc, hDc⟩ := sub_PD (δ := δ) hP hD hsub hnd h100
  have hws : ∀ w ∈ ([.code y b maxL ret] : List Cond), ∀ (a' : Array Value) (U : State), s.WarmedH U.vm → w.before a' U = true := fun w hw a' U hW => (kw.moved hW hkw).use w (by rw [List.mem_singleton.mp hw]; exact hy.1)
  have hpre : PreS s H (aPc as hc D cI cL (fun i => ad (sg σ δ i)) H.size) (as.map (ev (fun i => ad (sg σ δ i)))) := ⟨aPc_blind _ _ _ _ _ _ _, fun U hU hW => ⟨rfl, by rw [hU], by rw [hU]; exact hPc, va_K.moved hW.alike hK, hDc, kw.moved hW hkw⟩⟩
  have hstk : ((as.map (rv σ δ)).reverse ++ rest).map (ev ad) = (as.map (ev (fun i => ad (sg σ δ i)))).reverse ++ rest.map (ev ad) := by
    rw [List.map_append, List.map_reverse, evs_rv]
  have hcat2 : 2 * (F0 m pc ls (((as.map (rv σ δ)).reverse ++ rest).map (ev ad))).monitorRoom + ((rest.map (ev ad)).map fun v => v.category).sum ≤ 8 := lv_room (by rw [cats]; exact Nat.le_of_ble_eq_true hcat)
  have run : va_Run p l e R0 s m args below meth c H locs kc ks rm.cells rm.slots (F0 m pc ls (((as.map (rv σ δ)).reverse ++ rest).map (ev ad))) (rest.map (ev ad)) (aQc r hc hc' D cI cL (fun i => ad (sg σ δ i)) H.size (as.map (ev (fun i => ad (sg σ δ i)))).toArray) (va_A (wl cI cL (fun i => ad (sg σ δ i)) hc) H.size) := by
    rcases hlk with hlk | ⟨host, hlk⟩
    · exact va_runS (Ts := kwl) (own := M.1) ⟨hx, hb, hml, hown, hkw.use⟩ (hc0 l D cI cL _ H.size) ⟨⟨rfl, rfl, hRR.1, hRR.2.1, hws, List.mem_singleton.mpr rfl, hkw.use _ hy.1, hkw.use _ hy.2.1, hy.2.2.1, yok_n hy, hkw.use _ hlk⟩, hkw.use _ hstat⟩ hpre rfl (by rw [List.length_map]; exact hn) hl.1 hstk hcat2 hd ⟨hRR.2.2.1, hRR.2.2.2⟩
    · exact va_runSN (Ts := kwl) (own := M.1) ⟨hx, hb, hml, hown, hkw.use⟩ (hc0 l D cI cL _ H.size) ⟨⟨⟨rfl, rfl, hRR.1, hRR.2.1, hws, List.mem_singleton.mpr rfl⟩, hkw.use _ hy.1, hkw.use _ hy.2.1, hy.2.2.1, yok_n hy, hkw.use _ hlk⟩, hkw.use _ hstat, trivial⟩ hpre rfl (by rw [List.length_map]; exact hn) hl.1 hstk hcat2 hd ⟨hRR.2.2.1, hRR.2.2.2⟩
  refine call_core run hP hD hS hA hsub hnd hlen h100 hok (fun H1 locs1 hP hD hS => ?_)
  have k2 := k ok ad H1 locs1 ls ha hP hD hS hl
  rw [List.map_append] at k2
  have hr1 : r.toList.map (ev ad) = r.toList := by
    have := hr0 ad
    cases r with
    | none => rfl
    | some v => simpa using this
  rw [hr1] at k2
  exact k2
theorem AW.callV {G : aG} {M : aM} {tb : List (Nat × Instr)} {FT PT : List (Nat × Nat × Nat)} (hm : amok M tb FT PT) (i : Nat) {h hc hc' h1 : aH} {kc ks pc idx maxL n : Nat} {lv : aV} {as rest st st' : List Value} {ci : Nat} {fs : List Value} {hcr : aH} {y : MethodName} {b : ByteArray} {ret : Option FieldType} {rm R : Room} {r : Option Value}
    (hc0 : AMet y b maxL ret rm (.ref 0 :: as) hc r hc') (hrec : hc = aO ci fs :: hcr) (hcl : (vwCl[ci]?).map (fun q => q.1) = some y.cls) (σ δ : List Nat) (hy : yok y b maxL ret n) (hinst : Cond.instanceMethod y ∈ kwl) (hsel : Cond.selects y.cls y y ∈ kwl) (hlk : mlnk M.1 idx y) (hn : as.length = n)
    (hi : tb[i]? = some (pc, .invokevirtual idx)) (hst : st = (as.map (rv σ δ)).reverse ++ .ref (sg σ δ 0) :: rest) (hcat : Nat.ble (rest.map fun v => v.category).sum 8 = true)
    (hR : aRm G = R) (hRR : rm.frames + 1 ≤ R.frames ∧ 8 + (maxL + 11) + rm.locals ≤ R.locals ∧ kc + rm.cells ≤ R.cells ∧ ks + rm.slots ≤ R.slots)
    (hsub : σ.map (fun i => h[i]?) = (hc.map (rE σ δ)).map some) (hnd : va_nd σ = true) (hlen : hc'.length = hc.length) (h100 : Nat.ble hc.length 100 = true) (hok : hc'.all (okE hc.length) = true) (hr0 : ∀ ad, r.map (ev ad) = r)
    (hh1 : putb σ (hc'.map (rE σ δ)) h = h1) (hst' : r.toList ++ rest = st') (k : AW G M h1 (kc + rm.cells) (ks + rm.slots) (pc + 3) lv st') : AW G M h kc ks pc lv st := by
  have hd := tb_at hm.1 i hi
  obtain ⟨p, l, e, R0, s, m, args, below, meth, c, Q, D, cI, cL, A, ad0, X⟩ := G
  have hR : R0 = R := hR
  subst hR; subst hh1; subst hst'; subst hst
  intro ok ad H locs ls ha hP hD hS hl
  obtain ⟨hx, hb, hml, hown, hkw, hK, hA, hX⟩ := id ok
  have h100 := Nat.le_of_ble_eq_true h100
  obtain ⟨hPc, hDc⟩ := sub_PD (δ := δ) hP hD hsub hnd h100
  have hws : ∀ w ∈ ([.code y b maxL ret] : List Cond), ∀ (a' : Array Value) (U : State), s.WarmedH U.vm → w.before a' U = true := fun w hw a' U hW => (kw.moved hW hkw).use w (by rw [List.mem_singleton.mp hw]; exact hy.1)
  obtain ⟨q, hq, hqc⟩ : ∃ q, vwCl[ci]? = some q ∧ q.1 = y.cls := by
    cases hh : vwCl[ci]? with
    | none => rw [hh] at hcl; cases hcl
    | some q => rw [hh] at hcl; exact ⟨q, rfl, Option.some.inj hcl⟩
  have hcell : ∃ cellB : Cell, H[ad (sg σ δ 0)]? = some cellB ∧ cellB.vm.isStatics = false ∧ s.vm.findClass y.cls = some cellB.cls := by
    have h0 : hc[0]? = some (aO ci fs) := by rw [hrec]; rfl
    have := va_recv (q0 := 0) hK hPc hq (by rw [wl_get h0]; rfl)
    rw [hqc] at this
    exact this
  have hpre : PreV s H y.cls (ad (sg σ δ 0)) (aPc (.ref 0 :: as) hc D cI cL (fun i => ad (sg σ δ i)) H.size) (as.map (ev (fun i => ad (sg σ δ i)))) := ⟨aPc_blind _ _ _ _ _ _ _, hcell, fun U hU hW => ⟨rfl, by rw [hU], by rw [hU]; exact hPc, va_K.moved hW.alike hK, hDc, kw.moved hW hkw⟩⟩
  have hstk : ((as.map (rv σ δ)).reverse ++ .ref (sg σ δ 0) :: rest).map (ev ad) = (as.map (ev (fun i => ad (sg σ δ i)))).reverse ++ .ref (ad (sg σ δ 0)) :: rest.map (ev ad) := by
    rw [List.map_append, List.map_reverse, evs_rv]
    rfl
  have hcat2 : 2 * (F0 m pc ls (((as.map (rv σ δ)).reverse ++ .ref (sg σ δ 0) :: rest).map (ev ad))).monitorRoom + ((rest.map (ev ad)).map fun v => v.category).sum ≤ 8 := lv_room (by rw [cats]; exact Nat.le_of_ble_eq_true hcat)
  have run : va_Run p l e R0 s m args below meth c H locs kc ks rm.cells rm.slots (F0 m pc ls (((as.map (rv σ δ)).reverse ++ .ref (sg σ δ 0) :: rest).map (ev ad))) (rest.map (ev ad)) (aQc r hc hc' D cI cL (fun i => ad (sg σ δ i)) H.size (Value.ref (ad (sg σ δ 0)) :: as.map (ev (fun i => ad (sg σ δ i)))).toArray) (va_A (wl cI cL (fun i => ad (sg σ δ i)) hc) H.size) := by
    rcases hlk with hlk | ⟨host, hlk⟩
    · exact va_runV (Ts := kwl) (own := M.1) (C := y.cls) ⟨hx, hb, hml, hown, hkw.use⟩ (hc0 l D cI cL _ H.size) ⟨⟨rfl, rfl, hRR.1, hRR.2.1, hws, List.mem_singleton.mpr rfl, hkw.use _ hy.1, hkw.use _ hy.2.1, hy.2.2.1, yok_n hy, hkw.use _ hlk⟩, hkw.use _ hinst, hkw.use _ hsel⟩ hpre rfl (by rw [List.length_map]; exact hn) hl.1 hstk hcat2 hd ⟨hRR.2.2.1, hRR.2.2.2⟩
    · exact va_runVN (Ts := kwl) (own := M.1) (C := y.cls) ⟨hx, hb, hml, hown, hkw.use⟩ (hc0 l D cI cL _ H.size) ⟨⟨⟨rfl, rfl, hRR.1, hRR.2.1, hws, List.mem_singleton.mpr rfl⟩, hkw.use _ hy.1, hkw.use _ hy.2.1, hy.2.2.1, yok_n hy, hkw.use _ hlk⟩, hkw.use _ hinst, hkw.use _ hsel⟩ hpre rfl (by rw [List.length_map]; exact hn) hl.1 hstk hcat2 hd ⟨hRR.2.2.1, hRR.2.2.2⟩
  refine call_core run hP hD hS hA hsub hnd hlen h100 hok (fun H1 locs1 hP hD hS => ?_)
  have k2 := k ok ad H1 locs1 ls ha hP hD hS hl
  rw [List.map_append] at k2
  have hr1 : r.toList.map (ev ad) = r.toList := by
    have := hr0 ad
    cases r with
    | none => rfl
    | some v => simpa using this
  rw [hr1] at k2
  exact k2
