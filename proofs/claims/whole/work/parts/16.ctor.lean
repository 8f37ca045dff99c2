/-! ===== a call whose new cells are kept (constructors) ===== -/
def sgx (σ : List Nat) (n b : Nat) : List Nat := σ ++ (List.range b).map (fun j => n + j)
def adx (n m b : Nat) (ad' ad : Nat → Nat) : Nat → Nat := fun i => if n ≤ i ∧ i < n + b then ad' (m + (i - n)) else ad i
theorem adx_agree {n m b : Nat} {ad' ad : Nat → Nat} (hn : n + b ≤ 100) : ∀ i, i < n ∨ 100 ≤ i → adx n m b ad' ad i = ad i := fun i h => by
  unfold adx
  rw [if_neg (by omega)]
theorem sgx_old {σ δ : List Nat} {n b j i : Nat} (hj : j < 100) (hi : σ[j]? = some i) : sg (sgx σ n b) δ j = i := by
  refine sg_at hj ?_
  have hl : j < σ.length := (List.getElem?_eq_some_iff.mp hi).1
  rw [sgx, List.getElem?_append_left hl, hi]
theorem sgx_new {σ δ : List Nat} {n b j : Nat} (hj : σ.length + j < 100) (hb : j < b) : sg (sgx σ n b) δ (σ.length + j) = n + j := by
  refine sg_at hj ?_
  rw [sgx, List.getElem?_append_right (by omega)]
  simp [hb]
theorem sg_out {σ σ' δ : List Nat} {i : Nat} (hi : 100 ≤ i) : sg σ δ i = sg σ' δ i := by
  have hb : Nat.blt i 100 = false := by
    cases h : Nat.blt i 100 with
    | false => rfl
    | true => exact absurd (Nat.le_of_ble_eq_true h : i < 100) (by omega)
  simp [sg, hb]
def okD (n : Nat) (δ : List Nat) : Bool := δ.all (fun d => Nat.blt d n || Nat.ble 100 d)
theorem sg_okD {σ δ : List Nat} {n i : Nat} (hn : 0 < n) (hδ : okD n δ = true) (hi : 100 ≤ i) : sg σ δ i < n ∨ 100 ≤ sg σ δ i := by
  have hb : Nat.blt i 100 = false := by
    cases h : Nat.blt i 100 with
    | false => rfl
    | true => exact absurd (Nat.le_of_ble_eq_true h : i < 100) (by omega)
  simp only [sg, hb, cond_false, List.getD_eq_getElem?_getD]
  cases hd : δ[i - 100]? with
  | none => exact Or.inl hn
  | some d =>
    have := List.all_eq_true.mp hδ d (List.mem_of_getElem? hd)
    rcases (Bool.or_eq_true _ _).mp this with z | z
    · exact Or.inl (Nat.le_of_ble_eq_true z)
    · exact Or.inr (Nat.le_of_ble_eq_true z)
section CN
variable {p : Program} {l : Launch} {e : Env} {R : Room} {s : State} {m : MethodId} {args : Array Value} {below : List Frame} {meth : Method} {c : Code} {H : Heap} {locs : List Loc} {kc ks : Nat} {Q : State → Prop}
variable {D : va_G} {cI cL : ClassId} {ad : Nat → Nat} {A : Nat → Prop} {H0 : Heap}
set_option maxHeartbeats 1000000 in
theorem call_coreN {mc ms pc : Nat} {ls : Array Slot} {st0 rest : List Value} {σ δ : List Nat} {h hc hA' hB' : aH} {r : Option Value} {as : Array Value}
    (hr : va_Run p l e R s m args below meth c H locs kc ks mc ms (F0 m pc ls st0) rest (aQc r hc (hA' ++ hB') D cI cL (fun i => ad (sg σ δ i)) H.size as) (va_A (wl cI cL (fun i => ad (sg σ δ i)) hc) H.size))
    (hP : va_P D vwCl (wl cI cL ad h) H) (hD : va_D A (wl cI cL ad h)) (hS : va_S A H0 H locs) (hA : ∀ q, H0.size ≤ q → A q)
    (hsub : σ.map (fun i => h[i]?) = (hc.map (rE σ δ)).map some) (hnd : va_nd σ = true) (hlen : hA'.length = hc.length) (h100 : h.length + hB'.length ≤ 100) (h100c : hc.length + hB'.length ≤ 100) (hok : (hA' ++ hB').all (okE (hc.length + hB'.length)) = true) (hh0 : 0 < h.length) (hδ : okD h.length δ = true) (hokh : h.all (okE h.length) = true)
    (kk : ∀ (ad2 : Nat → Nat) (H1 : Heap) (locs1 : List Loc), (∀ i, i < h.length ∨ 100 ≤ i → ad2 i = ad i) → va_P D vwCl (wl cI cL ad2 (putb σ (hA'.map (rE (sgx σ h.length hB'.length) δ)) h ++ hB'.map (rE (sgx σ h.length hB'.length) δ))) H1 → va_D A (wl cI cL ad2 (putb σ (hA'.map (rE (sgx σ h.length hB'.length) δ)) h ++ hB'.map (rE (sgx σ h.length hB'.length) δ))) → va_S A H0 H1 locs1 → W p l e R s m args below meth c H1 locs1 (kc + mc) (ks + ms) Q (F0 m (pc + 3) ls (r.toList ++ rest))) :
    W p l e R s m args below meth c H locs kc ks Q (F0 m pc ls st0) := by
  intro T hT X
  obtain ⟨v, st₀, t, T', L, h0, X', hL, e1, e2, ⟨⟨ad', ha', hv, hP1, hD1⟩, hF⟩, st⟩ := hr T hT X
  cases hv
  have hσl : σ.length = hc.length := sub_len hsub
  -- the new map
  have hag := adx_agree (n := h.length) (m := hc.length) (ad' := ad') (ad := ad) h100
  have hσi : ∀ (j i : Nat), σ[j]? = some i → i < h.length := by
    intro j i hi
    have hjl : j < hc.length := by rw [← hσl]; exact (List.getElem?_eq_some_iff.mp hi).1
    obtain ⟨i2, hi2, hh2⟩ := sub_get hsub (List.getElem?_eq_getElem hjl)
    rw [hi] at hi2
    cases hi2
    exact (List.getElem?_eq_some_iff.mp hh2).1
  have hmap : ∀ i, i < hc.length + hB'.length ∨ 100 ≤ i → ad' i = (fun i => adx h.length hc.length hB'.length ad' ad (sg (sgx σ h.length hB'.length) δ i)) i := by
    intro i hi
    show ad' i = adx h.length hc.length hB'.length ad' ad (sg (sgx σ h.length hB'.length) δ i)
    by_cases h1 : i < hc.length
    · obtain ⟨i2, hi2, hh2⟩ := sub_get hsub (List.getElem?_eq_getElem h1)
      rw [sgx_old (by omega) hi2, hag i2 (Or.inl (hσi i i2 hi2)), ha' i (Or.inl h1)]
      show ad (sg σ δ i) = ad i2
      rw [sg_at (by omega) hi2]
    · by_cases h2 : i < hc.length + hB'.length
      · have e9 : i = σ.length + (i - hc.length) := by omega
        have e8 : sg (sgx σ h.length hB'.length) δ i = h.length + (i - hc.length) := by
          rw [show sg (sgx σ h.length hB'.length) δ i = sg (sgx σ h.length hB'.length) δ (σ.length + (i - hc.length)) by rw [← e9]]
          exact sgx_new (by omega) (by omega)
        rw [e8]
        unfold adx
        rw [if_pos (by omega)]
        congr 1
        omega
      · have h3 : 100 ≤ i := by omega
        rw [hag _ (sg_okD hh0 hδ h3), ha' i (Or.inr h3)]
        show ad (sg σ δ i) = _
        rw [sg_out (σ' := sgx σ h.length hB'.length) h3]
  have hAc : ∀ q, va_A (wl cI cL (fun i => ad (sg σ δ i)) hc) H.size q → A q := by
    intro q hq
    rcases hq with ⟨k, x, hk⟩ | hq
    · obtain ⟨e0, he0, hq2⟩ := wl_some hk
      have hjl : k < hc.length := (List.getElem?_eq_some_iff.mp he0).1
      obtain ⟨i, hi, hh⟩ := sub_get hsub he0
      have h3 := hD.2 i _ (wl_get hh)
      have h4 : q = ad i := by
        have := congrArg Prod.fst hq2
        simpa [sg_at (δ := δ) (by omega : k < 100) hi] using this
      rw [h4]; exact h3
    · exact hA q (Nat.le_trans hS.1 hq)
  have hz : H.size ≤ t.heap.size := by rw [← h0]; exact hF.1
  have hk : ∀ q : Nat, q < H.size → ¬ va_A (wl cI cL (fun i => ad (sg σ δ i)) hc) H.size q → t.heap[q]? = H[q]? := fun q h1 h2 => by
    have := hF.2 q (by rw [h0]; exact h1) h2
    rw [h0] at this
    exact this
  -- each new cell of the caller is one of the callee, or an old one
  have hnew : ∀ (k : Nat) (e0 : aE), (putb σ (hA'.map (rE (sgx σ h.length hB'.length) δ)) h ++ hB'.map (rE (sgx σ h.length hB'.length) δ))[k]? = some e0 →
      (∃ (j : Nat) (e' : aE), (hA' ++ hB')[j]? = some e' ∧ e0 = rE (sgx σ h.length hB'.length) δ e' ∧ adx h.length hc.length hB'.length ad' ad k = ad' j ∧ ((j < hc.length ∧ σ[j]? = some k) ∨ (hc.length ≤ j ∧ k = h.length + (j - hc.length)))) ∨ (k ∉ σ ∧ k < h.length ∧ h[k]? = some e0) := by
    intro k e0 he0
    by_cases hkl : k < h.length
    · rw [List.getElem?_append_left (by rw [putb_len]; exact hkl)] at he0
      by_cases hkσ : k ∈ σ
      · obtain ⟨j, hj⟩ := List.getElem?_of_mem hkσ
        have hjl : j < hc.length := by rw [← hσl]; exact (List.getElem?_eq_some_iff.mp hj).1
        have hjl' : j < hA'.length := by rw [hlen]; exact hjl
        have he' : hA'[j]? = some hA'[j] := List.getElem?_eq_getElem hjl'
        have h1 := putb_in σ (hA'.map (rE (sgx σ h.length hB'.length) δ)) h hnd hj (e := rE (sgx σ h.length hB'.length) δ hA'[j]) (by rw [List.getElem?_map, he']; rfl) hkl
        refine Or.inl ⟨j, hA'[j], by rw [List.getElem?_append_left hjl', he'], Option.some.inj (he0.symm.trans h1), ?_, Or.inl ⟨hjl, hj⟩⟩
        rw [hag k (Or.inl hkl), ha' j (Or.inl hjl)]
        show ad k = ad (sg σ δ j)
        rw [sg_at (by omega) hj]
      · rw [putb_out σ _ h hkσ] at he0
        exact Or.inr ⟨hkσ, hkl, he0⟩
    · rw [List.getElem?_append_right (by rw [putb_len]; omega), putb_len, List.getElem?_map] at he0
      cases hb : hB'[k - h.length]? with
      | none => rw [hb] at he0; simp at he0
      | some e' =>
        rw [hb] at he0
        have hbl : k - h.length < hB'.length := (List.getElem?_eq_some_iff.mp hb).1
        refine Or.inl ⟨hc.length + (k - h.length), e', ?_, (Option.some.inj he0).symm, ?_, Or.inr ⟨by omega, by omega⟩⟩
        · rw [List.getElem?_append_right (by omega), hlen]
          rw [show hc.length + (k - h.length) - hc.length = k - h.length by omega]
          exact hb
        · unfold adx
          rw [if_pos (by omega)]
  have hold : ∀ (k : Nat) (e0 : aE), k ∉ σ → h[k]? = some e0 → ¬ va_A (wl cI cL (fun i => ad (sg σ δ i)) hc) H.size (ad k) := by
    intro k e0 hkσ he0
    have hlt : ad k < H.size := (hP k _ (wl_get (cI := cI) (cL := cL) (ad := ad) he0)).lt
    rintro (⟨k2, x, hx⟩ | hx)
    · obtain ⟨e2, he2, hq2⟩ := wl_some hx
      have hjl : k2 < hc.length := (List.getElem?_eq_some_iff.mp he2).1
      obtain ⟨i, hi, hh⟩ := sub_get hsub he2
      have h4 : ad k = ad i := by
        have := congrArg Prod.fst hq2
        simpa [sg_at (δ := δ) (by omega : k2 < 100) hi] using this
      have h5 := hD.1 k i _ _ (wl_get he0) (wl_get hh) h4
      exact hkσ (h5 ▸ List.mem_of_getElem? hi)
    · omega
  have hPn : va_P D vwCl (wl cI cL (adx h.length hc.length hB'.length ad' ad) (putb σ (hA'.map (rE (sgx σ h.length hB'.length) δ)) h ++ hB'.map (rE (sgx σ h.length hB'.length) δ))) T'.heap := by
    intro k q hq
    obtain ⟨e0, he0, rfl⟩ := wl_some hq
    rcases hnew k e0 he0 with ⟨j, e', hj, rfl, had, -⟩ | ⟨hkσ, hkl, he1⟩
    · have h3 := hP1 j _ (wl_get hj)
      rw [ee_agree (n := hc.length + hB'.length) hmap (List.all_eq_true.mp hok e' (List.mem_of_getElem? hj))] at h3
      rw [ee_rE, had, e1]
      exact h3
    · have h1 := hP k _ (wl_get (cI := cI) (cL := cL) (ad := ad) he1)
      have hlt : ad k < H.size := h1.lt
      rw [hag k (Or.inl hkl), ee_agree hag (List.all_eq_true.mp hokh e0 (List.mem_of_getElem? he1))]
      refine h1.kept ?_
      rw [e1]
      exact hk (ad k) hlt (hold k e0 hkσ he1)
  have hDn : va_D A (wl cI cL (adx h.length hc.length hB'.length ad' ad) (putb σ (hA'.map (rE (sgx σ h.length hB'.length) δ)) h ++ hB'.map (rE (sgx σ h.length hB'.length) δ))) := by
    refine ⟨fun a b x y hx hy he => ?_, fun k q hk => ?_⟩
    · obtain ⟨ea, hea, rfl⟩ := wl_some hx
      obtain ⟨eb, heb, rfl⟩ := wl_some hy
      have he : adx h.length hc.length hB'.length ad' ad a = adx h.length hc.length hB'.length ad' ad b := he
      rcases hnew a ea hea with ⟨j, e', hj, -, had, hja⟩ | ⟨hkσ, hkl, he1⟩ <;> rcases hnew b eb heb with ⟨j2, e2', hj2, -, had2, hjb⟩ | ⟨hkσ2, hkl2, he12⟩
      · rw [had, had2] at he
        have hjj := hD1.1 j j2 _ _ (wl_get hj) (wl_get hj2) he
        subst hjj
        rcases hja with ⟨u1, u2⟩ | ⟨u1, u2⟩ <;> rcases hjb with ⟨v1, v2⟩ | ⟨v1, v2⟩
        · exact Option.some.inj (u2.symm.trans v2)
        · omega
        · omega
        · omega
      · exfalso
        rw [had, hag b (Or.inl hkl2)] at he
        have h6 := hD1.2 j _ (wl_get hj)
        have h6 : va_A (wl cI cL (fun i => ad (sg σ δ i)) hc) H.size (ad' j) := h6
        rw [he] at h6
        exact hold b eb hkσ2 he12 h6
      · exfalso
        rw [had2, hag a (Or.inl hkl)] at he
        have h6 := hD1.2 j2 _ (wl_get hj2)
        have h6 : va_A (wl cI cL (fun i => ad (sg σ δ i)) hc) H.size (ad' j2) := h6
        rw [← he] at h6
        exact hold a ea hkσ he1 h6
      · rw [hag a (Or.inl hkl), hag b (Or.inl hkl2)] at he
        exact hD.1 a b _ _ (wl_get he1) (wl_get he12) he
    · obtain ⟨e0, he0, rfl⟩ := wl_some hk
      rcases hnew k e0 he0 with ⟨j, e', hj, -, had, -⟩ | ⟨hkσ, hkl, he1⟩
      · have h6 := hD1.2 j _ (wl_get hj)
        show A (adx h.length hc.length hB'.length ad' ad k)
        rw [had]
        exact hAc _ h6
      · show A (adx h.length hc.length hB'.length ad' ad k)
        rw [hag k (Or.inl hkl)]
        exact hD.2 k _ (wl_get he1)
  have hSn : va_S A H0 T'.heap (locs ++ L) := ⟨Nat.le_trans hS.1 (by rw [e1]; exact hz), fun q h1 h2 => by rw [e1, hk q (Nat.lt_of_lt_of_le h1 hS.1) (fun z => h2 (hAc q z))]; exact hS.2.1 q h1 h2, fun q hq => by
      rcases List.mem_append.mp hq with h | h
      · exact hS.2.2 q h
      · exact hAc _ (hL q h)⟩
  obtain ⟨t2, a1, b1⟩ := kk _ T'.heap (locs ++ L) hag hPn hDn hSn T' rfl X'
  exact ⟨t2, st t2 a1, b1⟩
end CN
set_option maxHeartbeats 1000000 in
theorem AW.callI {G : aG} {M : aM} {tb : List (Nat × Instr)} {FT PT : List (Nat × Nat × Nat)} (hm : amok M tb FT PT) (i : Nat) {h hc hA' hB' h1 : aH} {kc ks pc idx maxL n : Nat} {lv : aV} {as rest st st' : List Value} {y : MethodName} {b : ByteArray} {rm R : Room} {r : Option Value}
    (hc0 : AMet y b maxL none rm (.ref 0 :: as) hc r (hA' ++ hB')) (σ δ : List Nat) (hy : yok y b maxL none n) (hinst : Cond.instanceMethod y ∈ kwl) (hinit : y.name = "<init>") (hlk : mlnk M.1 idx y) (hn : as.length = n)
    (hi : tb[i]? = some (pc, .invokespecial idx)) (hst : st = (as.map (rv σ δ)).reverse ++ .ref (sg σ δ 0) :: rest) (hcat : Nat.ble (rest.map fun v => v.category).sum 8 = true)
    (hR : aRm G = R) (hRR : rm.frames + 1 ≤ R.frames ∧ 8 + (maxL + 11) + rm.locals ≤ R.locals ∧ kc + rm.cells ≤ R.cells ∧ ks + rm.slots ≤ R.slots)
    (hsub : σ.map (fun i => h[i]?) = (hc.map (rE σ δ)).map some) (hnd : va_nd σ = true) (hlen : hA'.length = hc.length) (h100 : Nat.ble (h.length + hB'.length) 100 = true) (h100c : Nat.ble (hc.length + hB'.length) 100 = true) (hok : (hA' ++ hB').all (okE (hc.length + hB'.length)) = true) (hh0 : Nat.blt 0 h.length = true) (hδ : okD h.length δ = true) (hoks : okS h.length h lv rest = true) (hM : Nat.ble M.2.2.2 h.length = true) (hr0 : ∀ ad, r.map (ev ad) = r)
    (hh1 : putb σ (hA'.map (rE (sgx σ h.length hB'.length) δ)) h ++ hB'.map (rE (sgx σ h.length hB'.length) δ) = h1) (hst' : r.toList ++ rest = st') (k : AW G M h1 (kc + rm.cells) (ks + rm.slots) (pc + 3) lv st') : AW G M h kc ks pc lv st := by
  have hd := tb_at hm.1 i hi
  obtain ⟨p, l, e, R0, s, m, args, below, meth, c, Q, D, cI, cL, A, ad0, X⟩ := G
  have hR : R0 = R := hR
  subst hR; subst hh1; subst hst'; subst hst
  intro ok ad H locs ls ha hP hD hS hl
  obtain ⟨hx, hb, hml, hown, hkw, hK, hA, hX⟩ := id ok
  have h100 := Nat.le_of_ble_eq_true h100
  have h100c := Nat.le_of_ble_eq_true h100c
  have hM : M.2.2.2 ≤ h.length := Nat.le_of_ble_eq_true hM
  obtain ⟨o1, o2⟩ := (Bool.and_eq_true _ _).mp hoks
  obtain ⟨o2, o3⟩ := (Bool.and_eq_true _ _).mp o2
  obtain ⟨hPc, hDc⟩ := sub_PD (δ := δ) hP hD hsub hnd (by omega)
  have hws : ∀ w ∈ ([.code y b maxL none] : List Cond), ∀ (a' : Array Value) (U : State), s.WarmedH U.vm → w.before a' U = true := fun w hw a' U hW => (kw.moved hW hkw).use w (by rw [List.mem_singleton.mp hw]; exact hy.1)
  have hpre : PreS s H (aPc (.ref 0 :: as) hc D cI cL (fun i => ad (sg σ δ i)) H.size) (.ref (ad (sg σ δ 0)) :: as.map (ev (fun i => ad (sg σ δ i)))) := ⟨aPc_blind _ _ _ _ _ _ _, fun U hU hW => ⟨rfl, by rw [hU], by rw [hU]; exact hPc, va_K.moved hW.alike hK, hDc, kw.moved hW hkw⟩⟩
  have hstk : ((as.map (rv σ δ)).reverse ++ .ref (sg σ δ 0) :: rest).map (ev ad) = (as.map (ev (fun i => ad (sg σ δ i)))).reverse ++ .ref (ad (sg σ δ 0)) :: rest.map (ev ad) := by
    rw [List.map_append, List.map_reverse, evs_rv]
    rfl
  have hcat2 : 2 * (F0 m pc ls (((as.map (rv σ δ)).reverse ++ .ref (sg σ δ 0) :: rest).map (ev ad))).monitorRoom + ((rest.map (ev ad)).map fun v => v.category).sum ≤ 8 := lv_room (by rw [cats]; exact Nat.le_of_ble_eq_true hcat)
  have run : va_Run p l e R0 s m args below meth c H locs kc ks rm.cells rm.slots (F0 m pc ls (((as.map (rv σ δ)).reverse ++ .ref (sg σ δ 0) :: rest).map (ev ad))) (rest.map (ev ad)) (aQc r hc (hA' ++ hB') D cI cL (fun i => ad (sg σ δ i)) H.size (Value.ref (ad (sg σ δ 0)) :: as.map (ev (fun i => ad (sg σ δ i)))).toArray) (va_A (wl cI cL (fun i => ad (sg σ δ i)) hc) H.size) := by
    rcases hlk with hlk | ⟨host, hlk⟩
    · exact va_runI (Ts := kwl) (own := M.1) ⟨hx, hb, hml, hown, hkw.use⟩ (hc0 l D cI cL _ H.size) ⟨⟨rfl, rfl, hRR.1, hRR.2.1, hws, List.mem_singleton.mpr rfl, hkw.use _ hy.1, hkw.use _ hy.2.1, hy.2.2.1, yok_n hy, hkw.use _ hlk⟩, hinit, hkw.use _ hinst⟩ hpre rfl (by rw [List.length_map]; exact hn) hl.1 hstk hcat2 hd ⟨hRR.2.2.1, hRR.2.2.2⟩
    · exact va_runIN (Ts := kwl) (own := M.1) ⟨hx, hb, hml, hown, hkw.use⟩ (hc0 l D cI cL _ H.size) ⟨⟨⟨rfl, rfl, hRR.1, hRR.2.1, hws, List.mem_singleton.mpr rfl⟩, hkw.use _ hy.1, hkw.use _ hy.2.1, hy.2.2.1, yok_n hy, hkw.use _ hlk⟩, hinit, hkw.use _ hinst⟩ hpre rfl (by rw [List.length_map]; exact hn) hl.1 hstk hcat2 hd ⟨hRR.2.2.1, hRR.2.2.2⟩
  refine call_coreN run hP hD hS hA hsub hnd hlen h100 h100c hok (Nat.le_of_ble_eq_true hh0) hδ o1 (fun ad2 H1 locs1 hag hP hD hS => ?_)
  have k2 := k ok ad2 H1 locs1 ls (fun j hj => by rw [hag j (by omega)]; exact ha j hj) hP hD hS (by rw [el_agree hag o2]; exact hl)
  rw [List.map_append, evs_agree hag o3] at k2
  have hr1 : r.toList.map (ev ad2) = r.toList := by
    have := hr0 ad2
    cases r with
    | none => rfl
    | some v => simpa using this
  rw [hr1] at k2
  exact k2
