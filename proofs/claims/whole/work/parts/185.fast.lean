/-! ===== calls over large heaps: what comes back, cell by cell ===== -/
def lkp : List Nat → aH → Nat → Option aE
  | i :: σ, e :: es, k => bif Nat.beq i k then some e else lkp σ es k
  | _, _, _ => none
def pb (σ : List Nat) (es : aH) : Nat → aH → aH
  | _, [] => []
  | k, e :: r => (lkp σ es k).getD e :: pb σ es (k + 1) r
theorem pb_get (σ : List Nat) (es : aH) : ∀ (h : aH) (n k : Nat), (pb σ es n h)[k]? = h[k]?.map (fun x => (lkp σ es (n + k)).getD x) := by
  intro h
  induction h with
  | nil => intro n k; simp [pb]
  | cons e r ih =>
    intro n k
    cases k with
    | zero => simp [pb]
    | succ k =>
      have := ih (n + 1) k
      rw [show n + 1 + k = n + (k + 1) by omega] at this
      simpa [pb] using this
theorem lkp_none : ∀ (σ : List Nat) (es : aH) (k : Nat), k ∉ σ → lkp σ es k = none := by
  intro σ
  induction σ with
  | nil => intro es k _; rfl
  | cons i r ih => intro es k hk; cases es with
    | nil => rfl
    | cons e q =>
      have hb : Nat.beq i k = false := by
        cases hx : Nat.beq i k with
        | false => rfl
        | true => exact absurd (List.mem_cons.mpr (Or.inl (Nat.eq_of_beq_eq_true hx).symm)) hk
      show (bif Nat.beq i k then some e else lkp r q k) = none
      rw [hb]
      exact ih q k (fun z => hk (List.mem_cons_of_mem _ z))
theorem pb_eq : ∀ (σ : List Nat) (es h : aH), va_nd σ = true → pb σ es 0 h = putb σ es h := by
  intro σ
  induction σ with
  | nil =>
    intro es h _
    refine List.ext_getElem? fun k => ?_
    rw [pb_get]
    have : putb [] es h = h := by cases es <;> rfl
    rw [this]
    cases h[k]? <;> rfl
  | cons i r ih =>
    intro es h hn
    cases es with
    | nil =>
      refine List.ext_getElem? fun k => ?_
      rw [pb_get]
      show _ = h[k]?
      cases h[k]? <;> rfl
    | cons e q =>
      simp only [va_nd, Bool.and_eq_true, decide_eq_true_eq] at hn
      show pb (i :: r) (e :: q) 0 h = putb r q (h.set i e)
      rw [← ih q (h.set i e) hn.2]
      refine List.ext_getElem? fun k => ?_
      rw [pb_get, pb_get]
      simp only [Nat.zero_add]
      show h[k]?.map (fun x => (bif Nat.beq i k then some e else lkp r q k).getD x) = (h.set i e)[k]?.map (fun x => (lkp r q k).getD x)
      by_cases hk : i = k
      · subst hk
        have hb : Nat.beq i i = true := Nat.beq_refl i
        rw [hb, lkp_none r q i hn.1]
        by_cases hl : i < h.length
        · simp [hl]
        · simp [hl]
      · have hb : Nat.beq i k = false := by
          cases hx : Nat.beq i k with
          | false => rfl
          | true => exact absurd (Nat.eq_of_beq_eq_true hx) hk
        rw [hb, List.getElem?_set_ne hk]
        rfl
theorem AW.callSp {G : aG} {M : aM} {tb : List (Nat × Instr)} {FT PT : List (Nat × Nat × Nat)} (hm : amok M tb FT PT) (i : Nat) {h hc hc' h1 : aH} {kc ks pc idx maxL n : Nat} {lv : aV} {as rest st st' : List Value} {y : MethodName} {b : ByteArray} {ret : Option FieldType} {rm R : Room} {r : Option Value}
    (hc0 : AMet y b maxL ret rm as hc r hc') (σ δ : List Nat) (hy : yok y b maxL ret n) (hstat : Cond.static y ∈ kwl) (hlk : mlnk M.1 idx y) (hn : as.length = n)
    (hi : tb[i]? = some (pc, .invokestatic idx)) (hst : st = (as.map (rv σ δ)).reverse ++ rest) (hcat : Nat.ble (rest.map fun v => v.category).sum 8 = true)
    (hR : aRm G = R) (hRR : rm.frames + 1 ≤ R.frames ∧ 8 + (maxL + 11) + rm.locals ≤ R.locals ∧ kc + rm.cells ≤ R.cells ∧ ks + rm.slots ≤ R.slots)
    (hsub : σ.map (fun i => h[i]?) = (hc.map (rE σ δ)).map some) (hnd : va_nd σ = true) (hlen : hc'.length = hc.length) (h100 : Nat.ble hc.length 100 = true) (hok : hc'.all (okE hc.length) = true) (hr0 : ∀ ad, r.map (ev ad) = r)
    (hh1 : pb σ (hc'.map (rE σ δ)) 0 h = h1) (hst' : r.toList ++ rest = st') (k : AW G M h1 (kc + rm.cells) (ks + rm.slots) (pc + 3) lv st') : AW G M h kc ks pc lv st := AW.callS hm i hc0 σ δ hy hstat hlk hn hi hst hcat hR hRR hsub hnd hlen h100 hok hr0 ((pb_eq _ _ _ hnd).symm.trans hh1) hst' k
theorem AW.callVp {G : aG} {M : aM} {tb : List (Nat × Instr)} {FT PT : List (Nat × Nat × Nat)} (hm : amok M tb FT PT) (i : Nat) {h hc hc' h1 : aH} {kc ks pc idx maxL n : Nat} {lv : aV} {as rest st st' : List Value} {ci : Nat} {fs : List Value} {hcr : aH} {y : MethodName} {b : ByteArray} {ret : Option FieldType} {rm R : Room} {r : Option Value}
    (hc0 : AMet y b maxL ret rm (.ref 0 :: as) hc r hc') (hrec : hc = aO ci fs :: hcr) (hcl : (vwCl[ci]?).map (fun q => q.1) = some y.cls) (σ δ : List Nat) (hy : yok y b maxL ret n) (hinst : Cond.instanceMethod y ∈ kwl) (hsel : Cond.selects y.cls y y ∈ kwl) (hlk : mlnk M.1 idx y) (hn : as.length = n)
    (hi : tb[i]? = some (pc, .invokevirtual idx)) (hst : st = (as.map (rv σ δ)).reverse ++ .ref (sg σ δ 0) :: rest) (hcat : Nat.ble (rest.map fun v => v.category).sum 8 = true)
    (hR : aRm G = R) (hRR : rm.frames + 1 ≤ R.frames ∧ 8 + (maxL + 11) + rm.locals ≤ R.locals ∧ kc + rm.cells ≤ R.cells ∧ ks + rm.slots ≤ R.slots)
    (hsub : σ.map (fun i => h[i]?) = (hc.map (rE σ δ)).map some) (hnd : va_nd σ = true) (hlen : hc'.length = hc.length) (h100 : Nat.ble hc.length 100 = true) (hok : hc'.all (okE hc.length) = true) (hr0 : ∀ ad, r.map (ev ad) = r)
    (hh1 : pb σ (hc'.map (rE σ δ)) 0 h = h1) (hst' : r.toList ++ rest = st') (k : AW G M h1 (kc + rm.cells) (ks + rm.slots) (pc + 3) lv st') : AW G M h kc ks pc lv st := AW.callV hm i hc0 hrec hcl σ δ hy hinst hsel hlk hn hi hst hcat hR hRR hsub hnd hlen h100 hok hr0 ((pb_eq _ _ _ hnd).symm.trans hh1) hst' k
