/-! ===== THE A-LAYER: the machine's rows over places instead of addresses; a block of instructions is one row, by computation ===== -/
-- words that keep: all good words of the tables, and the links to nest mates
def isN : Cond → Bool
  | .fieldLinkNest _ _ _ _ _ _ => true
  | .methodLinkNest _ _ _ _ => true
  | _ => false
def kwl : List Cond := lw_tbl.filter (fun w => goodWord w || isN w)
def kw (U : State) : Prop := ∀ w ∈ kwl, w.before #[] U = true
theorem kw_one {args args' : Array Value} {s U : State} (hW : s.WarmedH U.vm) {w : Cond} (hg : (goodWord w || isN w) = true) (h : w.before args s = true) : w.before args' U = true := by
  rcases Bool.or_eq_true _ _ ▸ hg with h1 | h1
  · exact word_at hW (good_of_word h1) h
  · cases w with
    | methodLinkNest a b d f => exact va_Nw.use rfl (va_Nw.warmM hW (va_Nw.of rfl h))
    | fieldLinkNest a b d f g k => exact va_Nw.use rfl (va_Nw.warmF hW (va_Nw.of rfl h))
    | _ => exact absurd h1 (by simp [isN])
theorem kw.moved {s U : State} (hW : s.WarmedH U.vm) (h : kw s) : kw U := fun w hw => kw_one hW (List.mem_filter.mp hw).2 (h w hw)
theorem kw.use {args : Array Value} {s : State} (h : kw s) : ∀ w ∈ kwl, w.before args s = true := fun w hw => kw_one (State.WarmedH.refl s) (List.mem_filter.mp hw).2 (h w hw)
theorem kw.of {args : Array Value} {s : State} (h : ∀ w ∈ lw_tbl, w.before args s = true) : kw s := fun w hw => kw_one (State.WarmedH.refl s) (List.mem_filter.mp hw).2 (h w (List.mem_filter.mp hw).1)
theorem kw_mem {w : Cond} (h : w ∈ lw_tbl) (hg : (goodWord w || isN w) = true) : w ∈ kwl := List.mem_filter.mpr ⟨h, hg⟩
-- abstract cells: arrays of ints, of longs, objects (number of the class, fields); a reference is a place
abbrev aE : Type := (Nat × (Nat → Int32)) ⊕ (Nat × (Nat → Int64)) ⊕ (Nat × List Value)
abbrev aH : Type := List aE
abbrev aV : Type := List (Nat × Value)
abbrev aI (n : Nat) (f : Nat → Int32) : aE := .inl (n, f)
abbrev aL (n : Nat) (f : Nat → Int64) : aE := .inr (.inl (n, f))
abbrev aO (k : Nat) (fs : List Value) : aE := .inr (.inr (k, fs))
def ev (ad : Nat → Nat) : Value → Value
  | .ref i => .ref (ad i)
  | v => v
def ee (cI cL : ClassId) (ad : Nat → Nat) : aE → va_E
  | .inl x => .inl (cI, x.1, .inl x.2)
  | .inr (.inl x) => .inl (cL, x.1, .inr (.inl x.2))
  | .inr (.inr x) => .inr (x.1, x.2.map (ev ad))
def wl (cI cL : ClassId) (ad : Nat → Nat) (h : aH) : va_W := h.mapIdx (fun i e => (ad i, ee cI cL ad e))
def el (ad : Nat → Nat) (lv : aV) : aV := lv.map (fun q => (q.1, ev ad q.2))
theorem ev_cat (ad : Nat → Nat) (v : Value) : (ev ad v).category = v.category := by cases v <;> rfl
theorem wl_get {cI cL : ClassId} {ad : Nat → Nat} {h : aH} {i : Nat} {e : aE} (hi : h[i]? = some e) : (wl cI cL ad h)[i]? = some (ad i, ee cI cL ad e) := by
  simp [wl, List.getElem?_mapIdx, hi]
theorem wl_set {cI cL : ClassId} {ad : Nat → Nat} {h : aH} {i : Nat} {e : aE} : wl cI cL ad (h.set i e) = (wl cI cL ad h).set i (ad i, ee cI cL ad e) := by
  refine List.ext_getElem? fun k => ?_
  simp only [wl, List.getElem?_mapIdx, List.getElem?_set, List.length_mapIdx]
  by_cases hk : i = k
  · subst hk
    by_cases hl : i < h.length <;> simp [hl]
  · simp [hk]
theorem wl_snoc {cI cL : ClassId} {ad : Nat → Nat} {h : aH} {e : aE} : wl cI cL ad (h ++ [e]) = wl cI cL ad h ++ [(ad h.length, ee cI cL ad e)] := by
  simp [wl, List.mapIdx_append]
-- the frame: program, launch, environment, room, start, method, arguments, frames below, method, code, goal, names of the classes and fields, class of int[], of long[], what may be written, the first places, the script
abbrev aG : Type := Program × Launch × Env × Room × State × MethodId × Array Value × List Frame × Method × Code × (State → Prop) × va_G × ClassId × ClassId × (Nat → Prop) × (Nat → Nat) × Option (Nat × Nat × (Nat → Int32))
-- a method: its class, code, number of locals, number of places at its entry
abbrev aM : Type := String × ByteArray × Nat × Nat
def aok (M : aM) : aG → Prop
  | (p, _, _, _, s, m, _, _, _, c, _, D, cI, cL, A, ad0, X) => p.tables.exec = Jvm.exec ∧ c.code = M.2.1 ∧ c.maxLocals = M.2.2.1 ∧ s.vm.findClass M.1 = some m.cls ∧ kw s ∧ va_K D vwCl [(cI, .int), (cL, .long)] s ∧ (∀ q, s.heap.size ≤ q → A q) ∧
      ∀ pl L xs, X = some (pl, L, xs) → 100 ≤ pl ∧ va_X (ad0 pl) L xs s s.heap ∧ ad0 pl < s.heap.size ∧ ¬ A (ad0 pl)
def aRm : aG → Room
  | (_, _, _, R, _) => R
def AW (G : aG) (M : aM) (h : aH) (kc ks pc : Nat) (lv : aV) (st : List Value) : Prop := aok M G → match G with
  | (p, l, e, R, s, m, args, below, meth, c, Q, D, cI, cL, A, ad0, _) => ∀ (ad : Nat → Nat) (H : Heap) (locs : List Loc) (ls : Array Slot), (∀ i, i < M.2.2.2 ∨ 100 ≤ i → ad i = ad0 i) →
      va_P D vwCl (wl cI cL ad h) H → va_D A (wl cI cL ad h) → va_S A s.heap H locs → lv_has ls M.2.2.1 (el ad lv) → W p l e R s m args below meth c H locs kc ks Q (F0 m pc ls (st.map (ev ad)))
-- locals
def lk : aV → Nat → Option Value
  | [], _ => none
  | (j, v) :: r, i => bif Nat.beq j i then some v else lk r i
def stl (i : Nat) (v : Value) (lv : aV) : aV := (i, v) :: lv.filter (fun q => !(q.1 == i) && !(q.1 + 1 == i && q.2.category == 2))
def stl2 (i : Nat) (v : Value) (lv : aV) : aV := (i, v) :: lv.filter (fun q => !(q.1 == i) && (!(q.1 == i + 1) && !(q.1 + 1 == i && q.2.category == 2)))
theorem lk_at {ad : Nat → Nat} {ls : Array Slot} {nL i : Nat} {v : Value} : ∀ {lv : aV}, lv_has ls nL (el ad lv) → lk lv i = some v → ls[i]? = some (.val (ev ad v)) := by
  intro lv h
  have key : ∀ (l : aV), (∀ q ∈ l, q ∈ lv) → lk l i = some v → ls[i]? = some (.val (ev ad v)) := by
    intro l
    induction l with
    | nil => intro _ hl; simp [lk] at hl
    | cons q r ih =>
      intro hs hl
      obtain ⟨j, w⟩ := q
      cases hb : Nat.beq j i with
      | true =>
        simp only [lk, hb, cond_true] at hl
        cases hl
        have hj : j = i := Nat.eq_of_beq_eq_true hb
        subst hj
        exact h.2.2 (j, ev ad v) (List.mem_map.mpr ⟨(j, v), hs _ List.mem_cons_self, rfl⟩)
      | false =>
        simp only [lk, hb, cond_false] at hl
        exact ih (fun q hq => hs q (List.mem_cons_of_mem _ hq)) hl
  exact key lv (fun _ hq => hq)
theorem el_stl {ad : Nat → Nat} {i : Nat} {v : Value} {lv : aV} : (i, ev ad v) :: (el ad lv).filter (fun q => !(q.1 == i) && !(q.1 + 1 == i && q.2.category == 2)) = el ad (stl i v lv) := by
  simp only [el, stl, List.map_cons, List.filter_map]
  congr 2
  refine List.filter_congr fun q _ => ?_
  simp [ev_cat]
theorem el_stl2 {ad : Nat → Nat} {i : Nat} {v : Value} {lv : aV} : (i, ev ad v) :: (el ad lv).filter (fun q => !(q.1 == i) && (!(q.1 == i + 1) && !(q.1 + 1 == i && q.2.category == 2))) = el ad (stl2 i v lv) := by
  simp only [el, stl2, List.map_cons, List.filter_map]
  congr 2
  refine List.filter_congr fun q _ => ?_
  simp [ev_cat]
-- fewer, or otherwise ordered locals
def lsub (lv' lv : aV) : Prop := ∀ q ∈ lv', q ∈ lv
theorem AW.sub {G : aG} {M : aM} {h : aH} {kc ks pc : Nat} {lv lv' : aV} {st : List Value} (hs : lsub lv' lv) (k : AW G M h kc ks pc lv' st) : AW G M h kc ks pc lv st := by
  obtain ⟨p, l, e, R, s, m, args, below, meth, c, Q, D, cI, cL, A, ad0, X⟩ := G
  intro ok ad H locs ls ha hP hD hS hl
  refine k ok ad H locs ls ha hP hD hS ⟨hl.1, hl.2.1, fun q hq => hl.2.2 q ?_⟩
  obtain ⟨x, hx, rfl⟩ := List.mem_map.mp hq
  exact List.mem_map.mpr ⟨x, hs x hx, rfl⟩
theorem AW.widen {G : aG} {M : aM} {h : aH} {kc ks kc' ks' pc : Nat} {lv : aV} {st : List Value} (h1 : kc ≤ kc') (h2 : ks ≤ ks') (k : AW G M h kc' ks' pc lv st) : AW G M h kc ks pc lv st := by
  obtain ⟨p, l, e, R, s, m, args, below, meth, c, Q, D, cI, cL, A, ad0, X⟩ := G
  intro ok ad H locs ls ha hP hD hS hl
  exact W.widen h1 h2 (k ok ad H locs ls ha hP hD hS hl)
-- the last places are forgotten
theorem wl_take {cI cL : ClassId} {ad : Nat → Nat} {h : aH} {n : Nat} : wl cI cL ad (h.take n) = (wl cI cL ad h).take n := by
  refine List.ext_getElem? fun k => ?_
  simp only [wl, List.getElem?_mapIdx, List.getElem?_take]
  by_cases hk : k < n <;> simp [hk]
theorem va_P_take {D : va_G} {cl : List vw_C} {ws : va_W} {H : Heap} (n : Nat) (h : va_P D cl ws H) : va_P D cl (ws.take n) H := fun k q hq => by
  rw [List.getElem?_take] at hq
  by_cases hk : k < n
  · rw [if_pos hk] at hq; exact h k q hq
  · rw [if_neg hk] at hq; cases hq
theorem va_D_take {A : Nat → Prop} {ws : va_W} (n : Nat) (h : va_D A ws) : va_D A (ws.take n) := by
  have t : ∀ (k : Nat) (q : Nat × va_E), (ws.take n)[k]? = some q → ws[k]? = some q := fun k q hq => by
    rw [List.getElem?_take] at hq
    by_cases hk : k < n
    · rw [if_pos hk] at hq; exact hq
    · rw [if_neg hk] at hq; cases hq
  exact ⟨fun i j p q hi hj he => h.1 i j p q (t i p hi) (t j q hj) he, fun k q hk => h.2 k q (t k q hk)⟩
theorem AW.drop {G : aG} {M : aM} {h h' : aH} {kc ks pc : Nat} {lv : aV} {st : List Value} (n : Nat) (hh : h.take n = h') (k : AW G M h' kc ks pc lv st) : AW G M h kc ks pc lv st := by
  obtain ⟨p, l, e, R, s, m, args, below, meth, c, Q, D, cI, cL, A, ad0, X⟩ := G
  subst hh
  intro ok ad H locs ls ha hP hD hS hl
  refine k ok ad H locs ls ha ?_ ?_ hS hl
  · rw [wl_take]; exact va_P_take n hP
  · rw [wl_take]; exact va_D_take n hD
-- cells that hold the same
def ceq : aE → aE → Prop
  | .inl x, .inl y => x.1 = y.1 ∧ ∀ j, j < x.1 → x.2 j = y.2 j
  | .inr (.inl x), .inr (.inl y) => x.1 = y.1 ∧ ∀ j, j < x.1 → x.2 j = y.2 j
  | .inr (.inr x), .inr (.inr y) => x = y
  | _, _ => False
def hq9 : aH → aH → Prop
  | [], [] => True
  | a :: r, b :: q => ceq a b ∧ hq9 r q
  | _, _ => False
theorem arrV_congr {cA : ClassId} {n : Nat} {f g : Nat → Value} (h : ∀ j, j < n → f j = g j) : arrV cA n f = arrV cA n g := by
  have e : (fun j : Fin n => f j.val) = (fun j : Fin n => g j.val) := funext fun j => h j.val j.isLt
  unfold arrV
  rw [e]
theorem heq_get : ∀ {h g : aH}, hq9 h g → ∀ (k : Nat) (b : aE), g[k]? = some b → ∃ a, h[k]? = some a ∧ ceq a b := by
  intro h
  induction h with
  | nil => intro g hg k b hb; cases g with
    | nil => simp at hb
    | cons y q => exact hg.elim
  | cons x r ih => intro g hg k b hb; cases g with
    | nil => exact hg.elim
    | cons y q =>
      cases k with
      | zero => simp at hb; subst hb; exact ⟨x, rfl, hg.1⟩
      | succ k => simpa using ih hg.2 k b (by simpa using hb)
theorem heq_P {D : va_G} {cl : List vw_C} {cI cL : ClassId} {ad : Nat → Nat} {h g : aH} {H : Heap} (he : hq9 h g) (hP : va_P D cl (wl cI cL ad h) H) : va_P D cl (wl cI cL ad g) H := by
  intro k q hq
  simp only [wl, List.getElem?_mapIdx] at hq
  cases hb : g[k]? with
  | none => rw [hb] at hq; simp at hq
  | some b =>
    rw [hb] at hq
    simp at hq
    subst hq
    obtain ⟨a, ha, hc⟩ := heq_get he k b hb
    have h1 := hP k _ (wl_get ha)
    rcases a with ⟨n, f⟩ | ⟨n, f⟩ | ⟨n, f⟩ <;> rcases b with ⟨n', f'⟩ | ⟨n', f'⟩ | ⟨n', f'⟩ <;> first | exact hc.elim | skip
    · obtain ⟨rfl, hf⟩ := hc
      show H[ad k]? = some (vp_cell _ _)
      have h2 : H[ad k]? = some (vp_cell cI (n, .inl f)) := h1
      rw [h2, vp_cell_i, vp_cell_i]
      exact congrArg some (arrV_congr (f := fun j => .int (f j)) (g := fun j => .int (f' j)) (fun j hj => congrArg Value.int (hf j hj)))
    · obtain ⟨rfl, hf⟩ := hc
      show H[ad k]? = some (vp_cell _ _)
      have h2 : H[ad k]? = some (vp_cell cL (n, .inr (.inl f))) := h1
      rw [h2, vp_cell_l, vp_cell_l]
      exact congrArg some (arrV_congr (f := fun j => .long (f j)) (g := fun j => .long (f' j)) (fun j hj => congrArg Value.long (hf j hj)))
    · cases hc; exact h1
theorem heq_D {A : Nat → Prop} {cI cL : ClassId} {ad : Nat → Nat} {h g : aH} (he : hq9 h g) (hD : va_D A (wl cI cL ad h)) : va_D A (wl cI cL ad g) := by
  have t : ∀ (k : Nat) (q : Nat × va_E), (wl cI cL ad g)[k]? = some q → ∃ q', (wl cI cL ad h)[k]? = some q' ∧ q'.1 = q.1 := fun k q hq => by
    simp only [wl, List.getElem?_mapIdx] at hq
    cases hb : g[k]? with
    | none => rw [hb] at hq; simp at hq
    | some b =>
      rw [hb] at hq
      simp at hq
      subst hq
      obtain ⟨a, ha, hc⟩ := heq_get he k b hb
      exact ⟨_, wl_get ha, rfl⟩
  refine ⟨fun i j p q hi hj he => ?_, fun k q hk => ?_⟩
  · obtain ⟨p', hp, e1⟩ := t i p hi
    obtain ⟨q', hq, e2⟩ := t j q hj
    exact hD.1 i j p' q' hp hq (by rw [e1, e2, he])
  · obtain ⟨q', hq, e2⟩ := t k q hk
    rw [← e2]; exact hD.2 k q' hq
theorem AW.same {G : aG} {M : aM} {h h' : aH} {kc ks pc : Nat} {lv : aV} {st : List Value} (hh : hq9 h h') (k : AW G M h' kc ks pc lv st) : AW G M h kc ks pc lv st := by
  obtain ⟨p, l, e, R, s, m, args, below, meth, c, Q, D, cI, cL, A, ad0, X⟩ := G
  intro ok ad H locs ls ha hP hD hS hl
  exact k ok ad H locs ls ha (heq_P hh hP) (heq_D hh hD) hS hl
