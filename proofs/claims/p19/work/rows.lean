section
/-! ===== NO PROOF OF THE PROPERTY: these rows show that the statement of p19 is EMPTY. Its head names the law's entry by a word that says 'no exception table'; the law's own class file, which the same statement fixes, has one (the try round buy). ===== -/
/-- by the statement's own class file the entry has not the code that the statement's head says: not without an exception table -/
theorem p19_head_false : classFile.hasCode x code maxLocals ret = false := by decide +kernel
/-- it has that code with an exception table of one row, and differs from the head in nothing else -/
theorem p19_head_with : classFile.hasCodeWith x code maxLocals ret [(280, 288, 291, 62)] = true := by decide +kernel
theorem p19_codes_cons (w : Cond) (ts : List Cond) : (allAtoms (w :: ts)).codes = w.codes ++ (allAtoms ts).codes := rfl
/-- so no launch meets the statement's premises -/
theorem p19_no_launch (l : Launch) : ¬ Lists l classFile x code maxLocals ret tables_1 room_1 := by
  intro h
  obtain ⟨-, hf, ⟨hc, -⟩, -⟩ := h
  have hm : ((x, code, maxLocals, ret) : MethodName × ByteArray × Nat × Option FieldType) ∈ (headSpec (Cond.code x code maxLocals ret :: tables_1) room_1).pre.codes ++ (headSpec (Cond.code x code maxLocals ret :: tables_1) room_1).post.codes := by
    refine List.mem_append_left _ ?_
    show (x, code, maxLocals, ret) ∈ (allAtoms (Cond.code x code maxLocals ret :: tables_1)).codes
    rw [p19_codes_cons]
    exact List.mem_append_left _ List.mem_cons_self
  have h2 := hc _ hm
  have h3 : ((l.file? x.cls).any fun f => f.hasCode x code maxLocals ret) = true := h2
  rw [hf, Option.any_some, p19_head_false] at h3
  cases h3
/-- and whatever is put behind these premises is true of no run at all: also that the law answers 0, or never returns -/
theorem p19_empty (Post : Tables → Env → Array Value → State → Outcome → State → Prop) : ArmFor flags0 classFile x code maxLocals ret World_1 tables_1 room_1 Calls_1 rest_1 Pre_1 Post :=
  fun l _ hL _ => absurd hL (p19_no_launch l)
/-- no start meets them: what the printed witness is to show is false -/
theorem p19_no_witness : ¬ WitnessClaimed_1 := by
  rintro ⟨p, e, s, m, args, below, h, -⟩
  exact p19_no_launch _ h
end
