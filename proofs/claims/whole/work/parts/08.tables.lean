/-! ===== tables, by program ===== -/
def ftb (own : String) (x : Nat × Nat × Nat) : Bool := match vwCl[x.2.1]? with
  | some q => decide (x.2.2 < q.2.2) && kwl.any (fun w => match w with
    | .fieldLink o i a b d => o == own && i == x.1 && a == (q.2.1 x.2.2).1 && b == (q.2.1 x.2.2).2.1 && d == (q.2.1 x.2.2).2.2.1
    | .fieldLinkNest o i a b d _ => o == own && i == x.1 && a == (q.2.1 x.2.2).1 && b == (q.2.1 x.2.2).2.1 && d == (q.2.1 x.2.2).2.2.1
    | _ => false)
  | none => false
theorem ftb_ok {own : String} {x : Nat × Nat × Nat} (h : ftb own x = true) : ∃ (C : String) (T : u_T) (N : Nat), vwCl[x.2.1]? = some (C, T, N) ∧ x.2.2 < N ∧ lnk own x.1 (T x.2.2).1 (T x.2.2).2.1 (T x.2.2).2.2.1 := by
  unfold ftb at h
  split at h
  · rename_i q hq
    obtain ⟨C, T, N⟩ := q
    obtain ⟨h1, h2⟩ := (Bool.and_eq_true _ _).mp h
    obtain ⟨w, hw, hb⟩ := List.any_eq_true.mp h2
    refine ⟨C, T, N, hq, of_decide_eq_true h1, ?_⟩
    split at hb
    · simp only [Bool.and_eq_true, beq_iff_eq] at hb
      obtain ⟨⟨⟨⟨e1, e2⟩, e3⟩, e4⟩, e5⟩ := hb
      subst e1; subst e2; subst e3; subst e4; subst e5
      exact Or.inl hw
    · rename_i host
      simp only [Bool.and_eq_true, beq_iff_eq] at hb
      obtain ⟨⟨⟨⟨e1, e2⟩, e3⟩, e4⟩, e5⟩ := hb
      subst e1; subst e2; subst e3; subst e4; subst e5
      exact Or.inr ⟨_, hw⟩
    · cases hb
  · cases h
theorem FTok_of {own : String} {FT : List (Nat × Nat × Nat)} (h : FT.all (ftb own) = true) : FTok own FT := fun x hx => ftb_ok (List.all_eq_true.mp h x hx)
def ptb (x : Nat × Nat × Nat) : Bool := match vwCl[x.2.1]? with
  | some q => !(q.2.1 x.2.2).2.2.2 && decide (parseFieldDescriptor (q.2.1 x.2.2).2.2.1 = some .int)
  | none => false
theorem PTok_of {own : String} {PT : List (Nat × Nat × Nat)} (h : PT.all (fun x => ftb own x && ptb x) = true) : PTok own PT := fun x hx => by
  obtain ⟨h1, h2⟩ := (Bool.and_eq_true _ _).mp (List.all_eq_true.mp h x hx)
  obtain ⟨C, T, N, q1, q2, q3⟩ := ftb_ok h1
  unfold ptb at h2
  rw [q1] at h2
  obtain ⟨h3, h4⟩ := (Bool.and_eq_true _ _).mp h2
  exact ⟨C, T, N, q1, q2, q3, by simpa using h3, of_decide_eq_true h4⟩
theorem tbok_of {cc : ByteArray} {tb : List (Nat × Instr)} (h : tb.all (fun x => decide (decode cc x.1 = .ok (x.2, ilen x.2))) = true) : tbok cc tb := fun x hx => of_decide_eq_true (List.all_eq_true.mp h x hx)
def FTX0 : List (Nat × Nat × Nat) := [(9, 0, 0), (15, 0, 1), (18, 0, 2), (21, 0, 3), (24, 0, 4), (27, 0, 5), (30, 0, 6), (33, 0, 7), (36, 0, 8), (39, 0, 9), (42, 0, 10), (45, 0, 11), (54, 0, 12), (58, 0, 13)]
theorem ftX0 : FTok RX0 FTX0 := FTok_of (by decide +kernel)
def PTX0 : List (Nat × Nat × Nat) := [(54, 0, 12), (58, 0, 13)]
theorem ptX0 : PTok RX0 PTX0 := PTok_of (by decide +kernel)
def FTX1 : List (Nat × Nat × Nat) := [(10, 1, 0), (16, 1, 1), (19, 1, 2), (36, 0, 1), (39, 0, 2), (49, 0, 5), (58, 0, 0), (63, 0, 12), (79, 0, 6), (85, 0, 9), (90, 0, 8)]
theorem ftX1 : FTok RX1 FTX1 := FTok_of (by decide +kernel)
def PTX1 : List (Nat × Nat × Nat) := [(63, 0, 12)]
theorem ptX1 : PTok RX1 PTX1 := PTok_of (by decide +kernel)
def FTX2 : List (Nat × Nat × Nat) := [(3, 2, 9), (15, 2, 1), (19, 2, 2), (22, 2, 3), (25, 2, 4), (28, 2, 5), (31, 2, 6), (34, 2, 7), (37, 2, 8), (46, 2, 0), (54, 3, 5), (70, 3, 2), (76, 3, 3), (79, 3, 1), (82, 3, 4)]
theorem ftX2 : FTok RX2 FTX2 := FTok_of (by decide +kernel)
def PTX2 : List (Nat × Nat × Nat) := [(46, 2, 0), (82, 3, 4)]
theorem ptX2 : PTok RX2 PTX2 := PTok_of (by decide +kernel)
def FTX3 : List (Nat × Nat × Nat) := [(9, 3, 1), (13, 3, 2), (16, 3, 3), (19, 3, 5), (22, 3, 6), (30, 3, 7), (34, 3, 8), (37, 2, 2), (40, 3, 0), (48, 3, 4), (63, 2, 1), (71, 2, 4), (74, 2, 5), (83, 2, 6), (89, 2, 7), (92, 2, 8), (101, 2, 3), (107, 2, 0)]
theorem ftX3 : FTok RX3 FTX3 := FTok_of (by decide +kernel)
def PTX3 : List (Nat × Nat × Nat) := [(40, 3, 0), (48, 3, 4), (107, 2, 0)]
theorem ptX3 : PTok RX3 PTX3 := PTok_of (by decide +kernel)
def FTL : List (Nat × Nat × Nat) := []
theorem ftL : FTok RL FTL := FTok_of (by decide +kernel)
def PTL : List (Nat × Nat × Nat) := []
theorem ptL : PTok RL PTL := PTok_of (by decide +kernel)
def tbX0_init : List (Nat × Instr) := [(0, .aload_n 0), (1, .invokespecial 3), (4, .aload_n 0), (5, .bipush 9), (7, .newarray .int), (9, .putfield 9), (12, .aload_n 0), (13, .bipush 9), (15, .newarray .int), (17, .putfield 15), (20, .aload_n 0), (21, .bipush 9), (23, .newarray .int), (25, .putfield 18), (28, .aload_n 0), (29, .bipush 9), (31, .newarray .int), (33, .putfield 21), (36, .aload_n 0), (37, .bipush 9), (39, .newarray .int), (41, .putfield 24), (44, .aload_n 0), (45, .bipush 8), (47, .newarray .int), (49, .putfield 27), (52, .aload_n 0), (53, .bipush 8), (55, .newarray .int), (57, .putfield 30), (60, .aload_n 0), (61, .bipush 8), (63, .newarray .int), (65, .putfield 33), (68, .aload_n 0), (69, .bipush 8), (71, .newarray .int), (73, .putfield 36), (76, .aload_n 0), (77, .bipush 8), (79, .newarray .int), (81, .putfield 39), (84, .aload_n 0), (85, .bipush 8), (87, .newarray .int), (89, .putfield 42), (92, .aload_n 0), (93, .bipush 8), (95, .newarray .int), (97, .putfield 45), (100, .iconst 0), (101, .istore_n 1), (102, .iload_n 1), (103, .bipush 9), (105, .if_icmp .ge 31), (108, .aload_n 0), (109, .getfield 15), (112, .iload_n 1), (113, .iconst 2), (114, .iastore), (115, .aload_n 0), (116, .getfield 18), (119, .iload_n 1), (120, .bipush 10), (122, .iastore), (123, .aload_n 0), (124, .getfield 21), (127, .iload_n 1), (128, .iconst (-1)), (129, .iastore), (130, .iinc 1 1), (133, .goto (-31)), (136, .return_)]
theorem amX0_init (n : Nat) : amok (yX0_init.cls, cX0_init, 2, n) tbX0_init FTX0 PTX0 := ⟨tbok_of (cc := cX0_init) (by decide +kernel), ftX0, ptX0⟩
def tbX0_copyFrom : List (Nat × Instr) := [(0, .aload_n 1), (1, .ifnonnull 4), (4, .return_), (5, .aload_n 1), (6, .getfield 9), (9, .iconst 0), (10, .aload_n 0), (11, .getfield 9), (14, .iconst 0), (15, .bipush 9), (17, .invokestatic 48), (20, .aload_n 1), (21, .getfield 15), (24, .iconst 0), (25, .aload_n 0), (26, .getfield 15), (29, .iconst 0), (30, .bipush 9), (32, .invokestatic 48), (35, .aload_n 1), (36, .getfield 18), (39, .iconst 0), (40, .aload_n 0), (41, .getfield 18), (44, .iconst 0), (45, .bipush 9), (47, .invokestatic 48), (50, .aload_n 1), (51, .getfield 21), (54, .iconst 0), (55, .aload_n 0), (56, .getfield 21), (59, .iconst 0), (60, .bipush 9), (62, .invokestatic 48), (65, .aload_n 1), (66, .getfield 24), (69, .iconst 0), (70, .aload_n 0), (71, .getfield 24), (74, .iconst 0), (75, .bipush 9), (77, .invokestatic 48), (80, .aload_n 1), (81, .getfield 27), (84, .iconst 0), (85, .aload_n 0), (86, .getfield 27), (89, .iconst 0), (90, .bipush 8), (92, .invokestatic 48), (95, .aload_n 1), (96, .getfield 30), (99, .iconst 0), (100, .aload_n 0), (101, .getfield 30), (104, .iconst 0), (105, .bipush 8), (107, .invokestatic 48), (110, .aload_n 1), (111, .getfield 33), (114, .iconst 0), (115, .aload_n 0), (116, .getfield 33), (119, .iconst 0), (120, .bipush 8), (122, .invokestatic 48), (125, .aload_n 1), (126, .getfield 36), (129, .iconst 0), (130, .aload_n 0), (131, .getfield 36), (134, .iconst 0), (135, .bipush 8), (137, .invokestatic 48), (140, .aload_n 1), (141, .getfield 39), (144, .iconst 0), (145, .aload_n 0), (146, .getfield 39), (149, .iconst 0), (150, .bipush 8), (152, .invokestatic 48), (155, .aload_n 1), (156, .getfield 42), (159, .iconst 0), (160, .aload_n 0), (161, .getfield 42), (164, .iconst 0), (165, .bipush 8), (167, .invokestatic 48), (170, .aload_n 1), (171, .getfield 45), (174, .iconst 0), (175, .aload_n 0), (176, .getfield 45), (179, .iconst 0), (180, .bipush 8), (182, .invokestatic 48), (185, .aload_n 0), (186, .aload_n 1), (187, .getfield 54), (190, .putfield 54), (193, .aload_n 0), (194, .aload_n 1), (195, .getfield 58), (198, .putfield 58), (201, .return_)]
theorem amX0_copyFrom (n : Nat) : amok (yX0_copyFrom.cls, cX0_copyFrom, 2, n) tbX0_copyFrom FTX0 PTX0 := ⟨tbok_of (cc := cX0_copyFrom) (by decide +kernel), ftX0, ptX0⟩
def tbX0_isSweeper : List (Nat × Instr) := [(0, .iload_n 1), (1, .ifCond .lt 21), (4, .iload_n 1), (5, .bipush 8), (7, .if_icmp .ge 15), (10, .iload_n 1), (11, .aload_n 0), (12, .getfield 54), (15, .if_icmp .ge 7), (18, .iconst 1), (19, .goto 4), (22, .iconst 0), (23, .ireturn)]
theorem amX0_isSweeper (n : Nat) : amok (yX0_isSweeper.cls, cX0_isSweeper, 2, n) tbX0_isSweeper FTX0 PTX0 := ⟨tbok_of (cc := cX0_isSweeper) (by decide +kernel), ftX0, ptX0⟩
def tbX0_holdsPitch : List (Nat × Instr) := [(0, .aload_n 0), (1, .iload_n 1), (2, .invokevirtual 61), (5, .ifCond .eq 34), (8, .aload_n 0), (9, .getfield 30), (12, .iload_n 1), (13, .iaload), (14, .invokestatic 65), (17, .ifCond .eq 22), (20, .aload_n 0), (21, .getfield 21), (24, .aload_n 0), (25, .getfield 30), (28, .iload_n 1), (29, .iaload), (30, .iaload), (31, .iload_n 1), (32, .if_icmp .ne 7), (35, .iconst 1), (36, .goto 4), (39, .iconst 0), (40, .ireturn)]
theorem amX0_holdsPitch (n : Nat) : amok (yX0_holdsPitch.cls, cX0_holdsPitch, 2, n) tbX0_holdsPitch FTX0 PTX0 := ⟨tbok_of (cc := cX0_holdsPitch) (by decide +kernel), ftX0, ptX0⟩
def tbX0_reach : List (Nat × Instr) := [(0, .aload_n 0), (1, .iload_n 1), (2, .invokevirtual 61), (5, .ifCond .eq 22), (8, .aload_n 0), (9, .getfield 33), (12, .iload_n 1), (13, .iaload), (14, .aload_n 0), (15, .getfield 36), (18, .iload_n 1), (19, .iaload), (20, .bipush 8), (22, .idiv), (23, .iadd), (24, .goto 4), (27, .iconst 0), (28, .ireturn)]
theorem amX0_reach (n : Nat) : amok (yX0_reach.cls, cX0_reach, 2, n) tbX0_reach FTX0 PTX0 := ⟨tbok_of (cc := cX0_reach) (by decide +kernel), ftX0, ptX0⟩
def tbX0_addMud : List (Nat × Instr) := [(0, .iload_n 1), (1, .invokestatic 65), (4, .ifCond .eq 22), (7, .aload_n 0), (8, .getfield 9), (11, .iload_n 1), (12, .bipush 50), (14, .aload_n 0), (15, .getfield 9), (18, .iload_n 1), (19, .iaload), (20, .iload_n 2), (21, .iadd), (22, .invokestatic 68), (25, .iastore), (26, .return_)]
theorem amX0_addMud (n : Nat) : amok (yX0_addMud.cls, cX0_addMud, 3, n) tbX0_addMud FTX0 PTX0 := ⟨tbok_of (cc := cX0_addMud) (by decide +kernel), ftX0, ptX0⟩
def tbX0_admit : List (Nat × Instr) := [(0, .aload_n 0), (1, .getfield 54), (4, .istore_n 3), (5, .iload_n 3), (6, .ifCond .lt 9), (9, .iload_n 3), (10, .bipush 8), (12, .if_icmp .lt 5), (15, .iconst (-1)), (16, .ireturn), (17, .aload_n 0), (18, .getfield 30), (21, .iload_n 3), (22, .iload_n 1), (23, .iastore), (24, .aload_n 0), (25, .getfield 33), (28, .iload_n 3), (29, .iload_n 2), (30, .iastore), (31, .aload_n 0), (32, .getfield 36), (35, .iload_n 3), (36, .bipush 40), (38, .iastore), (39, .aload_n 0), (40, .iload_n 3), (41, .iconst 1), (42, .iadd), (43, .putfield 54), (46, .iload_n 3), (47, .ireturn)]
theorem amX0_admit (n : Nat) : amok (yX0_admit.cls, cX0_admit, 4, n) tbX0_admit FTX0 PTX0 := ⟨tbok_of (cc := cX0_admit) (by decide +kernel), ftX0, ptX0⟩
def tbX0_moveTo : List (Nat × Instr) := [(0, .aload_n 0), (1, .iload_n 1), (2, .invokevirtual 61), (5, .ifCond .ne 4), (8, .return_), (9, .aload_n 0), (10, .getfield 30), (13, .iload_n 1), (14, .iaload), (15, .istore_n 3), (16, .iload_n 3), (17, .invokestatic 65), (20, .ifCond .eq 20), (23, .aload_n 0), (24, .getfield 21), (27, .iload_n 3), (28, .iaload), (29, .iload_n 1), (30, .if_icmp .ne 10), (33, .aload_n 0), (34, .getfield 21), (37, .iload_n 3), (38, .iconst (-1)), (39, .iastore), (40, .aload_n 0), (41, .getfield 30), (44, .iload_n 1), (45, .iload_n 2), (46, .iastore), (47, .return_)]
theorem amX0_moveTo (n : Nat) : amok (yX0_moveTo.cls, cX0_moveTo, 4, n) tbX0_moveTo FTX0 PTX0 := ⟨tbok_of (cc := cX0_moveTo) (by decide +kernel), ftX0, ptX0⟩
def tbX0_live : List (Nat × Instr) := [(0, .iconst 0), (1, .istore_n 2), (2, .iconst 0), (3, .istore_n 3), (4, .iload_n 3), (5, .bipush 96), (7, .if_icmp .ge 21), (10, .iload_n 3), (11, .iload_n 1), (12, .if_icmp .ge 16), (15, .iload_n 2), (16, .aload_n 0), (17, .invokevirtual 74), (20, .iadd), (21, .istore_n 2), (22, .iinc 3 1), (25, .goto (-21)), (28, .iload_n 2), (29, .ireturn)]
theorem amX0_live (n : Nat) : amok (yX0_live.cls, cX0_live, 4, n) tbX0_live FTX0 PTX0 := ⟨tbok_of (cc := cX0_live) (by decide +kernel), ftX0, ptX0⟩
def tbX0_liveQuarter : List (Nat × Instr) := [(0, .aload_n 0), (1, .getfield 58), (4, .bipush 8), (6, .irem), (7, .istore_n 1), (8, .iload_n 1), (9, .ifCond .lt 18), (12, .iload_n 1), (13, .bipush 8), (15, .if_icmp .ge 12), (18, .aload_n 0), (19, .getfield 27), (22, .iload_n 1), (23, .iaload), (24, .goto 4), (27, .iconst 0), (28, .istore_n 2), (29, .iconst 0), (30, .istore_n 3), (31, .iload_n 3), (32, .bipush 9), (34, .if_icmp .ge 22), (37, .aload_n 0), (38, .iload_n 3), (39, .aload_n 0), (40, .getfield 15), (43, .iload_n 3), (44, .iaload), (45, .iload_n 2), (46, .iadd), (47, .invokevirtual 78), (50, .iinc 3 1), (53, .goto (-22)), (56, .iconst 0), (57, .istore_n 3), (58, .iload_n 2), (59, .bipush 6), (61, .if_icmp .ge 12), (64, .aload_n 0), (65, .invokevirtual 82), (68, .aload_n 0), (69, .invokevirtual 85), (72, .istore_n 3), (73, .iconst 0), (74, .istore 4), (76, .iload 4), (78, .bipush 8), (80, .if_icmp .ge 33), (83, .iload 4), (85, .aload_n 0), (86, .getfield 54), (89, .if_icmp .ge 24), (92, .aload_n 0), (93, .iload 4), (95, .invokevirtual 88), (98, .ifCond .ne 9), (101, .aload_n 0), (102, .iload 4), (104, .invokevirtual 91), (107, .iinc 4 1), (110, .goto (-34)), (113, .aload_n 0), (114, .dup), (115, .getfield 58), (118, .iconst 1), (119, .iadd), (120, .putfield 58), (123, .iload_n 3), (124, .ireturn)]
theorem amX0_liveQuarter (n : Nat) : amok (yX0_liveQuarter.cls, cX0_liveQuarter, 5, n) tbX0_liveQuarter FTX0 PTX0 := ⟨tbok_of (cc := cX0_liveQuarter) (by decide +kernel), ftX0, ptX0⟩
def tbX0_sweepAll : List (Nat × Instr) := [(0, .iconst 0), (1, .istore_n 1), (2, .iload_n 1), (3, .bipush 8), (5, .if_icmp .ge 94), (8, .iload_n 1), (9, .aload_n 0), (10, .getfield 54), (13, .if_icmp .ge 86), (16, .aload_n 0), (17, .getfield 30), (20, .iload_n 1), (21, .iaload), (22, .istore_n 2), (23, .iload_n 2), (24, .invokestatic 65), (27, .ifCond .eq 66), (30, .aload_n 0), (31, .getfield 21), (34, .iload_n 2), (35, .iaload), (36, .iload_n 1), (37, .if_icmp .ne 56), (40, .aload_n 0), (41, .getfield 9), (44, .iload_n 2), (45, .iaload), (46, .aload_n 0), (47, .iload_n 1), (48, .invokevirtual 95), (51, .invokestatic 68), (54, .istore_n 3), (55, .aload_n 0), (56, .getfield 9), (59, .iload_n 2), (60, .dup2), (61, .iaload), (62, .iload_n 3), (63, .isub), (64, .iastore), (65, .aload_n 0), (66, .getfield 42), (69, .iload_n 1), (70, .dup2), (71, .iaload), (72, .iload_n 3), (73, .iadd), (74, .iastore), (75, .aload_n 0), (76, .getfield 36), (79, .iload_n 1), (80, .iconst 0), (81, .aload_n 0), (82, .getfield 36), (85, .iload_n 1), (86, .iaload), (87, .iconst 1), (88, .isub), (89, .invokestatic 99), (92, .iastore), (93, .iinc 1 1), (96, .goto (-94)), (99, .return_)]
theorem amX0_sweepAll (n : Nat) : amok (yX0_sweepAll.cls, cX0_sweepAll, 4, n) tbX0_sweepAll FTX0 PTX0 := ⟨tbok_of (cc := cX0_sweepAll) (by decide +kernel), ftX0, ptX0⟩
def tbX0_payAll : List (Nat × Instr) := [(0, .iconst 0), (1, .istore_n 1), (2, .iconst 0), (3, .istore_n 2), (4, .iload_n 2), (5, .bipush 9), (7, .if_icmp .ge 58), (10, .aload_n 0), (11, .getfield 21), (14, .iload_n 2), (15, .iaload), (16, .istore_n 3), (17, .aload_n 0), (18, .iload_n 3), (19, .invokevirtual 61), (22, .ifCond .eq 37), (25, .aload_n 0), (26, .iload_n 2), (27, .invokevirtual 102), (30, .istore 4), (32, .aload_n 0), (33, .getfield 39), (36, .iload_n 3), (37, .dup2), (38, .iaload), (39, .iload 4), (41, .iadd), (42, .iastore), (43, .aload_n 0), (44, .getfield 24), (47, .iload_n 2), (48, .dup2), (49, .iaload), (50, .iload 4), (52, .iadd), (53, .iastore), (54, .iload_n 1), (55, .iload 4), (57, .iadd), (58, .istore_n 1), (59, .iinc 2 1), (62, .goto (-58)), (65, .iload_n 1), (66, .ireturn)]
theorem amX0_payAll (n : Nat) : amok (yX0_payAll.cls, cX0_payAll, 5, n) tbX0_payAll FTX0 PTX0 := ⟨tbok_of (cc := cX0_payAll) (by decide +kernel), ftX0, ptX0⟩
def tbX0_wage : List (Nat × Instr) := [(0, .iload_n 1), (1, .invokestatic 65), (4, .ifCond .eq 14), (7, .aload_n 0), (8, .getfield 9), (11, .iload_n 1), (12, .iaload), (13, .bipush 15), (15, .if_icmp .le 5), (18, .iconst 0), (19, .ireturn), (20, .aload_n 0), (21, .getfield 9), (24, .iload_n 1), (25, .iaload), (26, .iconst 5), (27, .if_icmp .gt 14), (30, .aload_n 0), (31, .getfield 18), (34, .iload_n 1), (35, .iaload), (36, .iconst 2), (37, .idiv), (38, .goto 11), (41, .aload_n 0), (42, .getfield 18), (45, .iload_n 1), (46, .iaload), (47, .iconst 5), (48, .idiv), (49, .ireturn)]
theorem amX0_wage (n : Nat) : amok (yX0_wage.cls, cX0_wage, 2, n) tbX0_wage FTX0 PTX0 := ⟨tbok_of (cc := cX0_wage) (by decide +kernel), ftX0, ptX0⟩
def tbX0_seekPitch : List (Nat × Instr) := [(0, .aload_n 0), (1, .iload_n 1), (2, .invokevirtual 61), (5, .ifCond .eq 15), (8, .aload_n 0), (9, .getfield 30), (12, .iload_n 1), (13, .iaload), (14, .invokestatic 65), (17, .ifCond .ne 4), (20, .return_), (21, .aload_n 0), (22, .getfield 30), (25, .iload_n 1), (26, .iaload), (27, .istore_n 2), (28, .aload_n 0), (29, .getfield 21), (32, .iload_n 2), (33, .iaload), (34, .istore_n 3), (35, .aload_n 0), (36, .iload_n 3), (37, .invokevirtual 61), (40, .ifCond .ne 13), (43, .aload_n 0), (44, .getfield 21), (47, .iload_n 2), (48, .iload_n 1), (49, .iastore), (50, .goto 49), (53, .aload_n 0), (54, .getfield 33), (57, .iload_n 3), (58, .iaload), (59, .aload_n 0), (60, .getfield 33), (63, .iload_n 1), (64, .iaload), (65, .if_icmp .ge 23), (68, .aload_n 0), (69, .getfield 45), (72, .iload_n 3), (73, .dup2), (74, .iaload), (75, .iconst 1), (76, .iadd), (77, .iastore), (78, .aload_n 0), (79, .getfield 21), (82, .iload_n 2), (83, .iload_n 1), (84, .iastore), (85, .goto 14), (88, .aload_n 0), (89, .getfield 30), (92, .iload_n 1), (93, .aload_n 0), (94, .iload_n 2), (95, .invokevirtual 105), (98, .iastore), (99, .return_)]
theorem amX0_seekPitch (n : Nat) : amok (yX0_seekPitch.cls, cX0_seekPitch, 4, n) tbX0_seekPitch FTX0 PTX0 := ⟨tbok_of (cc := cX0_seekPitch) (by decide +kernel), ftX0, ptX0⟩
def tbX0_busiestNeighbour : List (Nat × Instr) := [(0, .iload_n 1), (1, .istore_n 2), (2, .iconst (-1)), (3, .istore_n 3), (4, .iconst 0), (5, .istore 4), (7, .iload 4), (9, .iconst 4), (10, .if_icmp .ge 47), (13, .iload_n 1), (14, .iload 4), (16, .invokestatic 108), (19, .istore 5), (21, .iload 5), (23, .invokestatic 65), (26, .ifCond .eq 25), (29, .aload_n 0), (30, .getfield 18), (33, .iload 5), (35, .iaload), (36, .iload_n 3), (37, .if_icmp .le 14), (40, .aload_n 0), (41, .getfield 18), (44, .iload 5), (46, .iaload), (47, .istore_n 3), (48, .iload 5), (50, .istore_n 2), (51, .iinc 4 1), (54, .goto (-47)), (57, .iload_n 2), (58, .ireturn)]
theorem amX0_busiestNeighbour (n : Nat) : amok (yX0_busiestNeighbour.cls, cX0_busiestNeighbour, 6, n) tbX0_busiestNeighbour FTX0 PTX0 := ⟨tbok_of (cc := cX0_busiestNeighbour) (by decide +kernel), ftX0, ptX0⟩
def tbX0_sweeperFact : List (Nat × Instr) := [(0, .aload_n 0), (1, .iload_n 1), (2, .invokevirtual 61), (5, .ifCond .ne 5), (8, .iconst 0), (9, .ireturn), (10, .iload_n 2), (52, .aload_n 0), (53, .getfield 30), (56, .iload_n 1), (57, .iaload), (58, .ireturn), (59, .aload_n 0), (60, .getfield 33), (63, .iload_n 1), (64, .iaload), (65, .ireturn), (66, .aload_n 0), (67, .getfield 36), (70, .iload_n 1), (71, .iaload), (72, .ireturn), (73, .aload_n 0), (74, .getfield 39), (77, .iload_n 1), (78, .iaload), (79, .ireturn), (80, .aload_n 0), (81, .iload_n 1), (82, .invokevirtual 88), (85, .ifCond .eq 7), (88, .iconst 1), (89, .goto 4), (92, .iconst 0), (93, .ireturn), (94, .aload_n 0), (95, .getfield 42), (98, .iload_n 1), (99, .iaload), (100, .ireturn), (101, .aload_n 0), (102, .getfield 45), (105, .iload_n 1), (106, .iaload), (107, .ireturn), (108, .aload_n 0), (109, .iload_n 1), (110, .invokevirtual 95), (113, .ireturn)]
theorem amX0_sweeperFact (n : Nat) : amok (yX0_sweeperFact.cls, cX0_sweeperFact, 3, n) tbX0_sweeperFact FTX0 PTX0 := ⟨tbok_of (cc := cX0_sweeperFact) (by decide +kernel), ftX0, ptX0⟩
theorem swX0_sweeperFact_11 : decode cX0_sweeperFact 11 = .ok (.tableswitch 97 0 6 #[41, 48, 55, 62, 69, 83, 90], 41) := by decide +kernel
def tbX0_crossingFact : List (Nat × Instr) := [(0, .iload_n 1), (1, .invokestatic 65), (4, .ifCond .ne 5), (7, .iconst 0), (8, .ireturn), (9, .iload_n 2), (44, .aload_n 0), (45, .getfield 9), (48, .iload_n 1), (49, .iaload), (50, .ireturn), (51, .aload_n 0), (52, .getfield 15), (55, .iload_n 1), (56, .iaload), (57, .ireturn), (58, .aload_n 0), (59, .getfield 18), (62, .iload_n 1), (63, .iaload), (64, .ireturn), (65, .aload_n 0), (66, .getfield 21), (69, .iload_n 1), (70, .iaload), (71, .ireturn), (72, .aload_n 0), (73, .iload_n 1), (74, .invokevirtual 111), (77, .ireturn), (78, .aload_n 0), (79, .getfield 24), (82, .iload_n 1), (83, .iaload), (84, .ireturn)]
theorem amX0_crossingFact (n : Nat) : amok (yX0_crossingFact.cls, cX0_crossingFact, 3, n) tbX0_crossingFact FTX0 PTX0 := ⟨tbok_of (cc := cX0_crossingFact) (by decide +kernel), ftX0, ptX0⟩
theorem swX0_crossingFact_10 : decode cX0_crossingFact 10 = .ok (.tableswitch 68 0 4 #[34, 41, 48, 55, 62], 34) := by decide +kernel
def tbX0_cityFact : List (Nat × Instr) := [(0, .iload_n 1), (44, .aload_n 0), (45, .getfield 58), (48, .ireturn), (49, .aload_n 0), (50, .getfield 54), (53, .ireturn), (54, .aload_n 0), (55, .invokevirtual 114), (58, .ireturn), (59, .aload_n 0), (60, .invokevirtual 117), (63, .ireturn), (64, .aload_n 0), (65, .getfield 39), (68, .invokestatic 120), (71, .ireturn), (72, .aload_n 0), (73, .invokevirtual 124), (76, .ireturn), (77, .aload_n 0), (78, .getfield 42), (81, .invokestatic 120), (84, .ireturn), (85, .aload_n 0), (86, .getfield 45), (89, .invokestatic 120), (92, .ireturn)]
theorem amX0_cityFact (n : Nat) : amok (yX0_cityFact.cls, cX0_cityFact, 2, n) tbX0_cityFact FTX0 PTX0 := ⟨tbok_of (cc := cX0_cityFact) (by decide +kernel), ftX0, ptX0⟩
theorem swX0_cityFact_1 : decode cX0_cityFact 1 = .ok (.tableswitch 84 0 6 #[43, 48, 53, 58, 63, 71, 76], 43) := by decide +kernel
def tbX0_allMud : List (Nat × Instr) := [(0, .aload_n 0), (1, .getfield 9), (4, .invokestatic 120), (7, .ireturn)]
theorem amX0_allMud (n : Nat) : amok (yX0_allMud.cls, cX0_allMud, 1, n) tbX0_allMud FTX0 PTX0 := ⟨tbok_of (cc := cX0_allMud) (by decide +kernel), ftX0, ptX0⟩
def tbX0_heldPitches : List (Nat × Instr) := [(0, .iconst 0), (1, .istore_n 1), (2, .iconst 0), (3, .istore_n 2), (4, .iload_n 2), (5, .bipush 9), (7, .if_icmp .ge 25), (10, .aload_n 0), (11, .aload_n 0), (12, .getfield 21), (15, .iload_n 2), (16, .iaload), (17, .invokevirtual 61), (20, .ifCond .eq 6), (23, .iinc 1 1), (26, .iinc 2 1), (29, .goto (-25)), (32, .iload_n 1), (33, .ireturn)]
theorem amX0_heldPitches (n : Nat) : amok (yX0_heldPitches.cls, cX0_heldPitches, 3, n) tbX0_heldPitches FTX0 PTX0 := ⟨tbok_of (cc := cX0_heldPitches) (by decide +kernel), ftX0, ptX0⟩
def tbX0_sweepersAt : List (Nat × Instr) := [(0, .iconst 0), (1, .istore_n 2), (2, .iconst 0), (3, .istore_n 3), (4, .iload_n 3), (5, .bipush 8), (7, .if_icmp .ge 30), (10, .iload_n 3), (11, .aload_n 0), (12, .getfield 54), (15, .if_icmp .ge 22), (18, .aload_n 0), (19, .getfield 30), (22, .iload_n 3), (23, .iaload), (24, .iload_n 1), (25, .if_icmp .ne 6), (28, .iinc 2 1), (31, .iinc 3 1), (34, .goto (-30)), (37, .iload_n 2), (38, .ireturn)]
theorem amX0_sweepersAt (n : Nat) : amok (yX0_sweepersAt.cls, cX0_sweepersAt, 4, n) tbX0_sweepersAt FTX0 PTX0 := ⟨tbok_of (cc := cX0_sweepersAt) (by decide +kernel), ftX0, ptX0⟩
def tbX0_cleanCrossings : List (Nat × Instr) := [(0, .iconst 0), (1, .istore_n 1), (2, .iconst 0), (3, .istore_n 2), (4, .iload_n 2), (5, .bipush 9), (7, .if_icmp .ge 22), (10, .aload_n 0), (11, .getfield 9), (14, .iload_n 2), (15, .iaload), (16, .iconst 5), (17, .if_icmp .gt 6), (20, .iinc 1 1), (23, .iinc 2 1), (26, .goto (-22)), (29, .iload_n 1), (30, .ireturn)]
theorem amX0_cleanCrossings (n : Nat) : amok (yX0_cleanCrossings.cls, cX0_cleanCrossings, 3, n) tbX0_cleanCrossings FTX0 PTX0 := ⟨tbok_of (cc := cX0_cleanCrossings) (by decide +kernel), ftX0, ptX0⟩
def tbX0_sum : List (Nat × Instr) := [(0, .iconst 0), (1, .istore_n 1), (2, .aload_n 0), (3, .ifnull 23), (6, .iconst 0), (7, .istore_n 2), (8, .iload_n 2), (9, .aload_n 0), (10, .arraylength), (11, .if_icmp .ge 15), (14, .iload_n 1), (15, .aload_n 0), (16, .iload_n 2), (17, .iaload), (18, .iadd), (19, .istore_n 1), (20, .iinc 2 1), (23, .goto (-15)), (26, .iload_n 1), (27, .ireturn)]
theorem amX0_sum (n : Nat) : amok (yX0_sum.cls, cX0_sum, 3, n) tbX0_sum FTX0 PTX0 := ⟨tbok_of (cc := cX0_sum) (by decide +kernel), ftX0, ptX0⟩
def tbX1_init : List (Nat × Instr) := [(0, .aload_n 0), (1, .invokespecial 1), (4, .aload_n 0), (5, .new 7), (8, .dup), (9, .invokespecial 9), (12, .putfield 10), (15, .aload_n 0), (16, .new 7), (19, .dup), (20, .invokespecial 9), (23, .putfield 16), (26, .aload_n 0), (27, .bipush 9), (29, .newarray .int), (31, .putfield 19), (34, .return_)]
theorem amX1_init (n : Nat) : amok (yX1_init.cls, cX1_init, 1, n) tbX1_init FTX1 PTX1 := ⟨tbok_of (cc := cX1_init) (by decide +kernel), ftX1, ptX1⟩
def tbX1_set : List (Nat × Instr) := [(0, .iload_n 1), (1, .invokestatic 23), (4, .iload_n 2), (5, .ifCond .lt 9), (8, .iload_n 2), (9, .bipush 9), (11, .if_icmp .le 13), (14, .new 27), (17, .dup), (18, .ldc 29), (20, .invokespecial 31), (23, .athrow), (24, .iload_n 3), (25, .ifCond .lt 9), (28, .iload_n 3), (29, .bipush 30), (31, .if_icmp .le 13), (34, .new 27), (37, .dup), (38, .ldc 34), (40, .invokespecial 31), (43, .athrow), (44, .bipush 100), (46, .aload_n 0), (47, .getfield 10), (50, .getfield 36), (53, .iload_n 1), (54, .iaload), (55, .imul), (56, .aload_n 0), (57, .getfield 10), (60, .getfield 39), (63, .iload_n 1), (64, .iaload), (65, .iadd), (66, .istore 4), (68, .aload_n 0), (69, .getfield 10), (72, .getfield 36), (75, .iload_n 1), (76, .iload_n 2), (77, .iastore), (78, .aload_n 0), (79, .getfield 10), (82, .getfield 39), (85, .iload_n 1), (86, .iload_n 3), (87, .iastore), (88, .iload 4), (90, .ireturn)]
theorem amX1_set (n : Nat) : amok (yX1_set.cls, cX1_set, 5, n) tbX1_set FTX1 PTX1 := ⟨tbok_of (cc := cX1_set) (by decide +kernel), ftX1, ptX1⟩
def tbX1_setRain : List (Nat × Instr) := [(0, .iload_n 1), (1, .ifCond .lt 9), (4, .iload_n 1), (5, .bipush 8), (7, .if_icmp .lt 13), (10, .new 42), (13, .dup), (14, .ldc 44), (16, .invokespecial 46), (19, .athrow), (20, .iload_n 2), (21, .ifCond .lt 9), (24, .iload_n 2), (25, .bipush 9), (27, .if_icmp .le 13), (30, .new 27), (33, .dup), (34, .ldc 47), (36, .invokespecial 31), (39, .athrow), (40, .aload_n 0), (41, .getfield 10), (44, .getfield 49), (47, .iload_n 1), (48, .iaload), (49, .istore_n 3), (50, .aload_n 0), (51, .getfield 10), (54, .getfield 49), (57, .iload_n 1), (58, .iload_n 2), (59, .iastore), (60, .iload_n 3), (61, .ireturn)]
theorem amX1_setRain (n : Nat) : amok (yX1_setRain.cls, cX1_setRain, 4, n) tbX1_setRain FTX1 PTX1 := ⟨tbok_of (cc := cX1_setRain) (by decide +kernel), ftX1, ptX1⟩
def tbX1_spill : List (Nat × Instr) := [(0, .iload_n 1), (1, .invokestatic 23), (4, .iload_n 2), (5, .iconst 1), (6, .if_icmp .lt 9), (9, .iload_n 2), (10, .bipush 50), (12, .if_icmp .le 13), (15, .new 27), (18, .dup), (19, .ldc 52), (21, .invokespecial 31), (24, .athrow), (25, .aload_n 0), (26, .getfield 10), (29, .iload_n 1), (30, .iload_n 2), (31, .invokevirtual 54), (34, .aload_n 0), (35, .getfield 10), (38, .getfield 58), (41, .iload_n 1), (42, .iaload), (43, .ireturn)]
theorem amX1_spill (n : Nat) : amok (yX1_spill.cls, cX1_spill, 3, n) tbX1_spill FTX1 PTX1 := ⟨tbok_of (cc := cX1_spill) (by decide +kernel), ftX1, ptX1⟩
def tbX1_come : List (Nat × Instr) := [(0, .iload_n 1), (1, .invokestatic 23), (4, .iload_n 2), (5, .iconst 1), (6, .if_icmp .lt 9), (9, .iload_n 2), (10, .bipush 9), (12, .if_icmp .le 13), (15, .new 27), (18, .dup), (19, .ldc 61), (21, .invokespecial 31), (24, .athrow), (25, .aload_n 0), (26, .getfield 10), (29, .getfield 63), (32, .ifCond .lt 15), (35, .aload_n 0), (36, .getfield 10), (39, .getfield 63), (42, .bipush 8), (44, .if_icmp .lt 13), (47, .new 67), (50, .dup), (51, .ldc 69), (53, .invokespecial 71), (56, .athrow), (57, .aload_n 0), (58, .getfield 10), (61, .iload_n 1), (62, .iload_n 2), (63, .invokevirtual 72), (66, .ireturn)]
theorem amX1_come (n : Nat) : amok (yX1_come.cls, cX1_come, 3, n) tbX1_come FTX1 PTX1 := ⟨tbok_of (cc := cX1_come) (by decide +kernel), ftX1, ptX1⟩
def tbX1_send : List (Nat × Instr) := [(0, .aload_n 0), (1, .iload_n 1), (2, .invokevirtual 76), (5, .iload_n 2), (6, .invokestatic 23), (9, .aload_n 0), (10, .getfield 10), (13, .getfield 79), (16, .iload_n 1), (17, .iaload), (18, .istore_n 3), (19, .aload_n 0), (20, .getfield 10), (23, .iload_n 1), (24, .iload_n 2), (25, .invokevirtual 82), (28, .iload_n 3), (29, .ireturn)]
theorem amX1_send (n : Nat) : amok (yX1_send.cls, cX1_send, 4, n) tbX1_send FTX1 PTX1 := ⟨tbok_of (cc := cX1_send) (by decide +kernel), ftX1, ptX1⟩
def tbX1_buy : List (Nat × Instr) := [(0, .aload_n 0), (1, .iload_n 1), (2, .invokevirtual 76), (5, .aload_n 0), (6, .getfield 10), (9, .getfield 85), (12, .iload_n 1), (13, .iaload), (14, .iconst 5), (15, .if_icmp .ge 13), (18, .new 67), (21, .dup), (22, .ldc 88), (24, .invokespecial 71), (27, .athrow), (28, .aload_n 0), (29, .getfield 10), (32, .getfield 85), (35, .iload_n 1), (36, .dup2), (37, .iaload), (38, .iconst 5), (39, .isub), (40, .iastore), (41, .aload_n 0), (42, .getfield 10), (45, .getfield 90), (48, .iload_n 1), (49, .bipush 40), (51, .iastore), (52, .aload_n 0), (53, .getfield 10), (56, .getfield 85), (59, .iload_n 1), (60, .iaload), (61, .ireturn)]
theorem amX1_buy (n : Nat) : amok (yX1_buy.cls, cX1_buy, 2, n) tbX1_buy FTX1 PTX1 := ⟨tbok_of (cc := cX1_buy) (by decide +kernel), ftX1, ptX1⟩
def tbX1_sweeper : List (Nat × Instr) := [(0, .aload_n 0), (1, .iload_n 1), (2, .invokevirtual 76), (5, .iload_n 2), (6, .bipush 8), (8, .invokestatic 93), (11, .aload_n 0), (12, .getfield 10), (15, .iload_n 1), (16, .iload_n 2), (17, .invokevirtual 96), (20, .ireturn)]
theorem amX1_sweeper (n : Nat) : amok (yX1_sweeper.cls, cX1_sweeper, 3, n) tbX1_sweeper FTX1 PTX1 := ⟨tbok_of (cc := cX1_sweeper) (by decide +kernel), ftX1, ptX1⟩
def tbX1_crossing : List (Nat × Instr) := [(0, .iload_n 1), (1, .invokestatic 23), (4, .iload_n 2), (5, .bipush 6), (7, .invokestatic 93), (10, .aload_n 0), (11, .getfield 10), (14, .iload_n 1), (15, .iload_n 2), (16, .invokevirtual 99), (19, .ireturn)]
theorem amX1_crossing (n : Nat) : amok (yX1_crossing.cls, cX1_crossing, 3, n) tbX1_crossing FTX1 PTX1 := ⟨tbok_of (cc := cX1_crossing) (by decide +kernel), ftX1, ptX1⟩
def tbX1_count : List (Nat × Instr) := [(0, .iload_n 1), (1, .bipush 8), (3, .invokestatic 93), (6, .aload_n 0), (7, .getfield 10), (10, .iload_n 1), (11, .invokevirtual 102), (14, .ireturn)]
theorem amX1_count (n : Nat) : amok (yX1_count.cls, cX1_count, 2, n) tbX1_count FTX1 PTX1 := ⟨tbok_of (cc := cX1_count) (by decide +kernel), ftX1, ptX1⟩
def tbX1_pass : List (Nat × Instr) := [(0, .iload_n 1), (1, .invokestatic 106), (4, .aload_n 0), (5, .getfield 10), (8, .iload_n 1), (9, .invokevirtual 109), (12, .ireturn)]
theorem amX1_pass (n : Nat) : amok (yX1_pass.cls, cX1_pass, 2, n) tbX1_pass FTX1 PTX1 := ⟨tbok_of (cc := cX1_pass) (by decide +kernel), ftX1, ptX1⟩
def tbX1_way : List (Nat × Instr) := [(0, .iload_n 1), (1, .invokestatic 23), (4, .iload_n 2), (5, .invokestatic 23), (8, .iconst 0), (9, .istore_n 3), (10, .iload_n 3), (11, .bipush 9), (13, .if_icmp .ge 17), (16, .aload_n 0), (17, .getfield 19), (20, .iload_n 3), (21, .ldc 112), (23, .iastore), (24, .iinc 3 1), (27, .goto (-17)), (30, .aload_n 0), (31, .getfield 19), (34, .iload_n 1), (35, .aload_n 0), (36, .getfield 10), (39, .getfield 58), (42, .iload_n 1), (43, .iaload), (44, .iastore), (45, .iconst 1), (46, .istore_n 3), (47, .iload_n 3), (48, .bipush 9), (50, .if_icmp .ge 13), (53, .aload_n 0), (54, .invokevirtual 113), (57, .iinc 3 1), (60, .goto (-13)), (63, .aload_n 0), (64, .getfield 19), (67, .iload_n 2), (68, .iaload), (69, .ireturn)]
theorem amX1_way (n : Nat) : amok (yX1_way.cls, cX1_way, 4, n) tbX1_way FTX1 PTX1 := ⟨tbok_of (cc := cX1_way) (by decide +kernel), ftX1, ptX1⟩
def tbX1_earns : List (Nat × Instr) := [(0, .aload_n 0), (1, .iload_n 1), (2, .invokevirtual 76), (5, .iload_n 2), (6, .invokestatic 106), (9, .aload_n 0), (10, .iload_n 1), (11, .iconst (-1)), (12, .iload_n 2), (13, .invokevirtual 116), (16, .ireturn)]
theorem amX1_earns (n : Nat) : amok (yX1_earns.cls, cX1_earns, 3, n) tbX1_earns FTX1 PTX1 := ⟨tbok_of (cc := cX1_earns) (by decide +kernel), ftX1, ptX1⟩
def tbX1_advise : List (Nat × Instr) := [(0, .aload_n 0), (1, .iload_n 1), (2, .invokevirtual 76), (5, .iload_n 2), (6, .invokestatic 106), (9, .iconst (-1)), (10, .istore_n 3), (11, .aload_n 0), (12, .iload_n 1), (13, .iconst (-1)), (14, .iload_n 2), (15, .invokevirtual 116), (18, .istore 4), (20, .iconst 0), (21, .istore 5), (23, .iload 5), (25, .bipush 9), (27, .if_icmp .ge 33), (30, .aload_n 0), (31, .iload_n 1), (32, .iload 5), (34, .iload_n 2), (35, .invokevirtual 116), (38, .istore 6), (40, .iload 6), (42, .iload 4), (44, .if_icmp .le 10), (47, .iload 6), (49, .istore 4), (51, .iload 5), (53, .istore_n 3), (54, .iinc 5 1), (57, .goto (-34)), (60, .iload_n 3), (61, .ireturn)]
theorem amX1_advise (n : Nat) : amok (yX1_advise.cls, cX1_advise, 7, n) tbX1_advise FTX1 PTX1 := ⟨tbok_of (cc := cX1_advise) (by decide +kernel), ftX1, ptX1⟩
def tbX1_foresee : List (Nat × Instr) := [(0, .iload_n 1), (1, .invokestatic 106), (4, .iload_n 2), (5, .iconst 3), (6, .invokestatic 93), (9, .aload_n 0), (10, .getfield 16), (13, .aload_n 0), (14, .getfield 10), (17, .invokevirtual 120), (20, .aload_n 0), (21, .getfield 16), (24, .iload_n 1), (25, .invokevirtual 109), (28, .istore_n 3), (29, .iload_n 2), (30, .ifCond .ne 5), (33, .iload_n 3), (34, .ireturn), (35, .iload_n 2), (36, .iconst 1), (37, .if_icmp .ne 13), (40, .aload_n 0), (41, .getfield 16), (44, .invokevirtual 124), (47, .goto 10), (50, .aload_n 0), (51, .getfield 16), (54, .invokevirtual 128), (57, .ireturn)]
theorem amX1_foresee (n : Nat) : amok (yX1_foresee.cls, cX1_foresee, 4, n) tbX1_foresee FTX1 PTX1 := ⟨tbok_of (cc := cX1_foresee) (by decide +kernel), ftX1, ptX1⟩
def tbX1_mean : List (Nat × Instr) := [(0, .aload_n 0), (1, .getfield 10), (4, .invokevirtual 124), (7, .i2d), (8, .ldc2_w 131), (11, .ddiv), (12, .dreturn)]
theorem amX1_mean (n : Nat) : amok (yX1_mean.cls, cX1_mean, 1, n) tbX1_mean FTX1 PTX1 := ⟨tbok_of (cc := cX1_mean) (by decide +kernel), ftX1, ptX1⟩
def tbX1_digest : List (Nat × Instr) := [(0, .ldc2_w 133), (3, .lstore_n 1), (4, .iconst 0), (5, .istore_n 3), (6, .iload_n 3), (7, .bipush 8), (9, .if_icmp .ge 25), (12, .lload_n 1), (13, .ldc2_w 135), (16, .lmul), (17, .aload_n 0), (18, .getfield 10), (21, .iload_n 3), (22, .invokevirtual 102), (25, .i2l), (26, .ladd), (27, .lstore_n 1), (28, .iinc 3 1), (31, .goto (-25)), (34, .iconst 0), (35, .istore_n 3), (36, .iload_n 3), (37, .bipush 9), (39, .if_icmp .ge 43), (42, .iconst 0), (43, .istore 4), (45, .iload 4), (47, .bipush 6), (49, .if_icmp .ge 27), (52, .lload_n 1), (53, .ldc2_w 135), (56, .lmul), (57, .aload_n 0), (58, .getfield 10), (61, .iload_n 3), (62, .iload 4), (64, .invokevirtual 99), (67, .i2l), (68, .ladd), (69, .lstore_n 1), (70, .iinc 4 1), (73, .goto (-28)), (76, .iinc 3 1), (79, .goto (-43)), (82, .iconst 0), (83, .istore_n 3), (84, .iload_n 3), (85, .bipush 8), (87, .if_icmp .ge 26), (90, .lload_n 1), (91, .ldc2_w 135), (94, .lmul), (95, .aload_n 0), (96, .getfield 10), (99, .getfield 49), (102, .iload_n 3), (103, .iaload), (104, .i2l), (105, .ladd), (106, .lstore_n 1), (107, .iinc 3 1), (110, .goto (-26)), (113, .iconst 0), (114, .istore_n 3), (115, .iload_n 3), (116, .bipush 8), (118, .if_icmp .ge 54), (121, .iload_n 3), (122, .aload_n 0), (123, .getfield 10), (126, .getfield 63), (129, .if_icmp .ge 43), (132, .iconst 0), (133, .istore 4), (135, .iload 4), (137, .bipush 8), (139, .if_icmp .ge 27), (142, .lload_n 1), (143, .ldc2_w 135), (146, .lmul), (147, .aload_n 0), (148, .getfield 10), (151, .iload_n 3), (152, .iload 4), (154, .invokevirtual 96), (157, .i2l), (158, .ladd), (159, .lstore_n 1), (160, .iinc 4 1), (163, .goto (-28)), (166, .iinc 3 1), (169, .goto (-54)), (172, .lload_n 1), (173, .lreturn)]
theorem amX1_digest (n : Nat) : amok (yX1_digest.cls, cX1_digest, 5, n) tbX1_digest FTX1 PTX1 := ⟨tbok_of (cc := cX1_digest) (by decide +kernel), ftX1, ptX1⟩
def tbX1_isCrossing : List (Nat × Instr) := [(0, .iload_n 0), (1, .ifCond .lt 13), (4, .iload_n 0), (5, .bipush 9), (7, .if_icmp .ge 7), (10, .iconst 1), (11, .goto 4), (14, .iconst 0), (15, .ireturn)]
theorem amX1_isCrossing (n : Nat) : amok (yX1_isCrossing.cls, cX1_isCrossing, 1, n) tbX1_isCrossing FTX1 PTX1 := ⟨tbok_of (cc := cX1_isCrossing) (by decide +kernel), ftX1, ptX1⟩
def tbX1_needCrossing : List (Nat × Instr) := [(0, .iload_n 0), (1, .invokestatic 137), (4, .ifCond .ne 13), (7, .new 42), (10, .dup), (11, .ldc 141), (13, .invokespecial 46), (16, .athrow), (17, .return_)]
theorem amX1_needCrossing (n : Nat) : amok (yX1_needCrossing.cls, cX1_needCrossing, 1, n) tbX1_needCrossing FTX1 PTX1 := ⟨tbok_of (cc := cX1_needCrossing) (by decide +kernel), ftX1, ptX1⟩
def tbX1_needSweeper : List (Nat × Instr) := [(0, .aload_n 0), (1, .getfield 10), (4, .iload_n 1), (5, .invokevirtual 143), (8, .ifCond .ne 13), (11, .new 42), (14, .dup), (15, .ldc 146), (17, .invokespecial 46), (20, .athrow), (21, .return_)]
theorem amX1_needSweeper (n : Nat) : amok (yX1_needSweeper.cls, cX1_needSweeper, 2, n) tbX1_needSweeper FTX1 PTX1 := ⟨tbok_of (cc := cX1_needSweeper) (by decide +kernel), ftX1, ptX1⟩
def tbX1_needFact : List (Nat × Instr) := [(0, .iload_n 0), (1, .ifCond .lt 8), (4, .iload_n 0), (5, .iload_n 1), (6, .if_icmp .lt 13), (9, .new 42), (12, .dup), (13, .ldc 148), (15, .invokespecial 46), (18, .athrow), (19, .return_)]
theorem amX1_needFact (n : Nat) : amok (yX1_needFact.cls, cX1_needFact, 2, n) tbX1_needFact FTX1 PTX1 := ⟨tbok_of (cc := cX1_needFact) (by decide +kernel), ftX1, ptX1⟩
def tbX1_needQuarters : List (Nat × Instr) := [(0, .iload_n 0), (1, .iconst 1), (2, .if_icmp .lt 9), (5, .iload_n 0), (6, .bipush 96), (8, .if_icmp .le 13), (11, .new 27), (14, .dup), (15, .ldc 150), (17, .invokespecial 31), (20, .athrow), (21, .return_)]
theorem amX1_needQuarters (n : Nat) : amok (yX1_needQuarters.cls, cX1_needQuarters, 1, n) tbX1_needQuarters FTX1 PTX1 := ⟨tbok_of (cc := cX1_needQuarters) (by decide +kernel), ftX1, ptX1⟩
def tbX1_neighbour : List (Nat × Instr) := [(0, .iload_n 1), (28, .iload_n 0), (29, .iconst 3), (30, .irem), (31, .ifCond .le 9), (34, .iload_n 0), (35, .iconst 1), (36, .isub), (37, .goto 4), (40, .iconst (-1)), (41, .ireturn), (42, .iload_n 0), (43, .iconst 3), (44, .irem), (45, .iconst 2), (46, .if_icmp .ge 9), (49, .iload_n 0), (50, .iconst 1), (51, .iadd), (52, .goto 4), (55, .iconst (-1)), (56, .ireturn), (57, .iload_n 0), (58, .iconst 3), (59, .if_icmp .lt 9), (62, .iload_n 0), (63, .iconst 3), (64, .isub), (65, .goto 4), (68, .iconst (-1)), (69, .ireturn), (70, .iload_n 0), (71, .bipush 6), (73, .if_icmp .ge 9), (76, .iload_n 0), (77, .iconst 3), (78, .iadd), (79, .goto 4), (82, .iconst (-1)), (83, .ireturn)]
theorem amX1_neighbour (n : Nat) : amok (yX1_neighbour.cls, cX1_neighbour, 2, n) tbX1_neighbour FTX1 PTX1 := ⟨tbok_of (cc := cX1_neighbour) (by decide +kernel), ftX1, ptX1⟩
theorem swX1_neighbour_1 : decode cX1_neighbour 1 = .ok (.tableswitch 69 0 2 #[27, 41, 56], 27) := by decide +kernel
def tbX1_shortenWays : List (Nat × Instr) := [(0, .iconst 0), (1, .istore_n 1), (2, .iload_n 1), (3, .bipush 9), (5, .if_icmp .ge 82), (8, .iconst 0), (9, .istore_n 2), (10, .iload_n 2), (11, .iconst 4), (12, .if_icmp .ge 69), (15, .iload_n 1), (16, .iload_n 2), (17, .invokestatic 152), (20, .istore_n 3), (21, .iload_n 3), (22, .invokestatic 137), (25, .ifCond .eq 50), (28, .aload_n 0), (29, .getfield 19), (32, .iload_n 3), (33, .iaload), (34, .aload_n 0), (35, .getfield 10), (38, .getfield 58), (41, .iload_n 1), (42, .iaload), (43, .iadd), (44, .aload_n 0), (45, .getfield 19), (48, .iload_n 1), (49, .iaload), (50, .if_icmp .ge 25), (53, .aload_n 0), (54, .getfield 19), (57, .iload_n 1), (58, .aload_n 0), (59, .getfield 19), (62, .iload_n 3), (63, .iaload), (64, .aload_n 0), (65, .getfield 10), (68, .getfield 58), (71, .iload_n 1), (72, .iaload), (73, .iadd), (74, .iastore), (75, .iinc 2 1), (78, .goto (-68)), (81, .iinc 1 1), (84, .goto (-82)), (87, .return_)]
theorem amX1_shortenWays (n : Nat) : amok (yX1_shortenWays.cls, cX1_shortenWays, 4, n) tbX1_shortenWays FTX1 PTX1 := ⟨tbok_of (cc := cX1_shortenWays) (by decide +kernel), ftX1, ptX1⟩
def tbX1_earned : List (Nat × Instr) := [(0, .aload_n 0), (1, .getfield 10), (4, .iload_n 1), (5, .invokevirtual 143), (8, .ifCond .ne 5), (11, .iconst 0), (12, .ireturn), (13, .aload_n 0), (14, .getfield 16), (17, .aload_n 0), (18, .getfield 10), (21, .invokevirtual 120), (24, .iload_n 2), (25, .invokestatic 137), (28, .ifCond .eq 12), (31, .aload_n 0), (32, .getfield 16), (35, .iload_n 1), (36, .iload_n 2), (37, .invokevirtual 82), (40, .aload_n 0), (41, .getfield 16), (44, .getfield 85), (47, .iload_n 1), (48, .iaload), (49, .istore 4), (51, .aload_n 0), (52, .getfield 16), (55, .iload_n 3), (56, .invokevirtual 109), (59, .pop), (60, .aload_n 0), (61, .getfield 16), (64, .getfield 85), (67, .iload_n 1), (68, .iaload), (69, .iload 4), (71, .isub), (72, .ireturn)]
theorem amX1_earned (n : Nat) : amok (yX1_earned.cls, cX1_earned, 5, n) tbX1_earned FTX1 PTX1 := ⟨tbok_of (cc := cX1_earned) (by decide +kernel), ftX1, ptX1⟩
def tbX2_init : List (Nat × Instr) := [(0, .aload_n 0), (1, .aload_n 1), (2, .putfield 3), (5, .aload_n 0), (6, .invokespecial 9), (9, .aload_n 0), (10, .bipush 9), (12, .newarray .int), (14, .putfield 15), (17, .aload_n 0), (18, .bipush 9), (20, .newarray .int), (22, .putfield 19), (25, .aload_n 0), (26, .bipush 9), (28, .newarray .int), (30, .putfield 22), (33, .aload_n 0), (34, .bipush 8), (36, .newarray .int), (38, .putfield 25), (41, .aload_n 0), (42, .bipush 8), (44, .newarray .int), (46, .putfield 28), (49, .aload_n 0), (50, .bipush 8), (52, .newarray .int), (54, .putfield 31), (57, .aload_n 0), (58, .bipush 8), (60, .newarray .int), (62, .putfield 34), (65, .aload_n 0), (66, .bipush 8), (68, .newarray .int), (70, .putfield 37), (73, .return_)]
theorem amX2_init (n : Nat) : amok (yX2_init.cls, cX2_init, 2, n) tbX2_init FTX2 PTX2 := ⟨tbok_of (cc := cX2_init) (by decide +kernel), ftX2, ptX2⟩
def tbX2_copy : List (Nat × Instr) := [(0, .aload_n 1), (1, .iconst 0), (2, .aload_n 2), (3, .iconst 0), (4, .aload_n 1), (5, .arraylength), (6, .invokestatic 40), (9, .return_)]
theorem amX2_copy (n : Nat) : amok (yX2_copy.cls, cX2_copy, 3, n) tbX2_copy FTX2 PTX2 := ⟨tbok_of (cc := cX2_copy) (by decide +kernel), ftX2, ptX2⟩
def tbX2_become : List (Nat × Instr) := [(0, .aload_n 0), (1, .aload_n 1), (2, .getfield 46), (5, .putfield 46), (8, .aload_n 0), (9, .aload_n 1), (10, .getfield 15), (13, .aload_n 0), (14, .getfield 15), (17, .invokevirtual 50), (20, .aload_n 0), (21, .aload_n 1), (22, .getfield 19), (25, .aload_n 0), (26, .getfield 19), (29, .invokevirtual 50), (32, .aload_n 0), (33, .aload_n 1), (34, .getfield 22), (37, .aload_n 0), (38, .getfield 22), (41, .invokevirtual 50), (44, .aload_n 0), (45, .aload_n 1), (46, .getfield 25), (49, .aload_n 0), (50, .getfield 25), (53, .invokevirtual 50), (56, .aload_n 0), (57, .aload_n 1), (58, .getfield 28), (61, .aload_n 0), (62, .getfield 28), (65, .invokevirtual 50), (68, .aload_n 0), (69, .aload_n 1), (70, .getfield 31), (73, .aload_n 0), (74, .getfield 31), (77, .invokevirtual 50), (80, .aload_n 0), (81, .aload_n 1), (82, .getfield 34), (85, .aload_n 0), (86, .getfield 34), (89, .invokevirtual 50), (92, .aload_n 0), (93, .aload_n 1), (94, .getfield 37), (97, .aload_n 0), (98, .getfield 37), (101, .invokevirtual 50), (104, .return_)]
theorem amX2_become (n : Nat) : amok (yX2_become.cls, cX2_become, 2, n) tbX2_become FTX2 PTX2 := ⟨tbok_of (cc := cX2_become) (by decide +kernel), ftX2, ptX2⟩
def tbX2_holds : List (Nat × Instr) := [(0, .aload_n 0), (1, .getfield 19), (4, .aload_n 0), (5, .getfield 25), (8, .iload_n 1), (9, .iaload), (10, .iaload), (11, .iload_n 1), (12, .if_icmp .ne 7), (15, .iconst 1), (16, .goto 4), (19, .iconst 0), (20, .ireturn)]
theorem amX2_holds (n : Nat) : amok (yX2_holds.cls, cX2_holds, 2, n) tbX2_holds FTX2 PTX2 := ⟨tbok_of (cc := cX2_holds) (by decide +kernel), ftX2, ptX2⟩
def tbX2_sweeps : List (Nat × Instr) := [(0, .aload_n 0), (1, .getfield 3), (4, .getfield 54), (7, .iload_n 1), (8, .iaload), (9, .aload_n 0), (10, .getfield 28), (13, .iload_n 1), (14, .iaload), (15, .bipush 8), (17, .idiv), (18, .iadd), (19, .ireturn)]
theorem amX2_sweeps (n : Nat) : amok (yX2_sweeps.cls, cX2_sweeps, 2, n) tbX2_sweeps FTX2 PTX2 := ⟨tbok_of (cc := cX2_sweeps) (by decide +kernel), ftX2, ptX2⟩
def tbX2_sweep : List (Nat × Instr) := [(0, .aload_n 0), (1, .getfield 15), (4, .aload_n 0), (5, .getfield 25), (8, .iload_n 1), (9, .iaload), (10, .iaload), (11, .aload_n 0), (12, .iload_n 1), (13, .invokevirtual 57), (16, .invokestatic 61), (19, .istore_n 2), (20, .aload_n 0), (21, .getfield 15), (24, .aload_n 0), (25, .getfield 25), (28, .iload_n 1), (29, .iaload), (30, .dup2), (31, .iaload), (32, .iload_n 2), (33, .isub), (34, .iastore), (35, .aload_n 0), (36, .getfield 34), (39, .iload_n 1), (40, .dup2), (41, .iaload), (42, .iload_n 2), (43, .iadd), (44, .iastore), (45, .aload_n 0), (46, .getfield 28), (49, .iload_n 1), (50, .iconst 0), (51, .aload_n 0), (52, .getfield 28), (55, .iload_n 1), (56, .iaload), (57, .iconst 1), (58, .isub), (59, .invokestatic 67), (62, .iastore), (63, .return_)]
theorem amX2_sweep (n : Nat) : amok (yX2_sweep.cls, cX2_sweep, 3, n) tbX2_sweep FTX2 PTX2 := ⟨tbok_of (cc := cX2_sweep) (by decide +kernel), ftX2, ptX2⟩
def tbX2_pay : List (Nat × Instr) := [(0, .aload_n 0), (1, .getfield 15), (4, .iload_n 1), (5, .iaload), (6, .iconst 5), (7, .if_icmp .gt 17), (10, .aload_n 0), (11, .getfield 3), (14, .getfield 70), (17, .iload_n 1), (18, .iaload), (19, .iconst 2), (20, .idiv), (21, .goto 29), (24, .aload_n 0), (25, .getfield 15), (28, .iload_n 1), (29, .iaload), (30, .bipush 15), (32, .if_icmp .gt 17), (35, .aload_n 0), (36, .getfield 3), (39, .getfield 70), (42, .iload_n 1), (43, .iaload), (44, .iconst 5), (45, .idiv), (46, .goto 4), (49, .iconst 0), (50, .istore_n 2), (51, .aload_n 0), (52, .getfield 22), (55, .iload_n 1), (56, .dup2), (57, .iaload), (58, .iload_n 2), (59, .iadd), (60, .iastore), (61, .aload_n 0), (62, .getfield 31), (65, .aload_n 0), (66, .getfield 19), (69, .iload_n 1), (70, .iaload), (71, .dup2), (72, .iaload), (73, .iload_n 2), (74, .iadd), (75, .iastore), (76, .iload_n 2), (77, .ireturn)]
theorem amX2_pay (n : Nat) : amok (yX2_pay.cls, cX2_pay, 3, n) tbX2_pay FTX2 PTX2 := ⟨tbok_of (cc := cX2_pay) (by decide +kernel), ftX2, ptX2⟩
def tbX2_look : List (Nat × Instr) := [(0, .aload_n 0), (1, .getfield 25), (4, .iload_n 1), (5, .iaload), (6, .istore_n 2), (7, .aload_n 0), (8, .getfield 19), (11, .iload_n 2), (12, .iaload), (13, .istore_n 3), (14, .iload_n 3), (15, .iconst (-1)), (16, .if_icmp .eq 39), (19, .aload_n 0), (20, .getfield 3), (23, .getfield 54), (26, .iload_n 3), (27, .iaload), (28, .aload_n 0), (29, .getfield 3), (32, .getfield 54), (35, .iload_n 1), (36, .iaload), (37, .if_icmp .lt 18), (40, .aload_n 0), (41, .getfield 25), (44, .iload_n 1), (45, .aload_n 0), (46, .getfield 3), (49, .iload_n 2), (50, .invokevirtual 73), (53, .iastore), (54, .return_), (55, .iload_n 3), (56, .iconst (-1)), (57, .if_icmp .eq 13), (60, .aload_n 0), (61, .getfield 37), (64, .iload_n 3), (65, .dup2), (66, .iaload), (67, .iconst 1), (68, .iadd), (69, .iastore), (70, .aload_n 0), (71, .getfield 19), (74, .iload_n 2), (75, .iload_n 1), (76, .iastore), (77, .return_)]
theorem amX2_look (n : Nat) : amok (yX2_look.cls, cX2_look, 4, n) tbX2_look FTX2 PTX2 := ⟨tbok_of (cc := cX2_look) (by decide +kernel), ftX2, ptX2⟩
def tbX2_pass : List (Nat × Instr) := [(0, .aload_n 0), (1, .getfield 3), (4, .getfield 76), (7, .aload_n 0), (8, .getfield 46), (11, .bipush 8), (13, .irem), (14, .iaload), (15, .istore_n 1), (16, .iconst 0), (17, .istore_n 2), (18, .iload_n 2), (19, .bipush 9), (21, .if_icmp .ge 38), (24, .aload_n 0), (25, .getfield 15), (28, .iload_n 2), (29, .bipush 50), (31, .aload_n 0), (32, .getfield 15), (35, .iload_n 2), (36, .iaload), (37, .aload_n 0), (38, .getfield 3), (41, .getfield 79), (44, .iload_n 2), (45, .iaload), (46, .iadd), (47, .iload_n 1), (48, .iadd), (49, .invokestatic 61), (52, .iastore), (53, .iinc 2 1), (56, .goto (-38)), (59, .iconst 0), (60, .istore_n 2), (61, .iload_n 1), (62, .bipush 6), (64, .if_icmp .ge 67), (67, .iconst 0), (68, .istore_n 3), (69, .iload_n 3), (70, .aload_n 0), (71, .getfield 3), (74, .getfield 82), (77, .if_icmp .ge 22), (80, .aload_n 0), (81, .iload_n 3), (82, .invokevirtual 85), (85, .ifCond .eq 8), (88, .aload_n 0), (89, .iload_n 3), (90, .invokevirtual 89), (93, .iinc 3 1), (96, .goto (-27)), (99, .iconst 0), (100, .istore_n 3), (101, .iload_n 3), (102, .bipush 9), (104, .if_icmp .ge 27), (107, .aload_n 0), (108, .getfield 19), (111, .iload_n 3), (112, .iaload), (113, .iconst (-1)), (114, .if_icmp .eq 11), (117, .iload_n 2), (118, .aload_n 0), (119, .iload_n 3), (120, .invokevirtual 93), (123, .iadd), (124, .istore_n 2), (125, .iinc 3 1), (128, .goto (-27)), (131, .iconst 0), (132, .istore_n 3), (133, .iload_n 3), (134, .aload_n 0), (135, .getfield 3), (138, .getfield 82), (141, .if_icmp .ge 22), (144, .aload_n 0), (145, .iload_n 3), (146, .invokevirtual 85), (149, .ifCond .ne 8), (152, .aload_n 0), (153, .iload_n 3), (154, .invokevirtual 96), (157, .iinc 3 1), (160, .goto (-27)), (163, .aload_n 0), (164, .dup), (165, .getfield 46), (168, .iconst 1), (169, .iadd), (170, .putfield 46), (173, .iload_n 2), (174, .ireturn)]
theorem amX2_pass (n : Nat) : amok (yX2_pass.cls, cX2_pass, 4, n) tbX2_pass FTX2 PTX2 := ⟨tbok_of (cc := cX2_pass) (by decide +kernel), ftX2, ptX2⟩
def tbX2_pass_ : List (Nat × Instr) := [(0, .iconst 0), (1, .istore_n 2), (2, .iconst 0), (3, .istore_n 3), (4, .iload_n 3), (5, .iload_n 1), (6, .if_icmp .ge 16), (9, .iload_n 2), (10, .aload_n 0), (11, .invokevirtual 99), (14, .iadd), (15, .istore_n 2), (16, .iinc 3 1), (19, .goto (-15)), (22, .iload_n 2), (23, .ireturn)]
theorem amX2_pass_ (n : Nat) : amok (yX2_pass_.cls, cX2_pass_, 4, n) tbX2_pass_ FTX2 PTX2 := ⟨tbok_of (cc := cX2_pass_) (by decide +kernel), ftX2, ptX2⟩
def tbX2_send : List (Nat × Instr) := [(0, .aload_n 0), (1, .getfield 25), (4, .iload_n 1), (5, .iaload), (6, .istore_n 3), (7, .aload_n 0), (8, .iload_n 1), (9, .invokevirtual 85), (12, .ifCond .eq 10), (15, .aload_n 0), (16, .getfield 19), (19, .iload_n 3), (20, .iconst (-1)), (21, .iastore), (22, .aload_n 0), (23, .getfield 25), (26, .iload_n 1), (27, .iload_n 2), (28, .iastore), (29, .iload_n 3), (30, .ireturn)]
theorem amX2_send (n : Nat) : amok (yX2_send.cls, cX2_send, 4, n) tbX2_send FTX2 PTX2 := ⟨tbok_of (cc := cX2_send) (by decide +kernel), ftX2, ptX2⟩
def tbX2_held : List (Nat × Instr) := [(0, .iconst 0), (1, .istore_n 1), (2, .aload_n 0), (3, .getfield 19), (6, .astore_n 2), (7, .aload_n 2), (8, .arraylength), (9, .istore_n 3), (10, .iconst 0), (11, .istore 4), (13, .iload 4), (15, .iload_n 3), (16, .if_icmp .ge 29), (19, .aload_n 2), (20, .iload 4), (22, .iaload), (23, .istore 5), (25, .iload_n 1), (26, .iload 5), (28, .iconst (-1)), (29, .if_icmp .ne 7), (32, .iconst 0), (33, .goto 4), (36, .iconst 1), (37, .iadd), (38, .istore_n 1), (39, .iinc 4 1), (42, .goto (-29)), (45, .iload_n 1), (46, .ireturn)]
theorem amX2_held (n : Nat) : amok (yX2_held.cls, cX2_held, 6, n) tbX2_held FTX2 PTX2 := ⟨tbok_of (cc := cX2_held) (by decide +kernel), ftX2, ptX2⟩
def tbX2_allMud : List (Nat × Instr) := [(0, .aload_n 0), (1, .aload_n 0), (2, .getfield 15), (5, .invokevirtual 103), (8, .ireturn)]
theorem amX2_allMud (n : Nat) : amok (yX2_allMud.cls, cX2_allMud, 1, n) tbX2_allMud FTX2 PTX2 := ⟨tbok_of (cc := cX2_allMud) (by decide +kernel), ftX2, ptX2⟩
def tbX2_sum : List (Nat × Instr) := [(0, .iconst 0), (1, .istore_n 2), (2, .aload_n 1), (3, .astore_n 3), (4, .aload_n 3), (5, .arraylength), (6, .istore 4), (8, .iconst 0), (9, .istore 5), (11, .iload 5), (13, .iload 4), (15, .if_icmp .ge 20), (18, .aload_n 3), (19, .iload 5), (21, .iaload), (22, .istore 6), (24, .iload_n 2), (25, .iload 6), (27, .iadd), (28, .istore_n 2), (29, .iinc 5 1), (32, .goto (-21)), (35, .iload_n 2), (36, .ireturn)]
theorem amX2_sum (n : Nat) : amok (yX2_sum.cls, cX2_sum, 7, n) tbX2_sum FTX2 PTX2 := ⟨tbok_of (cc := cX2_sum) (by decide +kernel), ftX2, ptX2⟩
def tbX3_init : List (Nat × Instr) := [(0, .aload_n 0), (1, .invokespecial 1), (4, .aload_n 0), (5, .bipush 9), (7, .newarray .int), (9, .putfield 9), (12, .aload_n 0), (13, .bipush 9), (15, .newarray .int), (17, .putfield 13), (20, .aload_n 0), (21, .bipush 8), (23, .newarray .int), (25, .putfield 16), (28, .aload_n 0), (29, .bipush 8), (31, .newarray .int), (33, .putfield 19), (36, .aload_n 0), (37, .bipush 9), (39, .newarray .int), (41, .putfield 22), (44, .aload_n 0), (45, .new 25), (48, .dup), (49, .aload_n 0), (50, .invokespecial 27), (53, .putfield 30), (56, .aload_n 0), (57, .new 25), (60, .dup), (61, .aload_n 0), (62, .invokespecial 27), (65, .putfield 34), (68, .iconst 0), (69, .istore_n 1), (70, .iload_n 1), (71, .bipush 9), (73, .if_icmp .ge 34), (76, .aload_n 0), (77, .getfield 9), (80, .iload_n 1), (81, .iconst 2), (82, .iastore), (83, .aload_n 0), (84, .getfield 13), (87, .iload_n 1), (88, .bipush 10), (90, .iastore), (91, .aload_n 0), (92, .getfield 30), (95, .getfield 37), (98, .iload_n 1), (99, .iconst (-1)), (100, .iastore), (101, .iinc 1 1), (104, .goto (-34)), (107, .return_)]
theorem amX3_init (n : Nat) : amok (yX3_init.cls, cX3_init, 2, n) tbX3_init FTX3 PTX3 := ⟨tbok_of (cc := cX3_init) (by decide +kernel), ftX3, ptX3⟩
def tbX3_thrown : List (Nat × Instr) := [(0, .aload_n 0), (1, .getfield 40), (4, .ireturn)]
theorem amX3_thrown (n : Nat) : amok (yX3_thrown.cls, cX3_thrown, 1, n) tbX3_thrown FTX3 PTX3 := ⟨tbok_of (cc := cX3_thrown) (by decide +kernel), ftX3, ptX3⟩
def tbX3_no : List (Nat × Instr) := [(0, .aload_n 0), (1, .iload_n 1), (2, .putfield 40), (5, .iconst 0), (6, .ireturn)]
theorem amX3_no (n : Nat) : amok (yX3_no.cls, cX3_no, 2, n) tbX3_no FTX3 PTX3 := ⟨tbok_of (cc := cX3_no) (by decide +kernel), ftX3, ptX3⟩
def tbX3_isIn : List (Nat × Instr) := [(0, .iload_n 0), (1, .iload_n 1), (2, .if_icmp .lt 12), (5, .iload_n 0), (6, .iload_n 2), (7, .if_icmp .gt 7), (10, .iconst 1), (11, .goto 4), (14, .iconst 0), (15, .ireturn)]
theorem amX3_isIn (n : Nat) : amok (yX3_isIn.cls, cX3_isIn, 3, n) tbX3_isIn FTX3 PTX3 := ⟨tbok_of (cc := cX3_isIn) (by decide +kernel), ftX3, ptX3⟩
def tbX3_isCrossing : List (Nat × Instr) := [(0, .iload_n 0), (1, .iconst 0), (2, .bipush 8), (4, .invokestatic 44), (7, .ireturn)]
theorem amX3_isCrossing (n : Nat) : amok (yX3_isCrossing.cls, cX3_isCrossing, 1, n) tbX3_isCrossing FTX3 PTX3 := ⟨tbok_of (cc := cX3_isCrossing) (by decide +kernel), ftX3, ptX3⟩
def tbX3_isSweeper : List (Nat × Instr) := [(0, .iload_n 1), (1, .iconst 0), (2, .aload_n 0), (3, .getfield 48), (6, .iconst 1), (7, .isub), (8, .invokestatic 44), (11, .ireturn)]
theorem amX3_isSweeper (n : Nat) : amok (yX3_isSweeper.cls, cX3_isSweeper, 2, n) tbX3_isSweeper FTX3 PTX3 := ⟨tbok_of (cc := cX3_isSweeper) (by decide +kernel), ftX3, ptX3⟩
def tbX3_isTime : List (Nat × Instr) := [(0, .iload_n 0), (1, .iconst 1), (2, .bipush 96), (4, .invokestatic 44), (7, .ireturn)]
theorem amX3_isTime (n : Nat) : amok (yX3_isTime.cls, cX3_isTime, 1, n) tbX3_isTime FTX3 PTX3 := ⟨tbok_of (cc := cX3_isTime) (by decide +kernel), ftX3, ptX3⟩
def tbX3_beside : List (Nat × Instr) := [(0, .iload_n 1), (1, .ifCond .ne 17), (4, .iload_n 0), (5, .iconst 3), (6, .irem), (7, .ifCond .le 9), (10, .iload_n 0), (11, .iconst 1), (12, .isub), (13, .goto 4), (16, .iconst (-1)), (17, .ireturn), (18, .iload_n 1), (19, .iconst 1), (20, .if_icmp .ne 18), (23, .iload_n 0), (24, .iconst 3), (25, .irem), (26, .iconst 2), (27, .if_icmp .ge 9), (30, .iload_n 0), (31, .iconst 1), (32, .iadd), (33, .goto 4), (36, .iconst (-1)), (37, .ireturn), (38, .iload_n 1), (39, .iconst 2), (40, .if_icmp .ne 18), (43, .iload_n 0), (44, .iconst 3), (45, .if_icmp .lt 9), (48, .iload_n 0), (49, .iconst 3), (50, .isub), (51, .goto 20), (54, .iconst (-1)), (55, .goto 16), (58, .iload_n 0), (59, .bipush 6), (61, .if_icmp .ge 9), (64, .iload_n 0), (65, .iconst 3), (66, .iadd), (67, .goto 4), (70, .iconst (-1)), (71, .ireturn)]
theorem amX3_beside (n : Nat) : amok (yX3_beside.cls, cX3_beside, 2, n) tbX3_beside FTX3 PTX3 := ⟨tbok_of (cc := cX3_beside) (by decide +kernel), ftX3, ptX3⟩
def tbX3_goesTo : List (Nat × Instr) := [(0, .iconst (-1)), (1, .istore_n 2), (2, .iconst 0), (3, .istore_n 3), (4, .iload_n 3), (5, .iconst 4), (6, .if_icmp .ge 46), (9, .iload_n 1), (10, .iload_n 3), (11, .invokestatic 51), (14, .istore 4), (16, .iload 4), (18, .iconst (-1)), (19, .if_icmp .eq 27), (22, .iload_n 2), (23, .iconst (-1)), (24, .if_icmp .eq 19), (27, .aload_n 0), (28, .getfield 13), (31, .iload 4), (33, .iaload), (34, .aload_n 0), (35, .getfield 13), (38, .iload_n 2), (39, .iaload), (40, .if_icmp .le 6), (43, .iload 4), (45, .istore_n 2), (46, .iinc 3 1), (49, .goto (-45)), (52, .iload_n 2), (53, .ireturn)]
theorem amX3_goesTo (n : Nat) : amok (yX3_goesTo.cls, cX3_goesTo, 5, n) tbX3_goesTo FTX3 PTX3 := ⟨tbok_of (cc := cX3_goesTo) (by decide +kernel), ftX3, ptX3⟩
def tbX3_set : List (Nat × Instr) := [(0, .aload_n 0), (1, .iconst 0), (2, .putfield 40), (5, .iload_n 1), (6, .invokestatic 55), (9, .ifCond .ne 9), (12, .aload_n 0), (13, .iconst 1), (14, .invokevirtual 59), (17, .ireturn), (18, .iload_n 2), (19, .iconst 0), (20, .bipush 9), (22, .invokestatic 44), (25, .ifCond .eq 13), (28, .iload_n 3), (29, .iconst 0), (30, .bipush 30), (32, .invokestatic 44), (35, .ifCond .ne 9), (38, .aload_n 0), (39, .iconst 2), (40, .invokevirtual 59), (43, .ireturn), (44, .bipush 100), (46, .aload_n 0), (47, .getfield 9), (50, .iload_n 1), (51, .iaload), (52, .imul), (53, .aload_n 0), (54, .getfield 13), (57, .iload_n 1), (58, .iaload), (59, .iadd), (60, .istore 4), (62, .aload_n 0), (63, .getfield 9), (66, .iload_n 1), (67, .iload_n 2), (68, .iastore), (69, .aload_n 0), (70, .getfield 13), (73, .iload_n 1), (74, .iload_n 3), (75, .iastore), (76, .iload 4), (78, .ireturn)]
theorem amX3_set (n : Nat) : amok (yX3_set.cls, cX3_set, 5, n) tbX3_set FTX3 PTX3 := ⟨tbok_of (cc := cX3_set) (by decide +kernel), ftX3, ptX3⟩
def tbX3_setRain : List (Nat × Instr) := [(0, .aload_n 0), (1, .iconst 0), (2, .putfield 40), (5, .iload_n 1), (6, .iconst 0), (7, .bipush 7), (9, .invokestatic 44), (12, .ifCond .ne 9), (15, .aload_n 0), (16, .iconst 1), (17, .invokevirtual 59), (20, .ireturn), (21, .iload_n 2), (22, .iconst 0), (23, .bipush 9), (25, .invokestatic 44), (28, .ifCond .ne 9), (31, .aload_n 0), (32, .iconst 2), (33, .invokevirtual 59), (36, .ireturn), (37, .aload_n 0), (38, .getfield 16), (41, .iload_n 1), (42, .iaload), (43, .istore_n 3), (44, .aload_n 0), (45, .getfield 16), (48, .iload_n 1), (49, .iload_n 2), (50, .iastore), (51, .iload_n 3), (52, .ireturn)]
theorem amX3_setRain (n : Nat) : amok (yX3_setRain.cls, cX3_setRain, 4, n) tbX3_setRain FTX3 PTX3 := ⟨tbok_of (cc := cX3_setRain) (by decide +kernel), ftX3, ptX3⟩
def tbX3_spill : List (Nat × Instr) := [(0, .aload_n 0), (1, .iconst 0), (2, .putfield 40), (5, .iload_n 1), (6, .invokestatic 55), (9, .ifCond .ne 9), (12, .aload_n 0), (13, .iconst 1), (14, .invokevirtual 59), (17, .ireturn), (18, .iload_n 2), (19, .iconst 1), (20, .bipush 50), (22, .invokestatic 44), (25, .ifCond .ne 9), (28, .aload_n 0), (29, .iconst 2), (30, .invokevirtual 59), (33, .ireturn), (34, .aload_n 0), (35, .getfield 30), (38, .getfield 63), (41, .iload_n 1), (42, .bipush 50), (44, .aload_n 0), (45, .getfield 30), (48, .getfield 63), (51, .iload_n 1), (52, .iaload), (53, .iload_n 2), (54, .iadd), (55, .invokestatic 66), (58, .iastore), (59, .aload_n 0), (60, .getfield 30), (63, .getfield 63), (66, .iload_n 1), (67, .iaload), (68, .ireturn)]
theorem amX3_spill (n : Nat) : amok (yX3_spill.cls, cX3_spill, 3, n) tbX3_spill FTX3 PTX3 := ⟨tbok_of (cc := cX3_spill) (by decide +kernel), ftX3, ptX3⟩
def tbX3_come : List (Nat × Instr) := [(0, .aload_n 0), (1, .iconst 0), (2, .putfield 40), (5, .iload_n 1), (6, .invokestatic 55), (9, .ifCond .ne 9), (12, .aload_n 0), (13, .iconst 1), (14, .invokevirtual 59), (17, .ireturn), (18, .iload_n 2), (19, .iconst 1), (20, .bipush 9), (22, .invokestatic 44), (25, .ifCond .ne 9), (28, .aload_n 0), (29, .iconst 2), (30, .invokevirtual 59), (33, .ireturn), (34, .aload_n 0), (35, .getfield 48), (38, .bipush 8), (40, .if_icmp .ne 9), (43, .aload_n 0), (44, .iconst 3), (45, .invokevirtual 59), (48, .ireturn), (49, .aload_n 0), (50, .getfield 30), (53, .getfield 71), (56, .aload_n 0), (57, .getfield 48), (60, .iload_n 1), (61, .iastore), (62, .aload_n 0), (63, .getfield 30), (66, .getfield 74), (69, .aload_n 0), (70, .getfield 48), (73, .bipush 40), (75, .iastore), (76, .aload_n 0), (77, .getfield 19), (80, .aload_n 0), (81, .getfield 48), (84, .iload_n 2), (85, .iastore), (86, .aload_n 0), (87, .dup), (88, .getfield 48), (91, .iconst 1), (92, .iadd), (93, .putfield 48), (96, .aload_n 0), (97, .getfield 48), (100, .iconst 1), (101, .isub), (102, .ireturn)]
theorem amX3_come (n : Nat) : amok (yX3_come.cls, cX3_come, 3, n) tbX3_come FTX3 PTX3 := ⟨tbok_of (cc := cX3_come) (by decide +kernel), ftX3, ptX3⟩
def tbX3_send : List (Nat × Instr) := [(0, .aload_n 0), (1, .iconst 0), (2, .putfield 40), (5, .aload_n 0), (6, .iload_n 1), (7, .invokevirtual 77), (10, .ifCond .eq 22), (13, .iload_n 2), (14, .invokestatic 55), (17, .ifCond .eq 15), (20, .aload_n 0), (21, .getfield 30), (24, .iload_n 1), (25, .iload_n 2), (26, .invokevirtual 80), (29, .goto 8), (32, .aload_n 0), (33, .iconst 1), (34, .invokevirtual 59), (37, .ireturn)]
theorem amX3_send (n : Nat) : amok (yX3_send.cls, cX3_send, 3, n) tbX3_send FTX3 PTX3 := ⟨tbok_of (cc := cX3_send) (by decide +kernel), ftX3, ptX3⟩
def tbX3_buy : List (Nat × Instr) := [(0, .aload_n 0), (1, .iconst 0), (2, .putfield 40), (5, .aload_n 0), (6, .iload_n 1), (7, .invokevirtual 77), (10, .ifCond .ne 9), (13, .aload_n 0), (14, .iconst 1), (15, .invokevirtual 59), (18, .ireturn), (19, .aload_n 0), (20, .getfield 30), (23, .getfield 83), (26, .iload_n 1), (27, .iaload), (28, .iconst 5), (29, .if_icmp .ge 9), (32, .aload_n 0), (33, .iconst 2), (34, .invokevirtual 59), (37, .ireturn), (38, .aload_n 0), (39, .getfield 30), (42, .getfield 83), (45, .iload_n 1), (46, .dup2), (47, .iaload), (48, .iconst 5), (49, .isub), (50, .iastore), (51, .aload_n 0), (52, .getfield 30), (55, .getfield 74), (58, .iload_n 1), (59, .bipush 40), (61, .iastore), (62, .aload_n 0), (63, .getfield 30), (66, .getfield 83), (69, .iload_n 1), (70, .iaload), (71, .ireturn)]
theorem amX3_buy (n : Nat) : amok (yX3_buy.cls, cX3_buy, 2, n) tbX3_buy FTX3 PTX3 := ⟨tbok_of (cc := cX3_buy) (by decide +kernel), ftX3, ptX3⟩
def tbX3_sweeperTold : List (Nat × Instr) := [(0, .bipush 8), (2, .newarray .int), (4, .dup), (5, .iconst 0), (6, .aload_n 0), (7, .getfield 30), (10, .getfield 71), (13, .iload_n 1), (14, .iaload), (15, .iastore), (16, .dup), (17, .iconst 1), (18, .aload_n 0), (19, .getfield 19), (22, .iload_n 1), (23, .iaload), (24, .iastore), (25, .dup), (26, .iconst 2), (27, .aload_n 0), (28, .getfield 30), (31, .getfield 74), (34, .iload_n 1), (35, .iaload), (36, .iastore), (37, .dup), (38, .iconst 3), (39, .aload_n 0), (40, .getfield 30), (43, .getfield 83), (46, .iload_n 1), (47, .iaload), (48, .iastore), (49, .dup), (50, .iconst 4), (51, .aload_n 0), (52, .getfield 30), (55, .iload_n 1), (56, .invokevirtual 86), (59, .ifCond .eq 7), (62, .iconst 1), (63, .goto 4), (66, .iconst 0), (67, .iastore), (68, .dup), (69, .iconst 5), (70, .aload_n 0), (71, .getfield 30), (74, .getfield 89), (77, .iload_n 1), (78, .iaload), (79, .iastore), (80, .dup), (81, .bipush 6), (83, .aload_n 0), (84, .getfield 30), (87, .getfield 92), (90, .iload_n 1), (91, .iaload), (92, .iastore), (93, .dup), (94, .bipush 7), (96, .aload_n 0), (97, .getfield 30), (100, .iload_n 1), (101, .invokevirtual 95), (104, .iastore), (105, .astore_n 3), (106, .aload_n 3), (107, .iload_n 2), (108, .iaload), (109, .ireturn)]
theorem amX3_sweeperTold (n : Nat) : amok (yX3_sweeperTold.cls, cX3_sweeperTold, 4, n) tbX3_sweeperTold FTX3 PTX3 := ⟨tbok_of (cc := cX3_sweeperTold) (by decide +kernel), ftX3, ptX3⟩
def tbX3_sweeper : List (Nat × Instr) := [(0, .aload_n 0), (1, .iconst 0), (2, .putfield 40), (5, .aload_n 0), (6, .iload_n 1), (7, .invokevirtual 77), (10, .ifCond .eq 22), (13, .iload_n 2), (14, .iconst 0), (15, .bipush 7), (17, .invokestatic 44), (20, .ifCond .eq 12), (23, .aload_n 0), (24, .iload_n 1), (25, .iload_n 2), (26, .invokevirtual 98), (29, .goto 8), (32, .aload_n 0), (33, .iconst 1), (34, .invokevirtual 59), (37, .ireturn)]
theorem amX3_sweeper (n : Nat) : amok (yX3_sweeper.cls, cX3_sweeper, 3, n) tbX3_sweeper FTX3 PTX3 := ⟨tbok_of (cc := cX3_sweeper) (by decide +kernel), ftX3, ptX3⟩
def tbX3_crossingTold : List (Nat × Instr) := [(0, .iconst 0), (1, .istore_n 3), (2, .iconst 0), (3, .istore 4), (5, .iload 4), (7, .aload_n 0), (8, .getfield 48), (11, .if_icmp .ge 31), (14, .iload_n 3), (15, .aload_n 0), (16, .getfield 30), (19, .getfield 71), (22, .iload 4), (24, .iaload), (25, .iload_n 1), (26, .if_icmp .ne 7), (29, .iconst 1), (30, .goto 4), (33, .iconst 0), (34, .iadd), (35, .istore_n 3), (36, .iinc 4 1), (39, .goto (-34)), (42, .bipush 6), (44, .newarray .int), (46, .dup), (47, .iconst 0), (48, .aload_n 0), (49, .getfield 30), (52, .getfield 63), (55, .iload_n 1), (56, .iaload), (57, .iastore), (58, .dup), (59, .iconst 1), (60, .aload_n 0), (61, .getfield 9), (64, .iload_n 1), (65, .iaload), (66, .iastore), (67, .dup), (68, .iconst 2), (69, .aload_n 0), (70, .getfield 13), (73, .iload_n 1), (74, .iaload), (75, .iastore), (76, .dup), (77, .iconst 3), (78, .aload_n 0), (79, .getfield 30), (82, .getfield 37), (85, .iload_n 1), (86, .iaload), (87, .iastore), (88, .dup), (89, .iconst 4), (90, .iload_n 3), (91, .iastore), (92, .dup), (93, .iconst 5), (94, .aload_n 0), (95, .getfield 30), (98, .getfield 101), (101, .iload_n 1), (102, .iaload), (103, .iastore), (104, .astore 4), (106, .aload 4), (108, .iload_n 2), (109, .iaload), (110, .ireturn)]
theorem amX3_crossingTold (n : Nat) : amok (yX3_crossingTold.cls, cX3_crossingTold, 5, n) tbX3_crossingTold FTX3 PTX3 := ⟨tbok_of (cc := cX3_crossingTold) (by decide +kernel), ftX3, ptX3⟩
def tbX3_crossing : List (Nat × Instr) := [(0, .aload_n 0), (1, .iconst 0), (2, .putfield 40), (5, .iload_n 1), (6, .invokestatic 55), (9, .ifCond .eq 21), (12, .iload_n 2), (13, .iconst 0), (14, .iconst 5), (15, .invokestatic 44), (18, .ifCond .eq 12), (21, .aload_n 0), (22, .iload_n 1), (23, .iload_n 2), (24, .invokevirtual 104), (27, .goto 8), (30, .aload_n 0), (31, .iconst 1), (32, .invokevirtual 59), (35, .ireturn)]
theorem amX3_crossing (n : Nat) : amok (yX3_crossing.cls, cX3_crossing, 3, n) tbX3_crossing FTX3 PTX3 := ⟨tbok_of (cc := cX3_crossing) (by decide +kernel), ftX3, ptX3⟩
def tbX3_counted : List (Nat × Instr) := [(0, .iconst 0), (1, .istore_n 2), (2, .aload_n 0), (3, .getfield 30), (6, .getfield 63), (9, .astore_n 3), (10, .aload_n 3), (11, .arraylength), (12, .istore 4), (14, .iconst 0), (15, .istore 5), (17, .iload 5), (19, .iload 4), (21, .if_icmp .ge 29), (24, .aload_n 3), (25, .iload 5), (27, .iaload), (28, .istore 6), (30, .iload_n 2), (31, .iload 6), (33, .iconst 5), (34, .if_icmp .gt 7), (37, .iconst 1), (38, .goto 4), (41, .iconst 0), (42, .iadd), (43, .istore_n 2), (44, .iinc 5 1), (47, .goto (-30)), (50, .bipush 8), (52, .newarray .int), (54, .dup), (55, .iconst 0), (56, .aload_n 0), (57, .getfield 30), (60, .getfield 107), (63, .iastore), (64, .dup), (65, .iconst 1), (66, .aload_n 0), (67, .getfield 48), (70, .iastore), (71, .dup), (72, .iconst 2), (73, .aload_n 0), (74, .getfield 30), (77, .invokevirtual 110), (80, .iastore), (81, .dup), (82, .iconst 3), (83, .aload_n 0), (84, .getfield 30), (87, .invokevirtual 114), (90, .iastore), (91, .dup), (92, .iconst 4), (93, .aload_n 0), (94, .getfield 30), (97, .aload_n 0), (98, .getfield 30), (101, .getfield 83), (104, .invokevirtual 117), (107, .iastore), (108, .dup), (109, .iconst 5), (110, .iload_n 2), (111, .iastore), (112, .dup), (113, .bipush 6), (115, .aload_n 0), (116, .getfield 30), (119, .aload_n 0), (120, .getfield 30), (123, .getfield 89), (126, .invokevirtual 117), (129, .iastore), (130, .dup), (131, .bipush 7), (133, .aload_n 0), (134, .getfield 30), (137, .aload_n 0), (138, .getfield 30), (141, .getfield 92), (144, .invokevirtual 117), (147, .iastore), (148, .astore_n 3), (149, .aload_n 3), (150, .iload_n 1), (151, .iaload), (152, .ireturn)]
theorem amX3_counted (n : Nat) : amok (yX3_counted.cls, cX3_counted, 7, n) tbX3_counted FTX3 PTX3 := ⟨tbok_of (cc := cX3_counted) (by decide +kernel), ftX3, ptX3⟩
def tbX3_count : List (Nat × Instr) := [(0, .aload_n 0), (1, .iconst 0), (2, .putfield 40), (5, .iload_n 1), (6, .iconst 0), (7, .bipush 7), (9, .invokestatic 44), (12, .ifCond .eq 11), (15, .aload_n 0), (16, .iload_n 1), (17, .invokevirtual 121), (20, .goto 8), (23, .aload_n 0), (24, .iconst 1), (25, .invokevirtual 59), (28, .ireturn)]
theorem amX3_count (n : Nat) : amok (yX3_count.cls, cX3_count, 2, n) tbX3_count FTX3 PTX3 := ⟨tbok_of (cc := cX3_count) (by decide +kernel), ftX3, ptX3⟩
def tbX3_pass : List (Nat × Instr) := [(0, .aload_n 0), (1, .iconst 0), (2, .putfield 40), (5, .iload_n 1), (6, .invokestatic 124), (9, .ifCond .eq 14), (12, .aload_n 0), (13, .getfield 30), (16, .iload_n 1), (17, .invokevirtual 127), (20, .goto 8), (23, .aload_n 0), (24, .iconst 1), (25, .invokevirtual 59), (28, .ireturn)]
theorem amX3_pass (n : Nat) : amok (yX3_pass.cls, cX3_pass, 2, n) tbX3_pass FTX3 PTX3 := ⟨tbok_of (cc := cX3_pass) (by decide +kernel), ftX3, ptX3⟩
def tbX3_way : List (Nat × Instr) := [(0, .aload_n 0), (1, .iconst 0), (2, .putfield 40), (5, .iload_n 1), (6, .invokestatic 55), (9, .ifCond .eq 10), (12, .iload_n 2), (13, .invokestatic 55), (16, .ifCond .ne 9), (19, .aload_n 0), (20, .iconst 1), (21, .invokevirtual 59), (24, .ireturn), (25, .iconst 0), (26, .istore_n 3), (27, .iload_n 3), (28, .bipush 9), (30, .if_icmp .ge 34), (33, .aload_n 0), (34, .getfield 22), (37, .iload_n 3), (38, .iload_n 3), (39, .iload_n 1), (40, .if_icmp .ne 15), (43, .aload_n 0), (44, .getfield 30), (47, .getfield 63), (50, .iload_n 3), (51, .iaload), (52, .goto 5), (55, .ldc 132), (57, .iastore), (58, .iinc 3 1), (61, .goto (-34)), (64, .iconst 0), (65, .istore_n 3), (66, .iload_n 3), (67, .bipush 9), (69, .if_icmp .ge 43), (72, .iconst 0), (73, .istore 4), (75, .iload 4), (77, .bipush 9), (79, .if_icmp .ge 27), (82, .aload_n 0), (83, .getfield 22), (86, .iload 4), (88, .iaload), (89, .ldc 132), (91, .if_icmp .ge 9), (94, .aload_n 0), (95, .iload 4), (97, .invokevirtual 133), (100, .iinc 4 1), (103, .goto (-28)), (106, .iinc 3 1), (109, .goto (-43)), (112, .aload_n 0), (113, .getfield 22), (116, .iload_n 2), (117, .iaload), (118, .ireturn)]
theorem amX3_way (n : Nat) : amok (yX3_way.cls, cX3_way, 5, n) tbX3_way FTX3 PTX3 := ⟨tbok_of (cc := cX3_way) (by decide +kernel), ftX3, ptX3⟩
def tbX3_spread : List (Nat × Instr) := [(0, .iconst 0), (1, .istore_n 2), (2, .iload_n 2), (3, .iconst 4), (4, .if_icmp .ge 51), (7, .iload_n 1), (8, .iload_n 2), (9, .invokestatic 51), (12, .istore_n 3), (13, .iload_n 3), (14, .iconst (-1)), (15, .if_icmp .eq 34), (18, .aload_n 0), (19, .getfield 22), (22, .iload_n 3), (23, .aload_n 0), (24, .getfield 22), (27, .iload_n 3), (28, .iaload), (29, .aload_n 0), (30, .getfield 22), (33, .iload_n 1), (34, .iaload), (35, .aload_n 0), (36, .getfield 30), (39, .getfield 63), (42, .iload_n 3), (43, .iaload), (44, .iadd), (45, .invokestatic 66), (48, .iastore), (49, .iinc 2 1), (52, .goto (-50)), (55, .return_)]
theorem amX3_spread (n : Nat) : amok (yX3_spread.cls, cX3_spread, 4, n) tbX3_spread FTX3 PTX3 := ⟨tbok_of (cc := cX3_spread) (by decide +kernel), ftX3, ptX3⟩
def tbX3_earnsAhead : List (Nat × Instr) := [(0, .aload_n 0), (1, .getfield 34), (4, .iload_n 2), (5, .invokevirtual 127), (8, .pop), (9, .aload_n 0), (10, .getfield 34), (13, .getfield 83), (16, .iload_n 1), (17, .iaload), (18, .aload_n 0), (19, .getfield 30), (22, .getfield 83), (25, .iload_n 1), (26, .iaload), (27, .isub), (28, .ireturn)]
theorem amX3_earnsAhead (n : Nat) : amok (yX3_earnsAhead.cls, cX3_earnsAhead, 3, n) tbX3_earnsAhead FTX3 PTX3 := ⟨tbok_of (cc := cX3_earnsAhead) (by decide +kernel), ftX3, ptX3⟩
def tbX3_earns : List (Nat × Instr) := [(0, .aload_n 0), (1, .iconst 0), (2, .putfield 40), (5, .aload_n 0), (6, .iload_n 1), (7, .invokevirtual 77), (10, .ifCond .ne 9), (13, .aload_n 0), (14, .iconst 1), (15, .invokevirtual 59), (18, .ireturn), (19, .iload_n 2), (20, .invokestatic 124), (23, .ifCond .ne 9), (26, .aload_n 0), (27, .iconst 2), (28, .invokevirtual 59), (31, .ireturn), (32, .aload_n 0), (33, .getfield 34), (36, .aload_n 0), (37, .getfield 30), (40, .invokevirtual 137), (43, .aload_n 0), (44, .iload_n 1), (45, .iload_n 2), (46, .invokevirtual 141), (49, .ireturn)]
theorem amX3_earns (n : Nat) : amok (yX3_earns.cls, cX3_earns, 3, n) tbX3_earns FTX3 PTX3 := ⟨tbok_of (cc := cX3_earns) (by decide +kernel), ftX3, ptX3⟩
def tbX3_advise : List (Nat × Instr) := [(0, .aload_n 0), (1, .iconst 0), (2, .putfield 40), (5, .aload_n 0), (6, .iload_n 1), (7, .invokevirtual 77), (10, .ifCond .ne 9), (13, .aload_n 0), (14, .iconst 1), (15, .invokevirtual 59), (18, .ireturn), (19, .iload_n 2), (20, .invokestatic 124), (23, .ifCond .ne 9), (26, .aload_n 0), (27, .iconst 2), (28, .invokevirtual 59), (31, .ireturn), (32, .aload_n 0), (33, .getfield 34), (36, .aload_n 0), (37, .getfield 30), (40, .invokevirtual 137), (43, .aload_n 0), (44, .iload_n 1), (45, .iload_n 2), (46, .invokevirtual 141), (49, .istore_n 3), (50, .iconst (-1)), (51, .istore 4), (53, .iconst 0), (54, .istore 5), (56, .iload 5), (58, .bipush 9), (60, .if_icmp .ge 55), (63, .aload_n 0), (64, .getfield 34), (67, .aload_n 0), (68, .getfield 30), (71, .invokevirtual 137), (74, .aload_n 0), (75, .getfield 34), (78, .iload_n 1), (79, .iload 5), (81, .invokevirtual 80), (84, .pop), (85, .aload_n 0), (86, .iload_n 1), (87, .iload_n 2), (88, .invokevirtual 141), (91, .istore 6), (93, .iload 6), (95, .iload_n 3), (96, .if_icmp .gt 6), (99, .goto 10), (102, .iload 6), (104, .istore_n 3), (105, .iload 5), (107, .istore 4), (109, .iinc 5 1), (112, .goto (-56)), (115, .iload 4), (117, .ireturn)]
theorem amX3_advise (n : Nat) : amok (yX3_advise.cls, cX3_advise, 7, n) tbX3_advise FTX3 PTX3 := ⟨tbok_of (cc := cX3_advise) (by decide +kernel), ftX3, ptX3⟩
def tbX3_foresee : List (Nat × Instr) := [(0, .aload_n 0), (1, .iconst 0), (2, .putfield 40), (5, .iload_n 1), (6, .invokestatic 124), (9, .ifCond .ne 9), (12, .aload_n 0), (13, .iconst 1), (14, .invokevirtual 59), (17, .ireturn), (18, .iload_n 2), (19, .iconst 0), (20, .iconst 2), (21, .invokestatic 44), (24, .ifCond .ne 9), (27, .aload_n 0), (28, .iconst 2), (29, .invokevirtual 59), (32, .ireturn), (33, .aload_n 0), (34, .getfield 34), (37, .aload_n 0), (38, .getfield 30), (41, .invokevirtual 137), (44, .aload_n 0), (45, .getfield 34), (48, .iload_n 1), (49, .invokevirtual 127), (52, .istore_n 3), (53, .iload_n 2), (54, .ifCond .ne 7), (57, .iload_n 3), (58, .goto 25), (61, .iload_n 2), (62, .iconst 1), (63, .if_icmp .ne 13), (66, .aload_n 0), (67, .getfield 34), (70, .invokevirtual 114), (73, .goto 10), (76, .aload_n 0), (77, .getfield 34), (80, .invokevirtual 110), (83, .ireturn)]
theorem amX3_foresee (n : Nat) : amok (yX3_foresee.cls, cX3_foresee, 4, n) tbX3_foresee FTX3 PTX3 := ⟨tbok_of (cc := cX3_foresee) (by decide +kernel), ftX3, ptX3⟩
def tbX3_mean : List (Nat × Instr) := [(0, .aload_n 0), (1, .iconst 0), (2, .putfield 40), (5, .aload_n 0), (6, .getfield 30), (9, .invokevirtual 114), (12, .i2d), (13, .ldc2_w 144), (16, .ddiv), (17, .dreturn)]
theorem amX3_mean (n : Nat) : amok (yX3_mean.cls, cX3_mean, 1, n) tbX3_mean FTX3 PTX3 := ⟨tbok_of (cc := cX3_mean) (by decide +kernel), ftX3, ptX3⟩
def tbX3_digest : List (Nat × Instr) := [(0, .aload_n 0), (1, .iconst 0), (2, .putfield 40), (5, .ldc2_w 146), (8, .lstore_n 1), (9, .iconst 0), (10, .istore_n 3), (11, .iload_n 3), (12, .bipush 8), (14, .if_icmp .ge 22), (17, .lload_n 1), (18, .ldc2_w 148), (21, .lmul), (22, .aload_n 0), (23, .iload_n 3), (24, .invokevirtual 121), (27, .i2l), (28, .ladd), (29, .lstore_n 1), (30, .iinc 3 1), (33, .goto (-22)), (36, .iconst 0), (37, .istore_n 3), (38, .iload_n 3), (39, .bipush 9), (41, .if_icmp .ge 40), (44, .iconst 0), (45, .istore 4), (47, .iload 4), (49, .bipush 6), (51, .if_icmp .ge 24), (54, .lload_n 1), (55, .ldc2_w 148), (58, .lmul), (59, .aload_n 0), (60, .iload_n 3), (61, .iload 4), (63, .invokevirtual 104), (66, .i2l), (67, .ladd), (68, .lstore_n 1), (69, .iinc 4 1), (72, .goto (-25)), (75, .iinc 3 1), (78, .goto (-40)), (81, .iconst 0), (82, .istore_n 3), (83, .iload_n 3), (84, .bipush 8), (86, .if_icmp .ge 23), (89, .lload_n 1), (90, .ldc2_w 148), (93, .lmul), (94, .aload_n 0), (95, .getfield 16), (98, .iload_n 3), (99, .iaload), (100, .i2l), (101, .ladd), (102, .lstore_n 1), (103, .iinc 3 1), (106, .goto (-23)), (109, .iconst 0), (110, .istore_n 3), (111, .iload_n 3), (112, .aload_n 0), (113, .getfield 48), (116, .if_icmp .ge 40), (119, .iconst 0), (120, .istore 4), (122, .iload 4), (124, .bipush 8), (126, .if_icmp .ge 24), (129, .lload_n 1), (130, .ldc2_w 148), (133, .lmul), (134, .aload_n 0), (135, .iload_n 3), (136, .iload 4), (138, .invokevirtual 98), (141, .i2l), (142, .ladd), (143, .lstore_n 1), (144, .iinc 4 1), (147, .goto (-25)), (150, .iinc 3 1), (153, .goto (-42)), (156, .lload_n 1), (157, .lreturn)]
theorem amX3_digest (n : Nat) : amok (yX3_digest.cls, cX3_digest, 5, n) tbX3_digest FTX3 PTX3 := ⟨tbok_of (cc := cX3_digest) (by decide +kernel), ftX3, ptX3⟩
def tbL_set : List (Nat × Instr) := [(0, .aload 4), (2, .iconst 0), (3, .aload_n 0), (4, .iload_n 1), (5, .iload_n 2), (6, .iload_n 3), (7, .invokevirtual 7), (10, .i2l), (11, .lastore), (12, .goto 11), (15, .astore 5), (17, .iconst 1), (18, .ireturn), (19, .astore 5), (21, .iconst 2), (22, .ireturn), (23, .iconst 0), (24, .ireturn)]
theorem amL_set (n : Nat) : amok (yL_set.cls, cL_set, 6, n) tbL_set FTL PTL := ⟨tbok_of (cc := cL_set) (by decide +kernel), ftL, ptL⟩
def tbL_setRain : List (Nat × Instr) := [(0, .aload_n 3), (1, .iconst 0), (2, .aload_n 0), (3, .iload_n 1), (4, .iload_n 2), (5, .invokevirtual 17), (8, .i2l), (9, .lastore), (10, .goto 11), (13, .astore 4), (15, .iconst 1), (16, .ireturn), (17, .astore 4), (19, .iconst 2), (20, .ireturn), (21, .iconst 0), (22, .ireturn)]
theorem amL_setRain (n : Nat) : amok (yL_setRain.cls, cL_setRain, 5, n) tbL_setRain FTL PTL := ⟨tbok_of (cc := cL_setRain) (by decide +kernel), ftL, ptL⟩
def tbL_spill : List (Nat × Instr) := [(0, .aload_n 3), (1, .iconst 0), (2, .aload_n 0), (3, .iload_n 1), (4, .iload_n 2), (5, .invokevirtual 21), (8, .i2l), (9, .lastore), (10, .goto 11), (13, .astore 4), (15, .iconst 1), (16, .ireturn), (17, .astore 4), (19, .iconst 2), (20, .ireturn), (21, .iconst 0), (22, .ireturn)]
theorem amL_spill (n : Nat) : amok (yL_spill.cls, cL_spill, 5, n) tbL_spill FTL PTL := ⟨tbok_of (cc := cL_spill) (by decide +kernel), ftL, ptL⟩
def tbL_come : List (Nat × Instr) := [(0, .aload_n 3), (1, .iconst 0), (2, .aload_n 0), (3, .iload_n 1), (4, .iload_n 2), (5, .invokevirtual 24), (8, .i2l), (9, .lastore), (10, .goto 15), (13, .astore 4), (15, .iconst 1), (16, .ireturn), (17, .astore 4), (19, .iconst 2), (20, .ireturn), (21, .astore 4), (23, .iconst 3), (24, .ireturn), (25, .iconst 0), (26, .ireturn)]
theorem amL_come (n : Nat) : amok (yL_come.cls, cL_come, 5, n) tbL_come FTL PTL := ⟨tbok_of (cc := cL_come) (by decide +kernel), ftL, ptL⟩
def tbL_send : List (Nat × Instr) := [(0, .aload_n 3), (1, .iconst 0), (2, .aload_n 0), (3, .iload_n 1), (4, .iload_n 2), (5, .invokevirtual 29), (8, .i2l), (9, .lastore), (10, .goto 7), (13, .astore 4), (15, .iconst 1), (16, .ireturn), (17, .iconst 0), (18, .ireturn)]
theorem amL_send (n : Nat) : amok (yL_send.cls, cL_send, 5, n) tbL_send FTL PTL := ⟨tbok_of (cc := cL_send) (by decide +kernel), ftL, ptL⟩
def tbL_buy : List (Nat × Instr) := [(0, .aload_n 2), (1, .iconst 0), (2, .aload_n 0), (3, .iload_n 1), (4, .invokevirtual 32), (7, .i2l), (8, .lastore), (9, .goto 9), (12, .astore_n 3), (13, .iconst 1), (14, .ireturn), (15, .astore_n 3), (16, .iconst 2), (17, .ireturn), (18, .iconst 0), (19, .ireturn)]
theorem amL_buy (n : Nat) : amok (yL_buy.cls, cL_buy, 4, n) tbL_buy FTL PTL := ⟨tbok_of (cc := cL_buy) (by decide +kernel), ftL, ptL⟩
def tbL_sweeper : List (Nat × Instr) := [(0, .aload_n 3), (1, .iconst 0), (2, .aload_n 0), (3, .iload_n 1), (4, .iload_n 2), (5, .invokevirtual 36), (8, .i2l), (9, .lastore), (10, .goto 7), (13, .astore 4), (15, .iconst 1), (16, .ireturn), (17, .iconst 0), (18, .ireturn)]
theorem amL_sweeper (n : Nat) : amok (yL_sweeper.cls, cL_sweeper, 5, n) tbL_sweeper FTL PTL := ⟨tbok_of (cc := cL_sweeper) (by decide +kernel), ftL, ptL⟩
def tbL_crossing : List (Nat × Instr) := [(0, .aload_n 3), (1, .iconst 0), (2, .aload_n 0), (3, .iload_n 1), (4, .iload_n 2), (5, .invokevirtual 39), (8, .i2l), (9, .lastore), (10, .goto 7), (13, .astore 4), (15, .iconst 1), (16, .ireturn), (17, .iconst 0), (18, .ireturn)]
theorem amL_crossing (n : Nat) : amok (yL_crossing.cls, cL_crossing, 5, n) tbL_crossing FTL PTL := ⟨tbok_of (cc := cL_crossing) (by decide +kernel), ftL, ptL⟩
def tbL_count : List (Nat × Instr) := [(0, .aload_n 2), (1, .iconst 0), (2, .aload_n 0), (3, .iload_n 1), (4, .invokevirtual 42), (7, .i2l), (8, .lastore), (9, .goto 6), (12, .astore_n 3), (13, .iconst 1), (14, .ireturn), (15, .iconst 0), (16, .ireturn)]
theorem amL_count (n : Nat) : amok (yL_count.cls, cL_count, 4, n) tbL_count FTL PTL := ⟨tbok_of (cc := cL_count) (by decide +kernel), ftL, ptL⟩
def tbL_pass : List (Nat × Instr) := [(0, .aload_n 2), (1, .iconst 0), (2, .aload_n 0), (3, .iload_n 1), (4, .invokevirtual 45), (7, .i2l), (8, .lastore), (9, .goto 6), (12, .astore_n 3), (13, .iconst 1), (14, .ireturn), (15, .iconst 0), (16, .ireturn)]
theorem amL_pass (n : Nat) : amok (yL_pass.cls, cL_pass, 4, n) tbL_pass FTL PTL := ⟨tbok_of (cc := cL_pass) (by decide +kernel), ftL, ptL⟩
def tbL_way : List (Nat × Instr) := [(0, .aload_n 3), (1, .iconst 0), (2, .aload_n 0), (3, .iload_n 1), (4, .iload_n 2), (5, .invokevirtual 48), (8, .i2l), (9, .lastore), (10, .goto 7), (13, .astore 4), (15, .iconst 1), (16, .ireturn), (17, .iconst 0), (18, .ireturn)]
theorem amL_way (n : Nat) : amok (yL_way.cls, cL_way, 5, n) tbL_way FTL PTL := ⟨tbok_of (cc := cL_way) (by decide +kernel), ftL, ptL⟩
def tbL_earns : List (Nat × Instr) := [(0, .aload_n 3), (1, .iconst 0), (2, .aload_n 0), (3, .iload_n 1), (4, .iload_n 2), (5, .invokevirtual 51), (8, .i2l), (9, .lastore), (10, .goto 11), (13, .astore 4), (15, .iconst 1), (16, .ireturn), (17, .astore 4), (19, .iconst 2), (20, .ireturn), (21, .iconst 0), (22, .ireturn)]
theorem amL_earns (n : Nat) : amok (yL_earns.cls, cL_earns, 5, n) tbL_earns FTL PTL := ⟨tbok_of (cc := cL_earns) (by decide +kernel), ftL, ptL⟩
def tbL_advise : List (Nat × Instr) := [(0, .aload_n 3), (1, .iconst 0), (2, .aload_n 0), (3, .iload_n 1), (4, .iload_n 2), (5, .invokevirtual 54), (8, .i2l), (9, .lastore), (10, .goto 11), (13, .astore 4), (15, .iconst 1), (16, .ireturn), (17, .astore 4), (19, .iconst 2), (20, .ireturn), (21, .iconst 0), (22, .ireturn)]
theorem amL_advise (n : Nat) : amok (yL_advise.cls, cL_advise, 5, n) tbL_advise FTL PTL := ⟨tbok_of (cc := cL_advise) (by decide +kernel), ftL, ptL⟩
def tbL_foresee : List (Nat × Instr) := [(0, .aload_n 3), (1, .iconst 0), (2, .aload_n 0), (3, .iload_n 1), (4, .iload_n 2), (5, .invokevirtual 57), (8, .i2l), (9, .lastore), (10, .goto 11), (13, .astore 4), (15, .iconst 1), (16, .ireturn), (17, .astore 4), (19, .iconst 2), (20, .ireturn), (21, .iconst 0), (22, .ireturn)]
theorem amL_foresee (n : Nat) : amok (yL_foresee.cls, cL_foresee, 5, n) tbL_foresee FTL PTL := ⟨tbok_of (cc := cL_foresee) (by decide +kernel), ftL, ptL⟩
theorem ykX0_init : yok yX0_init cX0_init 2 none 0 := ⟨by decide +kernel, by decide +kernel, ⟨by decide +kernel, by decide +kernel⟩, by decide +kernel⟩
theorem yiX0_init : Cond.instanceMethod yX0_init ∈ kwl := by decide +kernel
theorem ykX0_copyFrom : yok yX0_copyFrom cX0_copyFrom 2 none 1 := ⟨by decide +kernel, by decide +kernel, ⟨by decide +kernel, by decide +kernel⟩, by decide +kernel⟩
theorem yiX0_copyFrom : Cond.instanceMethod yX0_copyFrom ∈ kwl := by decide +kernel
theorem yvX0_copyFrom : Cond.selects yX0_copyFrom.cls yX0_copyFrom yX0_copyFrom ∈ kwl := by decide +kernel
theorem ykX0_isSweeper : yok yX0_isSweeper cX0_isSweeper 2 (some .boolean) 1 := ⟨by decide +kernel, by decide +kernel, ⟨by decide +kernel, by decide +kernel⟩, by decide +kernel⟩
theorem yiX0_isSweeper : Cond.instanceMethod yX0_isSweeper ∈ kwl := by decide +kernel
theorem yvX0_isSweeper : Cond.selects yX0_isSweeper.cls yX0_isSweeper yX0_isSweeper ∈ kwl := by decide +kernel
theorem ykX0_holdsPitch : yok yX0_holdsPitch cX0_holdsPitch 2 (some .boolean) 1 := ⟨by decide +kernel, by decide +kernel, ⟨by decide +kernel, by decide +kernel⟩, by decide +kernel⟩
theorem yiX0_holdsPitch : Cond.instanceMethod yX0_holdsPitch ∈ kwl := by decide +kernel
theorem yvX0_holdsPitch : Cond.selects yX0_holdsPitch.cls yX0_holdsPitch yX0_holdsPitch ∈ kwl := by decide +kernel
theorem ykX0_reach : yok yX0_reach cX0_reach 2 (some .int) 1 := ⟨by decide +kernel, by decide +kernel, ⟨by decide +kernel, by decide +kernel⟩, by decide +kernel⟩
theorem yiX0_reach : Cond.instanceMethod yX0_reach ∈ kwl := by decide +kernel
theorem yvX0_reach : Cond.selects yX0_reach.cls yX0_reach yX0_reach ∈ kwl := by decide +kernel
theorem ykX0_addMud : yok yX0_addMud cX0_addMud 3 none 2 := ⟨by decide +kernel, by decide +kernel, ⟨by decide +kernel, by decide +kernel⟩, by decide +kernel⟩
theorem yiX0_addMud : Cond.instanceMethod yX0_addMud ∈ kwl := by decide +kernel
theorem yvX0_addMud : Cond.selects yX0_addMud.cls yX0_addMud yX0_addMud ∈ kwl := by decide +kernel
theorem ykX0_admit : yok yX0_admit cX0_admit 4 (some .int) 2 := ⟨by decide +kernel, by decide +kernel, ⟨by decide +kernel, by decide +kernel⟩, by decide +kernel⟩
theorem yiX0_admit : Cond.instanceMethod yX0_admit ∈ kwl := by decide +kernel
theorem yvX0_admit : Cond.selects yX0_admit.cls yX0_admit yX0_admit ∈ kwl := by decide +kernel
theorem ykX0_moveTo : yok yX0_moveTo cX0_moveTo 4 none 2 := ⟨by decide +kernel, by decide +kernel, ⟨by decide +kernel, by decide +kernel⟩, by decide +kernel⟩
theorem yiX0_moveTo : Cond.instanceMethod yX0_moveTo ∈ kwl := by decide +kernel
theorem yvX0_moveTo : Cond.selects yX0_moveTo.cls yX0_moveTo yX0_moveTo ∈ kwl := by decide +kernel
theorem ykX0_live : yok yX0_live cX0_live 4 (some .int) 1 := ⟨by decide +kernel, by decide +kernel, ⟨by decide +kernel, by decide +kernel⟩, by decide +kernel⟩
theorem yiX0_live : Cond.instanceMethod yX0_live ∈ kwl := by decide +kernel
theorem yvX0_live : Cond.selects yX0_live.cls yX0_live yX0_live ∈ kwl := by decide +kernel
theorem ykX0_liveQuarter : yok yX0_liveQuarter cX0_liveQuarter 5 (some .int) 0 := ⟨by decide +kernel, by decide +kernel, ⟨by decide +kernel, by decide +kernel⟩, by decide +kernel⟩
theorem yiX0_liveQuarter : Cond.instanceMethod yX0_liveQuarter ∈ kwl := by decide +kernel
theorem yvX0_liveQuarter : Cond.selects yX0_liveQuarter.cls yX0_liveQuarter yX0_liveQuarter ∈ kwl := by decide +kernel
theorem ykX0_sweepAll : yok yX0_sweepAll cX0_sweepAll 4 none 0 := ⟨by decide +kernel, by decide +kernel, ⟨by decide +kernel, by decide +kernel⟩, by decide +kernel⟩
theorem yiX0_sweepAll : Cond.instanceMethod yX0_sweepAll ∈ kwl := by decide +kernel
theorem yvX0_sweepAll : Cond.selects yX0_sweepAll.cls yX0_sweepAll yX0_sweepAll ∈ kwl := by decide +kernel
theorem ykX0_payAll : yok yX0_payAll cX0_payAll 5 (some .int) 0 := ⟨by decide +kernel, by decide +kernel, ⟨by decide +kernel, by decide +kernel⟩, by decide +kernel⟩
theorem yiX0_payAll : Cond.instanceMethod yX0_payAll ∈ kwl := by decide +kernel
theorem yvX0_payAll : Cond.selects yX0_payAll.cls yX0_payAll yX0_payAll ∈ kwl := by decide +kernel
theorem ykX0_wage : yok yX0_wage cX0_wage 2 (some .int) 1 := ⟨by decide +kernel, by decide +kernel, ⟨by decide +kernel, by decide +kernel⟩, by decide +kernel⟩
theorem yiX0_wage : Cond.instanceMethod yX0_wage ∈ kwl := by decide +kernel
theorem yvX0_wage : Cond.selects yX0_wage.cls yX0_wage yX0_wage ∈ kwl := by decide +kernel
theorem ykX0_seekPitch : yok yX0_seekPitch cX0_seekPitch 4 none 1 := ⟨by decide +kernel, by decide +kernel, ⟨by decide +kernel, by decide +kernel⟩, by decide +kernel⟩
theorem yiX0_seekPitch : Cond.instanceMethod yX0_seekPitch ∈ kwl := by decide +kernel
theorem yvX0_seekPitch : Cond.selects yX0_seekPitch.cls yX0_seekPitch yX0_seekPitch ∈ kwl := by decide +kernel
theorem ykX0_busiestNeighbour : yok yX0_busiestNeighbour cX0_busiestNeighbour 6 (some .int) 1 := ⟨by decide +kernel, by decide +kernel, ⟨by decide +kernel, by decide +kernel⟩, by decide +kernel⟩
theorem yiX0_busiestNeighbour : Cond.instanceMethod yX0_busiestNeighbour ∈ kwl := by decide +kernel
theorem yvX0_busiestNeighbour : Cond.selects yX0_busiestNeighbour.cls yX0_busiestNeighbour yX0_busiestNeighbour ∈ kwl := by decide +kernel
theorem ykX0_sweeperFact : yok yX0_sweeperFact cX0_sweeperFact 3 (some .int) 2 := ⟨by decide +kernel, by decide +kernel, ⟨by decide +kernel, by decide +kernel⟩, by decide +kernel⟩
theorem yiX0_sweeperFact : Cond.instanceMethod yX0_sweeperFact ∈ kwl := by decide +kernel
theorem yvX0_sweeperFact : Cond.selects yX0_sweeperFact.cls yX0_sweeperFact yX0_sweeperFact ∈ kwl := by decide +kernel
theorem ykX0_crossingFact : yok yX0_crossingFact cX0_crossingFact 3 (some .int) 2 := ⟨by decide +kernel, by decide +kernel, ⟨by decide +kernel, by decide +kernel⟩, by decide +kernel⟩
theorem yiX0_crossingFact : Cond.instanceMethod yX0_crossingFact ∈ kwl := by decide +kernel
theorem yvX0_crossingFact : Cond.selects yX0_crossingFact.cls yX0_crossingFact yX0_crossingFact ∈ kwl := by decide +kernel
theorem ykX0_cityFact : yok yX0_cityFact cX0_cityFact 2 (some .int) 1 := ⟨by decide +kernel, by decide +kernel, ⟨by decide +kernel, by decide +kernel⟩, by decide +kernel⟩
theorem yiX0_cityFact : Cond.instanceMethod yX0_cityFact ∈ kwl := by decide +kernel
theorem yvX0_cityFact : Cond.selects yX0_cityFact.cls yX0_cityFact yX0_cityFact ∈ kwl := by decide +kernel
theorem ykX0_allMud : yok yX0_allMud cX0_allMud 1 (some .int) 0 := ⟨by decide +kernel, by decide +kernel, ⟨by decide +kernel, by decide +kernel⟩, by decide +kernel⟩
theorem yiX0_allMud : Cond.instanceMethod yX0_allMud ∈ kwl := by decide +kernel
theorem yvX0_allMud : Cond.selects yX0_allMud.cls yX0_allMud yX0_allMud ∈ kwl := by decide +kernel
theorem ykX0_heldPitches : yok yX0_heldPitches cX0_heldPitches 3 (some .int) 0 := ⟨by decide +kernel, by decide +kernel, ⟨by decide +kernel, by decide +kernel⟩, by decide +kernel⟩
theorem yiX0_heldPitches : Cond.instanceMethod yX0_heldPitches ∈ kwl := by decide +kernel
theorem yvX0_heldPitches : Cond.selects yX0_heldPitches.cls yX0_heldPitches yX0_heldPitches ∈ kwl := by decide +kernel
theorem ykX0_sweepersAt : yok yX0_sweepersAt cX0_sweepersAt 4 (some .int) 1 := ⟨by decide +kernel, by decide +kernel, ⟨by decide +kernel, by decide +kernel⟩, by decide +kernel⟩
theorem yiX0_sweepersAt : Cond.instanceMethod yX0_sweepersAt ∈ kwl := by decide +kernel
theorem yvX0_sweepersAt : Cond.selects yX0_sweepersAt.cls yX0_sweepersAt yX0_sweepersAt ∈ kwl := by decide +kernel
theorem ykX0_cleanCrossings : yok yX0_cleanCrossings cX0_cleanCrossings 3 (some .int) 0 := ⟨by decide +kernel, by decide +kernel, ⟨by decide +kernel, by decide +kernel⟩, by decide +kernel⟩
theorem yiX0_cleanCrossings : Cond.instanceMethod yX0_cleanCrossings ∈ kwl := by decide +kernel
theorem yvX0_cleanCrossings : Cond.selects yX0_cleanCrossings.cls yX0_cleanCrossings yX0_cleanCrossings ∈ kwl := by decide +kernel
theorem ykX0_sum : yok yX0_sum cX0_sum 3 (some .int) 1 := ⟨by decide +kernel, by decide +kernel, ⟨by decide +kernel, by decide +kernel⟩, by decide +kernel⟩
theorem ysX0_sum : Cond.static yX0_sum ∈ kwl := by decide +kernel
theorem ykX1_init : yok yX1_init cX1_init 1 none 0 := ⟨by decide +kernel, by decide +kernel, ⟨by decide +kernel, by decide +kernel⟩, by decide +kernel⟩
theorem yiX1_init : Cond.instanceMethod yX1_init ∈ kwl := by decide +kernel
theorem ykX1_set : yok yX1_set cX1_set 5 (some .int) 3 := ⟨by decide +kernel, by decide +kernel, ⟨by decide +kernel, by decide +kernel⟩, by decide +kernel⟩
theorem yiX1_set : Cond.instanceMethod yX1_set ∈ kwl := by decide +kernel
theorem yvX1_set : Cond.selects yX1_set.cls yX1_set yX1_set ∈ kwl := by decide +kernel
theorem ykX1_setRain : yok yX1_setRain cX1_setRain 4 (some .int) 2 := ⟨by decide +kernel, by decide +kernel, ⟨by decide +kernel, by decide +kernel⟩, by decide +kernel⟩
theorem yiX1_setRain : Cond.instanceMethod yX1_setRain ∈ kwl := by decide +kernel
theorem yvX1_setRain : Cond.selects yX1_setRain.cls yX1_setRain yX1_setRain ∈ kwl := by decide +kernel
theorem ykX1_spill : yok yX1_spill cX1_spill 3 (some .int) 2 := ⟨by decide +kernel, by decide +kernel, ⟨by decide +kernel, by decide +kernel⟩, by decide +kernel⟩
theorem yiX1_spill : Cond.instanceMethod yX1_spill ∈ kwl := by decide +kernel
theorem yvX1_spill : Cond.selects yX1_spill.cls yX1_spill yX1_spill ∈ kwl := by decide +kernel
theorem ykX1_come : yok yX1_come cX1_come 3 (some .int) 2 := ⟨by decide +kernel, by decide +kernel, ⟨by decide +kernel, by decide +kernel⟩, by decide +kernel⟩
theorem yiX1_come : Cond.instanceMethod yX1_come ∈ kwl := by decide +kernel
theorem yvX1_come : Cond.selects yX1_come.cls yX1_come yX1_come ∈ kwl := by decide +kernel
theorem ykX1_send : yok yX1_send cX1_send 4 (some .int) 2 := ⟨by decide +kernel, by decide +kernel, ⟨by decide +kernel, by decide +kernel⟩, by decide +kernel⟩
theorem yiX1_send : Cond.instanceMethod yX1_send ∈ kwl := by decide +kernel
theorem yvX1_send : Cond.selects yX1_send.cls yX1_send yX1_send ∈ kwl := by decide +kernel
theorem ykX1_buy : yok yX1_buy cX1_buy 2 (some .int) 1 := ⟨by decide +kernel, by decide +kernel, ⟨by decide +kernel, by decide +kernel⟩, by decide +kernel⟩
theorem yiX1_buy : Cond.instanceMethod yX1_buy ∈ kwl := by decide +kernel
theorem yvX1_buy : Cond.selects yX1_buy.cls yX1_buy yX1_buy ∈ kwl := by decide +kernel
theorem ykX1_sweeper : yok yX1_sweeper cX1_sweeper 3 (some .int) 2 := ⟨by decide +kernel, by decide +kernel, ⟨by decide +kernel, by decide +kernel⟩, by decide +kernel⟩
theorem yiX1_sweeper : Cond.instanceMethod yX1_sweeper ∈ kwl := by decide +kernel
theorem yvX1_sweeper : Cond.selects yX1_sweeper.cls yX1_sweeper yX1_sweeper ∈ kwl := by decide +kernel
theorem ykX1_crossing : yok yX1_crossing cX1_crossing 3 (some .int) 2 := ⟨by decide +kernel, by decide +kernel, ⟨by decide +kernel, by decide +kernel⟩, by decide +kernel⟩
theorem yiX1_crossing : Cond.instanceMethod yX1_crossing ∈ kwl := by decide +kernel
theorem yvX1_crossing : Cond.selects yX1_crossing.cls yX1_crossing yX1_crossing ∈ kwl := by decide +kernel
theorem ykX1_count : yok yX1_count cX1_count 2 (some .int) 1 := ⟨by decide +kernel, by decide +kernel, ⟨by decide +kernel, by decide +kernel⟩, by decide +kernel⟩
theorem yiX1_count : Cond.instanceMethod yX1_count ∈ kwl := by decide +kernel
theorem yvX1_count : Cond.selects yX1_count.cls yX1_count yX1_count ∈ kwl := by decide +kernel
theorem ykX1_pass : yok yX1_pass cX1_pass 2 (some .int) 1 := ⟨by decide +kernel, by decide +kernel, ⟨by decide +kernel, by decide +kernel⟩, by decide +kernel⟩
theorem yiX1_pass : Cond.instanceMethod yX1_pass ∈ kwl := by decide +kernel
theorem yvX1_pass : Cond.selects yX1_pass.cls yX1_pass yX1_pass ∈ kwl := by decide +kernel
theorem ykX1_way : yok yX1_way cX1_way 4 (some .int) 2 := ⟨by decide +kernel, by decide +kernel, ⟨by decide +kernel, by decide +kernel⟩, by decide +kernel⟩
theorem yiX1_way : Cond.instanceMethod yX1_way ∈ kwl := by decide +kernel
theorem yvX1_way : Cond.selects yX1_way.cls yX1_way yX1_way ∈ kwl := by decide +kernel
theorem ykX1_earns : yok yX1_earns cX1_earns 3 (some .int) 2 := ⟨by decide +kernel, by decide +kernel, ⟨by decide +kernel, by decide +kernel⟩, by decide +kernel⟩
theorem yiX1_earns : Cond.instanceMethod yX1_earns ∈ kwl := by decide +kernel
theorem yvX1_earns : Cond.selects yX1_earns.cls yX1_earns yX1_earns ∈ kwl := by decide +kernel
theorem ykX1_advise : yok yX1_advise cX1_advise 7 (some .int) 2 := ⟨by decide +kernel, by decide +kernel, ⟨by decide +kernel, by decide +kernel⟩, by decide +kernel⟩
theorem yiX1_advise : Cond.instanceMethod yX1_advise ∈ kwl := by decide +kernel
theorem yvX1_advise : Cond.selects yX1_advise.cls yX1_advise yX1_advise ∈ kwl := by decide +kernel
theorem ykX1_foresee : yok yX1_foresee cX1_foresee 4 (some .int) 2 := ⟨by decide +kernel, by decide +kernel, ⟨by decide +kernel, by decide +kernel⟩, by decide +kernel⟩
theorem yiX1_foresee : Cond.instanceMethod yX1_foresee ∈ kwl := by decide +kernel
theorem yvX1_foresee : Cond.selects yX1_foresee.cls yX1_foresee yX1_foresee ∈ kwl := by decide +kernel
theorem ykX1_mean : yok yX1_mean cX1_mean 1 (some .double) 0 := ⟨by decide +kernel, by decide +kernel, ⟨by decide +kernel, by decide +kernel⟩, by decide +kernel⟩
theorem yiX1_mean : Cond.instanceMethod yX1_mean ∈ kwl := by decide +kernel
theorem yvX1_mean : Cond.selects yX1_mean.cls yX1_mean yX1_mean ∈ kwl := by decide +kernel
theorem ykX1_digest : yok yX1_digest cX1_digest 5 (some .long) 0 := ⟨by decide +kernel, by decide +kernel, ⟨by decide +kernel, by decide +kernel⟩, by decide +kernel⟩
theorem yiX1_digest : Cond.instanceMethod yX1_digest ∈ kwl := by decide +kernel
theorem yvX1_digest : Cond.selects yX1_digest.cls yX1_digest yX1_digest ∈ kwl := by decide +kernel
theorem ykX1_isCrossing : yok yX1_isCrossing cX1_isCrossing 1 (some .boolean) 1 := ⟨by decide +kernel, by decide +kernel, ⟨by decide +kernel, by decide +kernel⟩, by decide +kernel⟩
theorem ysX1_isCrossing : Cond.static yX1_isCrossing ∈ kwl := by decide +kernel
theorem ykX1_needCrossing : yok yX1_needCrossing cX1_needCrossing 1 none 1 := ⟨by decide +kernel, by decide +kernel, ⟨by decide +kernel, by decide +kernel⟩, by decide +kernel⟩
theorem ysX1_needCrossing : Cond.static yX1_needCrossing ∈ kwl := by decide +kernel
theorem ykX1_needSweeper : yok yX1_needSweeper cX1_needSweeper 2 none 1 := ⟨by decide +kernel, by decide +kernel, ⟨by decide +kernel, by decide +kernel⟩, by decide +kernel⟩
theorem yiX1_needSweeper : Cond.instanceMethod yX1_needSweeper ∈ kwl := by decide +kernel
theorem yvX1_needSweeper : Cond.selects yX1_needSweeper.cls yX1_needSweeper yX1_needSweeper ∈ kwl := by decide +kernel
theorem ykX1_needFact : yok yX1_needFact cX1_needFact 2 none 2 := ⟨by decide +kernel, by decide +kernel, ⟨by decide +kernel, by decide +kernel⟩, by decide +kernel⟩
theorem ysX1_needFact : Cond.static yX1_needFact ∈ kwl := by decide +kernel
theorem ykX1_needQuarters : yok yX1_needQuarters cX1_needQuarters 1 none 1 := ⟨by decide +kernel, by decide +kernel, ⟨by decide +kernel, by decide +kernel⟩, by decide +kernel⟩
theorem ysX1_needQuarters : Cond.static yX1_needQuarters ∈ kwl := by decide +kernel
theorem ykX1_neighbour : yok yX1_neighbour cX1_neighbour 2 (some .int) 2 := ⟨by decide +kernel, by decide +kernel, ⟨by decide +kernel, by decide +kernel⟩, by decide +kernel⟩
theorem ysX1_neighbour : Cond.static yX1_neighbour ∈ kwl := by decide +kernel
theorem ykX1_shortenWays : yok yX1_shortenWays cX1_shortenWays 4 none 0 := ⟨by decide +kernel, by decide +kernel, ⟨by decide +kernel, by decide +kernel⟩, by decide +kernel⟩
theorem yiX1_shortenWays : Cond.instanceMethod yX1_shortenWays ∈ kwl := by decide +kernel
theorem yvX1_shortenWays : Cond.selects yX1_shortenWays.cls yX1_shortenWays yX1_shortenWays ∈ kwl := by decide +kernel
theorem ykX1_earned : yok yX1_earned cX1_earned 5 (some .int) 3 := ⟨by decide +kernel, by decide +kernel, ⟨by decide +kernel, by decide +kernel⟩, by decide +kernel⟩
theorem yiX1_earned : Cond.instanceMethod yX1_earned ∈ kwl := by decide +kernel
theorem yvX1_earned : Cond.selects yX1_earned.cls yX1_earned yX1_earned ∈ kwl := by decide +kernel
theorem ykX2_init : yok yX2_init cX2_init 2 none 1 := ⟨by decide +kernel, by decide +kernel, ⟨by decide +kernel, by decide +kernel⟩, by decide +kernel⟩
theorem yiX2_init : Cond.instanceMethod yX2_init ∈ kwl := by decide +kernel
theorem ykX2_copy : yok yX2_copy cX2_copy 3 none 2 := ⟨by decide +kernel, by decide +kernel, ⟨by decide +kernel, by decide +kernel⟩, by decide +kernel⟩
theorem yiX2_copy : Cond.instanceMethod yX2_copy ∈ kwl := by decide +kernel
theorem yvX2_copy : Cond.selects yX2_copy.cls yX2_copy yX2_copy ∈ kwl := by decide +kernel
theorem ykX2_become : yok yX2_become cX2_become 2 none 1 := ⟨by decide +kernel, by decide +kernel, ⟨by decide +kernel, by decide +kernel⟩, by decide +kernel⟩
theorem yiX2_become : Cond.instanceMethod yX2_become ∈ kwl := by decide +kernel
theorem yvX2_become : Cond.selects yX2_become.cls yX2_become yX2_become ∈ kwl := by decide +kernel
theorem ykX2_holds : yok yX2_holds cX2_holds 2 (some .boolean) 1 := ⟨by decide +kernel, by decide +kernel, ⟨by decide +kernel, by decide +kernel⟩, by decide +kernel⟩
theorem yiX2_holds : Cond.instanceMethod yX2_holds ∈ kwl := by decide +kernel
theorem yvX2_holds : Cond.selects yX2_holds.cls yX2_holds yX2_holds ∈ kwl := by decide +kernel
theorem ykX2_sweeps : yok yX2_sweeps cX2_sweeps 2 (some .int) 1 := ⟨by decide +kernel, by decide +kernel, ⟨by decide +kernel, by decide +kernel⟩, by decide +kernel⟩
theorem yiX2_sweeps : Cond.instanceMethod yX2_sweeps ∈ kwl := by decide +kernel
theorem yvX2_sweeps : Cond.selects yX2_sweeps.cls yX2_sweeps yX2_sweeps ∈ kwl := by decide +kernel
theorem ykX2_sweep : yok yX2_sweep cX2_sweep 3 none 1 := ⟨by decide +kernel, by decide +kernel, ⟨by decide +kernel, by decide +kernel⟩, by decide +kernel⟩
theorem yiX2_sweep : Cond.instanceMethod yX2_sweep ∈ kwl := by decide +kernel
theorem yvX2_sweep : Cond.selects yX2_sweep.cls yX2_sweep yX2_sweep ∈ kwl := by decide +kernel
theorem ykX2_pay : yok yX2_pay cX2_pay 3 (some .int) 1 := ⟨by decide +kernel, by decide +kernel, ⟨by decide +kernel, by decide +kernel⟩, by decide +kernel⟩
theorem yiX2_pay : Cond.instanceMethod yX2_pay ∈ kwl := by decide +kernel
theorem yvX2_pay : Cond.selects yX2_pay.cls yX2_pay yX2_pay ∈ kwl := by decide +kernel
theorem ykX2_look : yok yX2_look cX2_look 4 none 1 := ⟨by decide +kernel, by decide +kernel, ⟨by decide +kernel, by decide +kernel⟩, by decide +kernel⟩
theorem yiX2_look : Cond.instanceMethod yX2_look ∈ kwl := by decide +kernel
theorem yvX2_look : Cond.selects yX2_look.cls yX2_look yX2_look ∈ kwl := by decide +kernel
theorem ykX2_pass : yok yX2_pass cX2_pass 4 (some .int) 0 := ⟨by decide +kernel, by decide +kernel, ⟨by decide +kernel, by decide +kernel⟩, by decide +kernel⟩
theorem yiX2_pass : Cond.instanceMethod yX2_pass ∈ kwl := by decide +kernel
theorem yvX2_pass : Cond.selects yX2_pass.cls yX2_pass yX2_pass ∈ kwl := by decide +kernel
theorem ykX2_pass_ : yok yX2_pass_ cX2_pass_ 4 (some .int) 1 := ⟨by decide +kernel, by decide +kernel, ⟨by decide +kernel, by decide +kernel⟩, by decide +kernel⟩
theorem yiX2_pass_ : Cond.instanceMethod yX2_pass_ ∈ kwl := by decide +kernel
theorem yvX2_pass_ : Cond.selects yX2_pass_.cls yX2_pass_ yX2_pass_ ∈ kwl := by decide +kernel
theorem ykX2_send : yok yX2_send cX2_send 4 (some .int) 2 := ⟨by decide +kernel, by decide +kernel, ⟨by decide +kernel, by decide +kernel⟩, by decide +kernel⟩
theorem yiX2_send : Cond.instanceMethod yX2_send ∈ kwl := by decide +kernel
theorem yvX2_send : Cond.selects yX2_send.cls yX2_send yX2_send ∈ kwl := by decide +kernel
theorem ykX2_held : yok yX2_held cX2_held 6 (some .int) 0 := ⟨by decide +kernel, by decide +kernel, ⟨by decide +kernel, by decide +kernel⟩, by decide +kernel⟩
theorem yiX2_held : Cond.instanceMethod yX2_held ∈ kwl := by decide +kernel
theorem yvX2_held : Cond.selects yX2_held.cls yX2_held yX2_held ∈ kwl := by decide +kernel
theorem ykX2_allMud : yok yX2_allMud cX2_allMud 1 (some .int) 0 := ⟨by decide +kernel, by decide +kernel, ⟨by decide +kernel, by decide +kernel⟩, by decide +kernel⟩
theorem yiX2_allMud : Cond.instanceMethod yX2_allMud ∈ kwl := by decide +kernel
theorem yvX2_allMud : Cond.selects yX2_allMud.cls yX2_allMud yX2_allMud ∈ kwl := by decide +kernel
theorem ykX2_sum : yok yX2_sum cX2_sum 7 (some .int) 1 := ⟨by decide +kernel, by decide +kernel, ⟨by decide +kernel, by decide +kernel⟩, by decide +kernel⟩
theorem yiX2_sum : Cond.instanceMethod yX2_sum ∈ kwl := by decide +kernel
theorem yvX2_sum : Cond.selects yX2_sum.cls yX2_sum yX2_sum ∈ kwl := by decide +kernel
theorem ykX3_init : yok yX3_init cX3_init 2 none 0 := ⟨by decide +kernel, by decide +kernel, ⟨by decide +kernel, by decide +kernel⟩, by decide +kernel⟩
theorem yiX3_init : Cond.instanceMethod yX3_init ∈ kwl := by decide +kernel
theorem ykX3_thrown : yok yX3_thrown cX3_thrown 1 (some .int) 0 := ⟨by decide +kernel, by decide +kernel, ⟨by decide +kernel, by decide +kernel⟩, by decide +kernel⟩
theorem yiX3_thrown : Cond.instanceMethod yX3_thrown ∈ kwl := by decide +kernel
theorem yvX3_thrown : Cond.selects yX3_thrown.cls yX3_thrown yX3_thrown ∈ kwl := by decide +kernel
theorem ykX3_no : yok yX3_no cX3_no 2 (some .int) 1 := ⟨by decide +kernel, by decide +kernel, ⟨by decide +kernel, by decide +kernel⟩, by decide +kernel⟩
theorem yiX3_no : Cond.instanceMethod yX3_no ∈ kwl := by decide +kernel
theorem yvX3_no : Cond.selects yX3_no.cls yX3_no yX3_no ∈ kwl := by decide +kernel
theorem ykX3_isIn : yok yX3_isIn cX3_isIn 3 (some .boolean) 3 := ⟨by decide +kernel, by decide +kernel, ⟨by decide +kernel, by decide +kernel⟩, by decide +kernel⟩
theorem ysX3_isIn : Cond.static yX3_isIn ∈ kwl := by decide +kernel
theorem ykX3_isCrossing : yok yX3_isCrossing cX3_isCrossing 1 (some .boolean) 1 := ⟨by decide +kernel, by decide +kernel, ⟨by decide +kernel, by decide +kernel⟩, by decide +kernel⟩
theorem ysX3_isCrossing : Cond.static yX3_isCrossing ∈ kwl := by decide +kernel
theorem ykX3_isSweeper : yok yX3_isSweeper cX3_isSweeper 2 (some .boolean) 1 := ⟨by decide +kernel, by decide +kernel, ⟨by decide +kernel, by decide +kernel⟩, by decide +kernel⟩
theorem yiX3_isSweeper : Cond.instanceMethod yX3_isSweeper ∈ kwl := by decide +kernel
theorem yvX3_isSweeper : Cond.selects yX3_isSweeper.cls yX3_isSweeper yX3_isSweeper ∈ kwl := by decide +kernel
theorem ykX3_isTime : yok yX3_isTime cX3_isTime 1 (some .boolean) 1 := ⟨by decide +kernel, by decide +kernel, ⟨by decide +kernel, by decide +kernel⟩, by decide +kernel⟩
theorem ysX3_isTime : Cond.static yX3_isTime ∈ kwl := by decide +kernel
theorem ykX3_beside : yok yX3_beside cX3_beside 2 (some .int) 2 := ⟨by decide +kernel, by decide +kernel, ⟨by decide +kernel, by decide +kernel⟩, by decide +kernel⟩
theorem ysX3_beside : Cond.static yX3_beside ∈ kwl := by decide +kernel
theorem ykX3_goesTo : yok yX3_goesTo cX3_goesTo 5 (some .int) 1 := ⟨by decide +kernel, by decide +kernel, ⟨by decide +kernel, by decide +kernel⟩, by decide +kernel⟩
theorem yiX3_goesTo : Cond.instanceMethod yX3_goesTo ∈ kwl := by decide +kernel
theorem yvX3_goesTo : Cond.selects yX3_goesTo.cls yX3_goesTo yX3_goesTo ∈ kwl := by decide +kernel
theorem ykX3_set : yok yX3_set cX3_set 5 (some .int) 3 := ⟨by decide +kernel, by decide +kernel, ⟨by decide +kernel, by decide +kernel⟩, by decide +kernel⟩
theorem yiX3_set : Cond.instanceMethod yX3_set ∈ kwl := by decide +kernel
theorem yvX3_set : Cond.selects yX3_set.cls yX3_set yX3_set ∈ kwl := by decide +kernel
theorem ykX3_setRain : yok yX3_setRain cX3_setRain 4 (some .int) 2 := ⟨by decide +kernel, by decide +kernel, ⟨by decide +kernel, by decide +kernel⟩, by decide +kernel⟩
theorem yiX3_setRain : Cond.instanceMethod yX3_setRain ∈ kwl := by decide +kernel
theorem yvX3_setRain : Cond.selects yX3_setRain.cls yX3_setRain yX3_setRain ∈ kwl := by decide +kernel
theorem ykX3_spill : yok yX3_spill cX3_spill 3 (some .int) 2 := ⟨by decide +kernel, by decide +kernel, ⟨by decide +kernel, by decide +kernel⟩, by decide +kernel⟩
theorem yiX3_spill : Cond.instanceMethod yX3_spill ∈ kwl := by decide +kernel
theorem yvX3_spill : Cond.selects yX3_spill.cls yX3_spill yX3_spill ∈ kwl := by decide +kernel
theorem ykX3_come : yok yX3_come cX3_come 3 (some .int) 2 := ⟨by decide +kernel, by decide +kernel, ⟨by decide +kernel, by decide +kernel⟩, by decide +kernel⟩
theorem yiX3_come : Cond.instanceMethod yX3_come ∈ kwl := by decide +kernel
theorem yvX3_come : Cond.selects yX3_come.cls yX3_come yX3_come ∈ kwl := by decide +kernel
theorem ykX3_send : yok yX3_send cX3_send 3 (some .int) 2 := ⟨by decide +kernel, by decide +kernel, ⟨by decide +kernel, by decide +kernel⟩, by decide +kernel⟩
theorem yiX3_send : Cond.instanceMethod yX3_send ∈ kwl := by decide +kernel
theorem yvX3_send : Cond.selects yX3_send.cls yX3_send yX3_send ∈ kwl := by decide +kernel
theorem ykX3_buy : yok yX3_buy cX3_buy 2 (some .int) 1 := ⟨by decide +kernel, by decide +kernel, ⟨by decide +kernel, by decide +kernel⟩, by decide +kernel⟩
theorem yiX3_buy : Cond.instanceMethod yX3_buy ∈ kwl := by decide +kernel
theorem yvX3_buy : Cond.selects yX3_buy.cls yX3_buy yX3_buy ∈ kwl := by decide +kernel
theorem ykX3_sweeperTold : yok yX3_sweeperTold cX3_sweeperTold 4 (some .int) 2 := ⟨by decide +kernel, by decide +kernel, ⟨by decide +kernel, by decide +kernel⟩, by decide +kernel⟩
theorem yiX3_sweeperTold : Cond.instanceMethod yX3_sweeperTold ∈ kwl := by decide +kernel
theorem yvX3_sweeperTold : Cond.selects yX3_sweeperTold.cls yX3_sweeperTold yX3_sweeperTold ∈ kwl := by decide +kernel
theorem ykX3_sweeper : yok yX3_sweeper cX3_sweeper 3 (some .int) 2 := ⟨by decide +kernel, by decide +kernel, ⟨by decide +kernel, by decide +kernel⟩, by decide +kernel⟩
theorem yiX3_sweeper : Cond.instanceMethod yX3_sweeper ∈ kwl := by decide +kernel
theorem yvX3_sweeper : Cond.selects yX3_sweeper.cls yX3_sweeper yX3_sweeper ∈ kwl := by decide +kernel
theorem ykX3_crossingTold : yok yX3_crossingTold cX3_crossingTold 5 (some .int) 2 := ⟨by decide +kernel, by decide +kernel, ⟨by decide +kernel, by decide +kernel⟩, by decide +kernel⟩
theorem yiX3_crossingTold : Cond.instanceMethod yX3_crossingTold ∈ kwl := by decide +kernel
theorem yvX3_crossingTold : Cond.selects yX3_crossingTold.cls yX3_crossingTold yX3_crossingTold ∈ kwl := by decide +kernel
theorem ykX3_crossing : yok yX3_crossing cX3_crossing 3 (some .int) 2 := ⟨by decide +kernel, by decide +kernel, ⟨by decide +kernel, by decide +kernel⟩, by decide +kernel⟩
theorem yiX3_crossing : Cond.instanceMethod yX3_crossing ∈ kwl := by decide +kernel
theorem yvX3_crossing : Cond.selects yX3_crossing.cls yX3_crossing yX3_crossing ∈ kwl := by decide +kernel
theorem ykX3_counted : yok yX3_counted cX3_counted 7 (some .int) 1 := ⟨by decide +kernel, by decide +kernel, ⟨by decide +kernel, by decide +kernel⟩, by decide +kernel⟩
theorem yiX3_counted : Cond.instanceMethod yX3_counted ∈ kwl := by decide +kernel
theorem yvX3_counted : Cond.selects yX3_counted.cls yX3_counted yX3_counted ∈ kwl := by decide +kernel
theorem ykX3_count : yok yX3_count cX3_count 2 (some .int) 1 := ⟨by decide +kernel, by decide +kernel, ⟨by decide +kernel, by decide +kernel⟩, by decide +kernel⟩
theorem yiX3_count : Cond.instanceMethod yX3_count ∈ kwl := by decide +kernel
theorem yvX3_count : Cond.selects yX3_count.cls yX3_count yX3_count ∈ kwl := by decide +kernel
theorem ykX3_pass : yok yX3_pass cX3_pass 2 (some .int) 1 := ⟨by decide +kernel, by decide +kernel, ⟨by decide +kernel, by decide +kernel⟩, by decide +kernel⟩
theorem yiX3_pass : Cond.instanceMethod yX3_pass ∈ kwl := by decide +kernel
theorem yvX3_pass : Cond.selects yX3_pass.cls yX3_pass yX3_pass ∈ kwl := by decide +kernel
theorem ykX3_way : yok yX3_way cX3_way 5 (some .int) 2 := ⟨by decide +kernel, by decide +kernel, ⟨by decide +kernel, by decide +kernel⟩, by decide +kernel⟩
theorem yiX3_way : Cond.instanceMethod yX3_way ∈ kwl := by decide +kernel
theorem yvX3_way : Cond.selects yX3_way.cls yX3_way yX3_way ∈ kwl := by decide +kernel
theorem ykX3_spread : yok yX3_spread cX3_spread 4 none 1 := ⟨by decide +kernel, by decide +kernel, ⟨by decide +kernel, by decide +kernel⟩, by decide +kernel⟩
theorem yiX3_spread : Cond.instanceMethod yX3_spread ∈ kwl := by decide +kernel
theorem yvX3_spread : Cond.selects yX3_spread.cls yX3_spread yX3_spread ∈ kwl := by decide +kernel
theorem ykX3_earnsAhead : yok yX3_earnsAhead cX3_earnsAhead 3 (some .int) 2 := ⟨by decide +kernel, by decide +kernel, ⟨by decide +kernel, by decide +kernel⟩, by decide +kernel⟩
theorem yiX3_earnsAhead : Cond.instanceMethod yX3_earnsAhead ∈ kwl := by decide +kernel
theorem yvX3_earnsAhead : Cond.selects yX3_earnsAhead.cls yX3_earnsAhead yX3_earnsAhead ∈ kwl := by decide +kernel
theorem ykX3_earns : yok yX3_earns cX3_earns 3 (some .int) 2 := ⟨by decide +kernel, by decide +kernel, ⟨by decide +kernel, by decide +kernel⟩, by decide +kernel⟩
theorem yiX3_earns : Cond.instanceMethod yX3_earns ∈ kwl := by decide +kernel
theorem yvX3_earns : Cond.selects yX3_earns.cls yX3_earns yX3_earns ∈ kwl := by decide +kernel
theorem ykX3_advise : yok yX3_advise cX3_advise 7 (some .int) 2 := ⟨by decide +kernel, by decide +kernel, ⟨by decide +kernel, by decide +kernel⟩, by decide +kernel⟩
theorem yiX3_advise : Cond.instanceMethod yX3_advise ∈ kwl := by decide +kernel
theorem yvX3_advise : Cond.selects yX3_advise.cls yX3_advise yX3_advise ∈ kwl := by decide +kernel
theorem ykX3_foresee : yok yX3_foresee cX3_foresee 4 (some .int) 2 := ⟨by decide +kernel, by decide +kernel, ⟨by decide +kernel, by decide +kernel⟩, by decide +kernel⟩
theorem yiX3_foresee : Cond.instanceMethod yX3_foresee ∈ kwl := by decide +kernel
theorem yvX3_foresee : Cond.selects yX3_foresee.cls yX3_foresee yX3_foresee ∈ kwl := by decide +kernel
theorem ykX3_mean : yok yX3_mean cX3_mean 1 (some .double) 0 := ⟨by decide +kernel, by decide +kernel, ⟨by decide +kernel, by decide +kernel⟩, by decide +kernel⟩
theorem yiX3_mean : Cond.instanceMethod yX3_mean ∈ kwl := by decide +kernel
theorem yvX3_mean : Cond.selects yX3_mean.cls yX3_mean yX3_mean ∈ kwl := by decide +kernel
theorem ykX3_digest : yok yX3_digest cX3_digest 5 (some .long) 0 := ⟨by decide +kernel, by decide +kernel, ⟨by decide +kernel, by decide +kernel⟩, by decide +kernel⟩
theorem yiX3_digest : Cond.instanceMethod yX3_digest ∈ kwl := by decide +kernel
theorem yvX3_digest : Cond.selects yX3_digest.cls yX3_digest yX3_digest ∈ kwl := by decide +kernel
theorem mlX0_61 : mlnk RX0 61 yX0_isSweeper := Or.inl (by decide +kernel)
theorem mlX0_65 : mlnk RX0 65 yX1_isCrossing := Or.inr ⟨"MudSweepers", by decide +kernel⟩
theorem mlX0_74 : mlnk RX0 74 yX0_liveQuarter := Or.inl (by decide +kernel)
theorem mlX0_78 : mlnk RX0 78 yX0_addMud := Or.inl (by decide +kernel)
theorem mlX0_82 : mlnk RX0 82 yX0_sweepAll := Or.inl (by decide +kernel)
theorem mlX0_85 : mlnk RX0 85 yX0_payAll := Or.inl (by decide +kernel)
theorem mlX0_88 : mlnk RX0 88 yX0_holdsPitch := Or.inl (by decide +kernel)
theorem mlX0_91 : mlnk RX0 91 yX0_seekPitch := Or.inl (by decide +kernel)
theorem mlX0_95 : mlnk RX0 95 yX0_reach := Or.inl (by decide +kernel)
theorem mlX0_102 : mlnk RX0 102 yX0_wage := Or.inl (by decide +kernel)
theorem mlX0_105 : mlnk RX0 105 yX0_busiestNeighbour := Or.inl (by decide +kernel)
theorem mlX0_108 : mlnk RX0 108 yX1_neighbour := Or.inr ⟨"MudSweepers", by decide +kernel⟩
theorem mlX0_111 : mlnk RX0 111 yX0_sweepersAt := Or.inl (by decide +kernel)
theorem mlX0_114 : mlnk RX0 114 yX0_heldPitches := Or.inl (by decide +kernel)
theorem mlX0_117 : mlnk RX0 117 yX0_allMud := Or.inl (by decide +kernel)
theorem mlX0_120 : mlnk RX0 120 yX0_sum := Or.inl (by decide +kernel)
theorem mlX0_124 : mlnk RX0 124 yX0_cleanCrossings := Or.inl (by decide +kernel)
theorem mlX1_9 : mlnk RX1 9 yX0_init := Or.inl (by decide +kernel)
theorem mlX1_23 : mlnk RX1 23 yX1_needCrossing := Or.inl (by decide +kernel)
theorem mlX1_54 : mlnk RX1 54 yX0_addMud := Or.inl (by decide +kernel)
theorem mlX1_72 : mlnk RX1 72 yX0_admit := Or.inl (by decide +kernel)
theorem mlX1_76 : mlnk RX1 76 yX1_needSweeper := Or.inl (by decide +kernel)
theorem mlX1_82 : mlnk RX1 82 yX0_moveTo := Or.inl (by decide +kernel)
theorem mlX1_93 : mlnk RX1 93 yX1_needFact := Or.inl (by decide +kernel)
theorem mlX1_96 : mlnk RX1 96 yX0_sweeperFact := Or.inl (by decide +kernel)
theorem mlX1_99 : mlnk RX1 99 yX0_crossingFact := Or.inl (by decide +kernel)
theorem mlX1_102 : mlnk RX1 102 yX0_cityFact := Or.inl (by decide +kernel)
theorem mlX1_106 : mlnk RX1 106 yX1_needQuarters := Or.inl (by decide +kernel)
theorem mlX1_109 : mlnk RX1 109 yX0_live := Or.inl (by decide +kernel)
theorem mlX1_113 : mlnk RX1 113 yX1_shortenWays := Or.inl (by decide +kernel)
theorem mlX1_116 : mlnk RX1 116 yX1_earned := Or.inl (by decide +kernel)
theorem mlX1_120 : mlnk RX1 120 yX0_copyFrom := Or.inl (by decide +kernel)
theorem mlX1_124 : mlnk RX1 124 yX0_allMud := Or.inl (by decide +kernel)
theorem mlX1_128 : mlnk RX1 128 yX0_heldPitches := Or.inl (by decide +kernel)
theorem mlX1_137 : mlnk RX1 137 yX1_isCrossing := Or.inl (by decide +kernel)
theorem mlX1_143 : mlnk RX1 143 yX0_isSweeper := Or.inl (by decide +kernel)
theorem mlX1_152 : mlnk RX1 152 yX1_neighbour := Or.inl (by decide +kernel)
theorem mlX2_50 : mlnk RX2 50 yX2_copy := Or.inl (by decide +kernel)
theorem mlX2_57 : mlnk RX2 57 yX2_sweeps := Or.inl (by decide +kernel)
theorem mlX2_73 : mlnk RX2 73 yX3_goesTo := Or.inr ⟨"MudSweepersModel", by decide +kernel⟩
theorem mlX2_85 : mlnk RX2 85 yX2_holds := Or.inl (by decide +kernel)
theorem mlX2_89 : mlnk RX2 89 yX2_sweep := Or.inl (by decide +kernel)
theorem mlX2_93 : mlnk RX2 93 yX2_pay := Or.inl (by decide +kernel)
theorem mlX2_96 : mlnk RX2 96 yX2_look := Or.inl (by decide +kernel)
theorem mlX2_99 : mlnk RX2 99 yX2_pass := Or.inl (by decide +kernel)
theorem mlX2_103 : mlnk RX2 103 yX2_sum := Or.inl (by decide +kernel)
theorem mlX3_27 : mlnk RX3 27 yX2_init := Or.inr ⟨"MudSweepersModel", by decide +kernel⟩
theorem mlX3_44 : mlnk RX3 44 yX3_isIn := Or.inl (by decide +kernel)
theorem mlX3_51 : mlnk RX3 51 yX3_beside := Or.inl (by decide +kernel)
theorem mlX3_55 : mlnk RX3 55 yX3_isCrossing := Or.inl (by decide +kernel)
theorem mlX3_59 : mlnk RX3 59 yX3_no := Or.inl (by decide +kernel)
theorem mlX3_77 : mlnk RX3 77 yX3_isSweeper := Or.inl (by decide +kernel)
theorem mlX3_80 : mlnk RX3 80 yX2_send := Or.inl (by decide +kernel)
theorem mlX3_86 : mlnk RX3 86 yX2_holds := Or.inl (by decide +kernel)
theorem mlX3_95 : mlnk RX3 95 yX2_sweeps := Or.inl (by decide +kernel)
theorem mlX3_98 : mlnk RX3 98 yX3_sweeperTold := Or.inl (by decide +kernel)
theorem mlX3_104 : mlnk RX3 104 yX3_crossingTold := Or.inl (by decide +kernel)
theorem mlX3_110 : mlnk RX3 110 yX2_held := Or.inl (by decide +kernel)
theorem mlX3_114 : mlnk RX3 114 yX2_allMud := Or.inl (by decide +kernel)
theorem mlX3_117 : mlnk RX3 117 yX2_sum := Or.inl (by decide +kernel)
theorem mlX3_121 : mlnk RX3 121 yX3_counted := Or.inl (by decide +kernel)
theorem mlX3_124 : mlnk RX3 124 yX3_isTime := Or.inl (by decide +kernel)
theorem mlX3_127 : mlnk RX3 127 yX2_pass_ := Or.inl (by decide +kernel)
theorem mlX3_133 : mlnk RX3 133 yX3_spread := Or.inl (by decide +kernel)
theorem mlX3_137 : mlnk RX3 137 yX2_become := Or.inl (by decide +kernel)
theorem mlX3_141 : mlnk RX3 141 yX3_earnsAhead := Or.inl (by decide +kernel)
theorem mlL_7 : mlnk RL 7 yX1_set := Or.inl (by decide +kernel)
theorem mlL_17 : mlnk RL 17 yX1_setRain := Or.inl (by decide +kernel)
theorem mlL_21 : mlnk RL 21 yX1_spill := Or.inl (by decide +kernel)
theorem mlL_24 : mlnk RL 24 yX1_come := Or.inl (by decide +kernel)
theorem mlL_29 : mlnk RL 29 yX1_send := Or.inl (by decide +kernel)
theorem mlL_32 : mlnk RL 32 yX1_buy := Or.inl (by decide +kernel)
theorem mlL_36 : mlnk RL 36 yX1_sweeper := Or.inl (by decide +kernel)
theorem mlL_39 : mlnk RL 39 yX1_crossing := Or.inl (by decide +kernel)
theorem mlL_42 : mlnk RL 42 yX1_count := Or.inl (by decide +kernel)
theorem mlL_45 : mlnk RL 45 yX1_pass := Or.inl (by decide +kernel)
theorem mlL_48 : mlnk RL 48 yX1_way := Or.inl (by decide +kernel)
theorem mlL_51 : mlnk RL 51 yX1_earns := Or.inl (by decide +kernel)
theorem mlL_54 : mlnk RL 54 yX1_advise := Or.inl (by decide +kernel)
theorem mlL_57 : mlnk RL 57 yX1_foresee := Or.inl (by decide +kernel)
theorem mlL_60 : mlnk RL 60 yX1_init := Or.inl (by decide +kernel)
theorem mlL_63 : mlnk RL 63 yX3_init := Or.inl (by decide +kernel)
theorem mlL_69 : mlnk RL 69 yX3_set := Or.inl (by decide +kernel)
theorem mlL_70 : mlnk RL 70 yX3_thrown := Or.inl (by decide +kernel)
theorem mlL_77 : mlnk RL 77 yX3_setRain := Or.inl (by decide +kernel)
theorem mlL_80 : mlnk RL 80 yX3_spill := Or.inl (by decide +kernel)
theorem mlL_83 : mlnk RL 83 yX3_come := Or.inl (by decide +kernel)
theorem mlL_86 : mlnk RL 86 yX3_send := Or.inl (by decide +kernel)
theorem mlL_90 : mlnk RL 90 yX3_buy := Or.inl (by decide +kernel)
theorem mlL_93 : mlnk RL 93 yX3_sweeper := Or.inl (by decide +kernel)
theorem mlL_96 : mlnk RL 96 yX3_crossing := Or.inl (by decide +kernel)
theorem mlL_99 : mlnk RL 99 yX3_count := Or.inl (by decide +kernel)
theorem mlL_102 : mlnk RL 102 yX3_pass := Or.inl (by decide +kernel)
theorem mlL_105 : mlnk RL 105 yX3_way := Or.inl (by decide +kernel)
theorem mlL_108 : mlnk RL 108 yX3_earns := Or.inl (by decide +kernel)
theorem mlL_111 : mlnk RL 111 yX3_advise := Or.inl (by decide +kernel)
theorem mlL_114 : mlnk RL 114 yX3_foresee := Or.inl (by decide +kernel)
theorem mlL_115 : mlnk RL 115 yX1_mean := Or.inl (by decide +kernel)
theorem mlL_119 : mlnk RL 119 yX3_mean := Or.inl (by decide +kernel)
theorem mlL_120 : mlnk RL 120 yX1_digest := Or.inl (by decide +kernel)
theorem mlL_124 : mlnk RL 124 yX3_digest := Or.inl (by decide +kernel)
