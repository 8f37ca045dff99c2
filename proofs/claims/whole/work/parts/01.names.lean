-- ===== PART A: goes FIRST, ahead of the names: the tables' words, and 'selects' of the private methods out of them =====
/-- a private method of a class that the tables say can be made, by its rows of tables_1 -/
def lw_okq (q : MethodName × Nat) : Prop := (q.1.cls ≠ "java/lang/invoke/MethodHandle" ∧ q.1.cls ≠ "java/lang/invoke/VarHandle") ∧ Cond.instantiable q.1.cls q.2 ∈ tables_1 ∧ Cond.privateMethod q.1 ∈ tables_1 ∧ Cond.instanceMethod q.1 ∈ tables_1
theorem lw_p0 : lw_okq (⟨"MudSweepers$City", "cleanCrossings", "()I"⟩, 14) := ⟨⟨by decide +kernel, by decide +kernel⟩, List.mem_of_getElem? (i := 22) (by decide +kernel), List.mem_of_getElem? (i := 121) (by decide +kernel), List.mem_of_getElem? (i := 122) (by decide +kernel)⟩
theorem lw_p1 : lw_okq (⟨"MudSweepers$City", "sweepersAt", "(I)I"⟩, 14) := ⟨⟨by decide +kernel, by decide +kernel⟩, List.mem_of_getElem? (i := 22) (by decide +kernel), List.mem_of_getElem? (i := 132) (by decide +kernel), List.mem_of_getElem? (i := 133) (by decide +kernel)⟩
theorem lw_p2 : lw_okq (⟨"java/lang/Throwable", "fillInStackTrace", "(I)Ljava/lang/Throwable;"⟩, 6) := ⟨⟨by decide +kernel, by decide +kernel⟩, List.mem_of_getElem? (i := 199) (by decide +kernel), List.mem_of_getElem? (i := 197) (by decide +kernel), List.mem_of_getElem? (i := 198) (by decide +kernel)⟩
theorem lw_p3 : lw_okq (⟨"MudSweepers", "needSweeper", "(I)V"⟩, 3) := ⟨⟨by decide +kernel, by decide +kernel⟩, List.mem_of_getElem? (i := 14) (by decide +kernel), List.mem_of_getElem? (i := 306) (by decide +kernel), List.mem_of_getElem? (i := 307) (by decide +kernel)⟩
theorem lw_p4 : lw_okq (⟨"MudSweepers$City", "liveQuarter", "()I"⟩, 14) := ⟨⟨by decide +kernel, by decide +kernel⟩, List.mem_of_getElem? (i := 22) (by decide +kernel), List.mem_of_getElem? (i := 364) (by decide +kernel), List.mem_of_getElem? (i := 365) (by decide +kernel)⟩
theorem lw_p5 : lw_okq (⟨"MudSweepers$City", "sweepAll", "()V"⟩, 14) := ⟨⟨by decide +kernel, by decide +kernel⟩, List.mem_of_getElem? (i := 22) (by decide +kernel), List.mem_of_getElem? (i := 369) (by decide +kernel), List.mem_of_getElem? (i := 370) (by decide +kernel)⟩
theorem lw_p6 : lw_okq (⟨"MudSweepers$City", "payAll", "()I"⟩, 14) := ⟨⟨by decide +kernel, by decide +kernel⟩, List.mem_of_getElem? (i := 22) (by decide +kernel), List.mem_of_getElem? (i := 376) (by decide +kernel), List.mem_of_getElem? (i := 377) (by decide +kernel)⟩
theorem lw_p7 : lw_okq (⟨"MudSweepers$City", "wage", "(I)I"⟩, 14) := ⟨⟨by decide +kernel, by decide +kernel⟩, List.mem_of_getElem? (i := 22) (by decide +kernel), List.mem_of_getElem? (i := 380) (by decide +kernel), List.mem_of_getElem? (i := 381) (by decide +kernel)⟩
theorem lw_p8 : lw_okq (⟨"MudSweepers$City", "seekPitch", "(I)V"⟩, 14) := ⟨⟨by decide +kernel, by decide +kernel⟩, List.mem_of_getElem? (i := 22) (by decide +kernel), List.mem_of_getElem? (i := 384) (by decide +kernel), List.mem_of_getElem? (i := 385) (by decide +kernel)⟩
theorem lw_p9 : lw_okq (⟨"MudSweepers$City", "busiestNeighbour", "(I)I"⟩, 14) := ⟨⟨by decide +kernel, by decide +kernel⟩, List.mem_of_getElem? (i := 22) (by decide +kernel), List.mem_of_getElem? (i := 388) (by decide +kernel), List.mem_of_getElem? (i := 389) (by decide +kernel)⟩
theorem lw_p10 : lw_okq (⟨"MudSweepers", "shortenWays", "()V"⟩, 3) := ⟨⟨by decide +kernel, by decide +kernel⟩, List.mem_of_getElem? (i := 14) (by decide +kernel), List.mem_of_getElem? (i := 403) (by decide +kernel), List.mem_of_getElem? (i := 404) (by decide +kernel)⟩
theorem lw_p11 : lw_okq (⟨"MudSweepers", "earned", "(III)I"⟩, 3) := ⟨⟨by decide +kernel, by decide +kernel⟩, List.mem_of_getElem? (i := 14) (by decide +kernel), List.mem_of_getElem? (i := 415) (by decide +kernel), List.mem_of_getElem? (i := 416) (by decide +kernel)⟩
theorem lw_p12 : lw_okq (⟨"MudSweepersModel", "no", "(I)I"⟩, 9) := ⟨⟨by decide +kernel, by decide +kernel⟩, List.mem_of_getElem? (i := 441) (by decide +kernel), List.mem_of_getElem? (i := 540) (by decide +kernel), List.mem_of_getElem? (i := 541) (by decide +kernel)⟩
theorem lw_p13 : lw_okq (⟨"MudSweepersModel", "isSweeper", "(I)Z"⟩, 9) := ⟨⟨by decide +kernel, by decide +kernel⟩, List.mem_of_getElem? (i := 441) (by decide +kernel), List.mem_of_getElem? (i := 561) (by decide +kernel), List.mem_of_getElem? (i := 562) (by decide +kernel)⟩
theorem lw_p14 : lw_okq (⟨"MudSweepersModel", "sweeperTold", "(II)I"⟩, 9) := ⟨⟨by decide +kernel, by decide +kernel⟩, List.mem_of_getElem? (i := 441) (by decide +kernel), List.mem_of_getElem? (i := 581) (by decide +kernel), List.mem_of_getElem? (i := 582) (by decide +kernel)⟩
theorem lw_p15 : lw_okq (⟨"MudSweepersModel", "crossingTold", "(II)I"⟩, 9) := ⟨⟨by decide +kernel, by decide +kernel⟩, List.mem_of_getElem? (i := 441) (by decide +kernel), List.mem_of_getElem? (i := 594) (by decide +kernel), List.mem_of_getElem? (i := 595) (by decide +kernel)⟩
def lw_privs_1 : List (MethodName × Nat) := [(⟨"MudSweepers$City", "cleanCrossings", "()I"⟩, 14), (⟨"MudSweepers$City", "sweepersAt", "(I)I"⟩, 14), (⟨"java/lang/Throwable", "fillInStackTrace", "(I)Ljava/lang/Throwable;"⟩, 6), (⟨"MudSweepers", "needSweeper", "(I)V"⟩, 3), (⟨"MudSweepers$City", "liveQuarter", "()I"⟩, 14), (⟨"MudSweepers$City", "sweepAll", "()V"⟩, 14), (⟨"MudSweepers$City", "payAll", "()I"⟩, 14), (⟨"MudSweepers$City", "wage", "(I)I"⟩, 14), (⟨"MudSweepers$City", "seekPitch", "(I)V"⟩, 14), (⟨"MudSweepers$City", "busiestNeighbour", "(I)I"⟩, 14), (⟨"MudSweepers", "shortenWays", "()V"⟩, 3), (⟨"MudSweepers", "earned", "(III)I"⟩, 3), (⟨"MudSweepersModel", "no", "(I)I"⟩, 9), (⟨"MudSweepersModel", "isSweeper", "(I)Z"⟩, 9), (⟨"MudSweepersModel", "sweeperTold", "(II)I"⟩, 9), (⟨"MudSweepersModel", "crossingTold", "(II)I"⟩, 9)]
theorem lw_r1 : ∀ q ∈ lw_privs_1, lw_okq q := List.forall_mem_cons.mpr ⟨lw_p0, List.forall_mem_cons.mpr ⟨lw_p1, List.forall_mem_cons.mpr ⟨lw_p2, List.forall_mem_cons.mpr ⟨lw_p3, List.forall_mem_cons.mpr ⟨lw_p4, List.forall_mem_cons.mpr ⟨lw_p5, List.forall_mem_cons.mpr ⟨lw_p6, List.forall_mem_cons.mpr ⟨lw_p7, List.forall_mem_cons.mpr ⟨lw_p8, List.forall_mem_cons.mpr ⟨lw_p9, List.forall_mem_cons.mpr ⟨lw_p10, List.forall_mem_cons.mpr ⟨lw_p11, List.forall_mem_cons.mpr ⟨lw_p12, List.forall_mem_cons.mpr ⟨lw_p13, List.forall_mem_cons.mpr ⟨lw_p14, List.forall_mem_cons.mpr ⟨lw_p15, fun _ h => absurd h List.not_mem_nil⟩⟩⟩⟩⟩⟩⟩⟩⟩⟩⟩⟩⟩⟩⟩⟩
theorem lw_p16 : lw_okq (⟨"MudSweepersModel", "counted", "(I)I"⟩, 9) := ⟨⟨by decide +kernel, by decide +kernel⟩, List.mem_of_getElem? (i := 441) (by decide +kernel), List.mem_of_getElem? (i := 602) (by decide +kernel), List.mem_of_getElem? (i := 603) (by decide +kernel)⟩
theorem lw_p17 : lw_okq (⟨"MudSweepersModel$State", "sweep", "(I)V"⟩, 10) := ⟨⟨by decide +kernel, by decide +kernel⟩, List.mem_of_getElem? (i := 447) (by decide +kernel), List.mem_of_getElem? (i := 635) (by decide +kernel), List.mem_of_getElem? (i := 636) (by decide +kernel)⟩
theorem lw_p18 : lw_okq (⟨"MudSweepersModel$State", "pay", "(I)I"⟩, 10) := ⟨⟨by decide +kernel, by decide +kernel⟩, List.mem_of_getElem? (i := 447) (by decide +kernel), List.mem_of_getElem? (i := 641) (by decide +kernel), List.mem_of_getElem? (i := 642) (by decide +kernel)⟩
theorem lw_p19 : lw_okq (⟨"MudSweepersModel$State", "look", "(I)V"⟩, 10) := ⟨⟨by decide +kernel, by decide +kernel⟩, List.mem_of_getElem? (i := 447) (by decide +kernel), List.mem_of_getElem? (i := 645) (by decide +kernel), List.mem_of_getElem? (i := 646) (by decide +kernel)⟩
theorem lw_p20 : lw_okq (⟨"MudSweepersModel", "goesTo", "(I)I"⟩, 9) := ⟨⟨by decide +kernel, by decide +kernel⟩, List.mem_of_getElem? (i := 441) (by decide +kernel), List.mem_of_getElem? (i := 649) (by decide +kernel), List.mem_of_getElem? (i := 650) (by decide +kernel)⟩
theorem lw_p21 : lw_okq (⟨"MudSweepersModel", "spread", "(I)V"⟩, 9) := ⟨⟨by decide +kernel, by decide +kernel⟩, List.mem_of_getElem? (i := 441) (by decide +kernel), List.mem_of_getElem? (i := 661) (by decide +kernel), List.mem_of_getElem? (i := 662) (by decide +kernel)⟩
theorem lw_p22 : lw_okq (⟨"MudSweepersModel$State", "copy", "([I[I)V"⟩, 10) := ⟨⟨by decide +kernel, by decide +kernel⟩, List.mem_of_getElem? (i := 447) (by decide +kernel), List.mem_of_getElem? (i := 673) (by decide +kernel), List.mem_of_getElem? (i := 674) (by decide +kernel)⟩
theorem lw_p23 : lw_okq (⟨"MudSweepersModel", "earnsAhead", "(II)I"⟩, 9) := ⟨⟨by decide +kernel, by decide +kernel⟩, List.mem_of_getElem? (i := 441) (by decide +kernel), List.mem_of_getElem? (i := 678) (by decide +kernel), List.mem_of_getElem? (i := 679) (by decide +kernel)⟩
def lw_privs_2 : List (MethodName × Nat) := [(⟨"MudSweepersModel", "counted", "(I)I"⟩, 9), (⟨"MudSweepersModel$State", "sweep", "(I)V"⟩, 10), (⟨"MudSweepersModel$State", "pay", "(I)I"⟩, 10), (⟨"MudSweepersModel$State", "look", "(I)V"⟩, 10), (⟨"MudSweepersModel", "goesTo", "(I)I"⟩, 9), (⟨"MudSweepersModel", "spread", "(I)V"⟩, 9), (⟨"MudSweepersModel$State", "copy", "([I[I)V"⟩, 10), (⟨"MudSweepersModel", "earnsAhead", "(II)I"⟩, 9)]
theorem lw_r2 : ∀ q ∈ lw_privs_2, lw_okq q := List.forall_mem_cons.mpr ⟨lw_p16, List.forall_mem_cons.mpr ⟨lw_p17, List.forall_mem_cons.mpr ⟨lw_p18, List.forall_mem_cons.mpr ⟨lw_p19, List.forall_mem_cons.mpr ⟨lw_p20, List.forall_mem_cons.mpr ⟨lw_p21, List.forall_mem_cons.mpr ⟨lw_p22, List.forall_mem_cons.mpr ⟨lw_p23, fun _ h => absurd h List.not_mem_nil⟩⟩⟩⟩⟩⟩⟩⟩
def lw_privs : List (MethodName × Nat) := lw_privs_1 ++ (lw_privs_2)
def lw_tbl : List Cond := k2_sels lw_privs ++ tables_1
theorem lw_privs_ok : ∀ q ∈ lw_privs, lw_okq q := by
  show ∀ q ∈ lw_privs_1 ++ (lw_privs_2), lw_okq q
  exact List.forall_mem_append.mpr ⟨lw_r1, lw_r2⟩
/-- the streams that the claim lets the run draw from -/
abbrev lw_cs : List Choice := [Jvm.Choice.named "NaN.bits"]
theorem lw_bits : nanBits ∈ lw_cs := by first | decide | exact List.mem_cons_self | simp [lw_cs, nanBits]
def RX0 : String := "MudSweepers$City"
def TX0 : u_T := fun k => match k with
  | 0 => ("MudSweepers$City", "mud", "[I", true)
  | 1 => ("MudSweepers$City", "carriages", "[I", true)
  | 2 => ("MudSweepers$City", "walkers", "[I", true)
  | 3 => ("MudSweepers$City", "holder", "[I", true)
  | 4 => ("MudSweepers$City", "paid", "[I", true)
  | 5 => ("MudSweepers$City", "rain", "[I", true)
  | 6 => ("MudSweepers$City", "place", "[I", true)
  | 7 => ("MudSweepers$City", "strength", "[I", true)
  | 8 => ("MudSweepers$City", "broom", "[I", true)
  | 9 => ("MudSweepers$City", "pence", "[I", true)
  | 10 => ("MudSweepers$City", "swept", "[I", true)
  | 11 => ("MudSweepers$City", "drivenOff", "[I", true)
  | 12 => ("MudSweepers$City", "sweepers", "I", false)
  | _ => ("MudSweepers$City", "quarter", "I", false)
def tyX0 : Nat → FieldType := fun k => match k with
  | 0 => .array .int
  | 1 => .array .int
  | 2 => .array .int
  | 3 => .array .int
  | 4 => .array .int
  | 5 => .array .int
  | 6 => .array .int
  | 7 => .array .int
  | 8 => .array .int
  | 9 => .array .int
  | 10 => .array .int
  | 11 => .array .int
  | 12 => .int
  | _ => .int
abbrev wsX00 : List Cond := u_ws RX0 TX0 14
theorem nmX0 : ∀ a, a < 14 → ∀ b, b < 14 → a ≠ b → (TX0 a).2.1 ≠ (TX0 b).2.1 := by decide +kernel
theorem tyX0_ok : ∀ k, k < 14 → parseFieldDescriptor (TX0 k).2.2.1 = some (tyX0 k) := by decide +kernel
abbrev cX0_init : ByteArray := prog_2_method_1_code
def yX0_init : MethodName := ⟨RX0, "<init>", "()V"⟩
abbrev cX0_copyFrom : ByteArray := prog_2_method_2_code
def yX0_copyFrom : MethodName := ⟨RX0, "copyFrom", "(LMudSweepers$City;)V"⟩
abbrev cX0_isSweeper : ByteArray := prog_2_method_3_code
def yX0_isSweeper : MethodName := ⟨RX0, "isSweeper", "(I)Z"⟩
abbrev cX0_holdsPitch : ByteArray := prog_2_method_4_code
def yX0_holdsPitch : MethodName := ⟨RX0, "holdsPitch", "(I)Z"⟩
abbrev cX0_reach : ByteArray := prog_2_method_5_code
def yX0_reach : MethodName := ⟨RX0, "reach", "(I)I"⟩
abbrev cX0_addMud : ByteArray := prog_2_method_6_code
def yX0_addMud : MethodName := ⟨RX0, "addMud", "(II)V"⟩
abbrev cX0_admit : ByteArray := prog_2_method_7_code
/-- a name, read off the row that the Statement has of it -/
def nm_tk : String := match (tables_1_2[54]? : Option Cond) with
  | some (Cond.methodLink _ _ y) => y.name
  | _ => ""
def yX0_admit : MethodName := ⟨RX0, nm_tk, "(II)I"⟩
abbrev cX0_moveTo : ByteArray := prog_2_method_8_code
def yX0_moveTo : MethodName := ⟨RX0, "moveTo", "(II)V"⟩
abbrev cX0_live : ByteArray := prog_2_method_9_code
def yX0_live : MethodName := ⟨RX0, "live", "(I)I"⟩
abbrev cX0_liveQuarter : ByteArray := prog_2_method_10_code
def yX0_liveQuarter : MethodName := ⟨RX0, "liveQuarter", "()I"⟩
abbrev cX0_sweepAll : ByteArray := prog_2_method_11_code
def yX0_sweepAll : MethodName := ⟨RX0, "sweepAll", "()V"⟩
abbrev cX0_payAll : ByteArray := prog_2_method_12_code
def yX0_payAll : MethodName := ⟨RX0, "payAll", "()I"⟩
abbrev cX0_wage : ByteArray := prog_2_method_13_code
def yX0_wage : MethodName := ⟨RX0, "wage", "(I)I"⟩
abbrev cX0_seekPitch : ByteArray := prog_2_method_14_code
def yX0_seekPitch : MethodName := ⟨RX0, "seekPitch", "(I)V"⟩
abbrev cX0_busiestNeighbour : ByteArray := prog_2_method_15_code
def yX0_busiestNeighbour : MethodName := ⟨RX0, "busiestNeighbour", "(I)I"⟩
abbrev cX0_sweeperFact : ByteArray := prog_2_method_16_code
def yX0_sweeperFact : MethodName := ⟨RX0, "sweeperFact", "(II)I"⟩
abbrev cX0_crossingFact : ByteArray := prog_2_method_17_code
def yX0_crossingFact : MethodName := ⟨RX0, "crossingFact", "(II)I"⟩
abbrev cX0_cityFact : ByteArray := prog_2_method_18_code
def yX0_cityFact : MethodName := ⟨RX0, "cityFact", "(I)I"⟩
abbrev cX0_allMud : ByteArray := prog_2_method_19_code
def yX0_allMud : MethodName := ⟨RX0, "allMud", "()I"⟩
abbrev cX0_heldPitches : ByteArray := prog_2_method_20_code
def yX0_heldPitches : MethodName := ⟨RX0, "heldPitches", "()I"⟩
abbrev cX0_sweepersAt : ByteArray := prog_2_method_21_code
def yX0_sweepersAt : MethodName := ⟨RX0, "sweepersAt", "(I)I"⟩
abbrev cX0_cleanCrossings : ByteArray := prog_2_method_22_code
def yX0_cleanCrossings : MethodName := ⟨RX0, "cleanCrossings", "()I"⟩
abbrev cX0_sum : ByteArray := prog_2_method_23_code
def yX0_sum : MethodName := ⟨RX0, "sum", "([I)I"⟩
def RX1 : String := "MudSweepers"
def TX1 : u_T := fun k => match k with
  | 0 => ("MudSweepers", "city", "LMudSweepers$City;", true)
  | 1 => ("MudSweepers", "trial", "LMudSweepers$City;", true)
  | _ => ("MudSweepers", "leastMud", "[I", true)
def tyX1 : Nat → FieldType := fun k => match k with
  | 0 => .object "MudSweepers$City"
  | 1 => .object "MudSweepers$City"
  | _ => .array .int
abbrev wsX10 : List Cond := u_ws RX1 TX1 3
theorem nmX1 : ∀ a, a < 3 → ∀ b, b < 3 → a ≠ b → (TX1 a).2.1 ≠ (TX1 b).2.1 := by decide +kernel
theorem tyX1_ok : ∀ k, k < 3 → parseFieldDescriptor (TX1 k).2.2.1 = some (tyX1 k) := by decide +kernel
abbrev cX1_init : ByteArray := prog_1_method_1_code
def yX1_init : MethodName := ⟨RX1, "<init>", "()V"⟩
abbrev cX1_set : ByteArray := prog_1_method_2_code
def yX1_set : MethodName := ⟨RX1, "set", "(III)I"⟩
abbrev cX1_setRain : ByteArray := prog_1_method_3_code
def yX1_setRain : MethodName := ⟨RX1, "setRain", "(II)I"⟩
abbrev cX1_spill : ByteArray := prog_1_method_4_code
def yX1_spill : MethodName := ⟨RX1, "spill", "(II)I"⟩
abbrev cX1_come : ByteArray := prog_1_method_5_code
def yX1_come : MethodName := ⟨RX1, "come", "(II)I"⟩
abbrev cX1_send : ByteArray := prog_1_method_6_code
def yX1_send : MethodName := ⟨RX1, "send", "(II)I"⟩
abbrev cX1_buy : ByteArray := prog_1_method_7_code
def yX1_buy : MethodName := ⟨RX1, "buy", "(I)I"⟩
abbrev cX1_sweeper : ByteArray := prog_1_method_8_code
def yX1_sweeper : MethodName := ⟨RX1, "sweeper", "(II)I"⟩
abbrev cX1_crossing : ByteArray := prog_1_method_9_code
def yX1_crossing : MethodName := ⟨RX1, "crossing", "(II)I"⟩
abbrev cX1_count : ByteArray := prog_1_method_10_code
def yX1_count : MethodName := ⟨RX1, "count", "(I)I"⟩
abbrev cX1_pass : ByteArray := prog_1_method_11_code
def yX1_pass : MethodName := ⟨RX1, "pass", "(I)I"⟩
abbrev cX1_way : ByteArray := prog_1_method_12_code
def yX1_way : MethodName := ⟨RX1, "way", "(II)I"⟩
abbrev cX1_earns : ByteArray := prog_1_method_13_code
def yX1_earns : MethodName := ⟨RX1, "earns", "(II)I"⟩
abbrev cX1_advise : ByteArray := prog_1_method_14_code
def yX1_advise : MethodName := ⟨RX1, "advise", "(II)I"⟩
abbrev cX1_foresee : ByteArray := prog_1_method_15_code
def yX1_foresee : MethodName := ⟨RX1, "foresee", "(II)I"⟩
abbrev cX1_mean : ByteArray := prog_1_method_16_code
def yX1_mean : MethodName := ⟨RX1, "mean", "()D"⟩
abbrev cX1_digest : ByteArray := prog_1_method_17_code
def yX1_digest : MethodName := ⟨RX1, "digest", "()J"⟩
abbrev cX1_isCrossing : ByteArray := prog_1_method_18_code
def yX1_isCrossing : MethodName := ⟨RX1, "isCrossing", "(I)Z"⟩
abbrev cX1_needCrossing : ByteArray := prog_1_method_19_code
def yX1_needCrossing : MethodName := ⟨RX1, "needCrossing", "(I)V"⟩
abbrev cX1_needSweeper : ByteArray := prog_1_method_20_code
def yX1_needSweeper : MethodName := ⟨RX1, "needSweeper", "(I)V"⟩
abbrev cX1_needFact : ByteArray := prog_1_method_21_code
def yX1_needFact : MethodName := ⟨RX1, "needFact", "(II)V"⟩
abbrev cX1_needQuarters : ByteArray := prog_1_method_22_code
def yX1_needQuarters : MethodName := ⟨RX1, "needQuarters", "(I)V"⟩
abbrev cX1_neighbour : ByteArray := prog_1_method_23_code
def yX1_neighbour : MethodName := ⟨RX1, "neighbour", "(II)I"⟩
abbrev cX1_shortenWays : ByteArray := prog_1_method_24_code
def yX1_shortenWays : MethodName := ⟨RX1, "shortenWays", "()V"⟩
abbrev cX1_earned : ByteArray := prog_1_method_25_code
def yX1_earned : MethodName := ⟨RX1, "earned", "(III)I"⟩
def RX2 : String := "MudSweepersModel$State"
def TX2 : u_T := fun k => match k with
  | 0 => ("MudSweepersModel$State", "quarter", "I", false)
  | 1 => ("MudSweepersModel$State", "mud", "[I", true)
  | 2 => ("MudSweepersModel$State", "holder", "[I", true)
  | 3 => ("MudSweepersModel$State", "paid", "[I", true)
  | 4 => ("MudSweepersModel$State", "at", "[I", true)
  | 5 => ("MudSweepersModel$State", "broom", "[I", true)
  | 6 => ("MudSweepersModel$State", "pence", "[I", true)
  | 7 => ("MudSweepersModel$State", "swept", "[I", true)
  | 8 => ("MudSweepersModel$State", "driven", "[I", true)
  | _ => ("MudSweepersModel$State", "this$0", "LMudSweepersModel;", true)
def tyX2 : Nat → FieldType := fun k => match k with
  | 0 => .int
  | 1 => .array .int
  | 2 => .array .int
  | 3 => .array .int
  | 4 => .array .int
  | 5 => .array .int
  | 6 => .array .int
  | 7 => .array .int
  | 8 => .array .int
  | _ => .object "MudSweepersModel"
abbrev wsX20 : List Cond := u_ws RX2 TX2 10
theorem nmX2 : ∀ a, a < 10 → ∀ b, b < 10 → a ≠ b → (TX2 a).2.1 ≠ (TX2 b).2.1 := by decide +kernel
theorem tyX2_ok : ∀ k, k < 10 → parseFieldDescriptor (TX2 k).2.2.1 = some (tyX2 k) := by decide +kernel
abbrev cX2_init : ByteArray := prog_5_method_1_code
def yX2_init : MethodName := ⟨RX2, "<init>", "(LMudSweepersModel;)V"⟩
abbrev cX2_copy : ByteArray := prog_5_method_2_code
def yX2_copy : MethodName := ⟨RX2, "copy", "([I[I)V"⟩
abbrev cX2_become : ByteArray := prog_5_method_3_code
def yX2_become : MethodName := ⟨RX2, "become", "(LMudSweepersModel$State;)V"⟩
abbrev cX2_holds : ByteArray := prog_5_method_4_code
def yX2_holds : MethodName := ⟨RX2, "holds", "(I)Z"⟩
abbrev cX2_sweeps : ByteArray := prog_5_method_5_code
def yX2_sweeps : MethodName := ⟨RX2, "sweeps", "(I)I"⟩
abbrev cX2_sweep : ByteArray := prog_5_method_6_code
def yX2_sweep : MethodName := ⟨RX2, "sweep", "(I)V"⟩
abbrev cX2_pay : ByteArray := prog_5_method_7_code
def yX2_pay : MethodName := ⟨RX2, "pay", "(I)I"⟩
abbrev cX2_look : ByteArray := prog_5_method_8_code
def yX2_look : MethodName := ⟨RX2, "look", "(I)V"⟩
abbrev cX2_pass : ByteArray := prog_5_method_9_code
def yX2_pass : MethodName := ⟨RX2, "pass", "()I"⟩
abbrev cX2_pass_ : ByteArray := prog_5_method_10_code
def yX2_pass_ : MethodName := ⟨RX2, "pass", "(I)I"⟩
abbrev cX2_send : ByteArray := prog_5_method_11_code
def yX2_send : MethodName := ⟨RX2, "send", "(II)I"⟩
abbrev cX2_held : ByteArray := prog_5_method_12_code
def yX2_held : MethodName := ⟨RX2, "held", "()I"⟩
abbrev cX2_allMud : ByteArray := prog_5_method_13_code
def yX2_allMud : MethodName := ⟨RX2, "allMud", "()I"⟩
abbrev cX2_sum : ByteArray := prog_5_method_14_code
def yX2_sum : MethodName := ⟨RX2, "sum", "([I)I"⟩
def RX3 : String := "MudSweepersModel"
def TX3 : u_T := fun k => match k with
  | 0 => ("MudSweepersModel", "thrown", "I", false)
  | 1 => ("MudSweepersModel", "carriages", "[I", true)
  | 2 => ("MudSweepersModel", "walkers", "[I", true)
  | 3 => ("MudSweepersModel", "rain", "[I", true)
  | 4 => ("MudSweepersModel", "sweepers", "I", false)
  | 5 => ("MudSweepersModel", "strength", "[I", true)
  | 6 => ("MudSweepersModel", "least", "[I", true)
  | 7 => ("MudSweepersModel", "s", "LMudSweepersModel$State;", true)
  | _ => ("MudSweepersModel", "ahead", "LMudSweepersModel$State;", true)
def tyX3 : Nat → FieldType := fun k => match k with
  | 0 => .int
  | 1 => .array .int
  | 2 => .array .int
  | 3 => .array .int
  | 4 => .int
  | 5 => .array .int
  | 6 => .array .int
  | 7 => .object "MudSweepersModel$State"
  | _ => .object "MudSweepersModel$State"
abbrev wsX30 : List Cond := u_ws RX3 TX3 9
theorem nmX3 : ∀ a, a < 9 → ∀ b, b < 9 → a ≠ b → (TX3 a).2.1 ≠ (TX3 b).2.1 := by decide +kernel
theorem tyX3_ok : ∀ k, k < 9 → parseFieldDescriptor (TX3 k).2.2.1 = some (tyX3 k) := by decide +kernel
abbrev cX3_init : ByteArray := prog_4_method_1_code
def yX3_init : MethodName := ⟨RX3, "<init>", "()V"⟩
abbrev cX3_thrown : ByteArray := prog_4_method_2_code
def yX3_thrown : MethodName := ⟨RX3, "thrown", "()I"⟩
abbrev cX3_no : ByteArray := prog_4_method_3_code
def yX3_no : MethodName := ⟨RX3, "no", "(I)I"⟩
abbrev cX3_isIn : ByteArray := prog_4_method_4_code
def yX3_isIn : MethodName := ⟨RX3, "isIn", "(III)Z"⟩
abbrev cX3_isCrossing : ByteArray := prog_4_method_5_code
def yX3_isCrossing : MethodName := ⟨RX3, "isCrossing", "(I)Z"⟩
abbrev cX3_isSweeper : ByteArray := prog_4_method_6_code
def yX3_isSweeper : MethodName := ⟨RX3, "isSweeper", "(I)Z"⟩
abbrev cX3_isTime : ByteArray := prog_4_method_7_code
def yX3_isTime : MethodName := ⟨RX3, "isTime", "(I)Z"⟩
abbrev cX3_beside : ByteArray := prog_4_method_8_code
def yX3_beside : MethodName := ⟨RX3, "beside", "(II)I"⟩
abbrev cX3_goesTo : ByteArray := prog_4_method_9_code
def yX3_goesTo : MethodName := ⟨RX3, "goesTo", "(I)I"⟩
abbrev cX3_set : ByteArray := prog_4_method_10_code
def yX3_set : MethodName := ⟨RX3, "set", "(III)I"⟩
abbrev cX3_setRain : ByteArray := prog_4_method_11_code
def yX3_setRain : MethodName := ⟨RX3, "setRain", "(II)I"⟩
abbrev cX3_spill : ByteArray := prog_4_method_12_code
def yX3_spill : MethodName := ⟨RX3, "spill", "(II)I"⟩
abbrev cX3_come : ByteArray := prog_4_method_13_code
def yX3_come : MethodName := ⟨RX3, "come", "(II)I"⟩
abbrev cX3_send : ByteArray := prog_4_method_14_code
def yX3_send : MethodName := ⟨RX3, "send", "(II)I"⟩
abbrev cX3_buy : ByteArray := prog_4_method_15_code
def yX3_buy : MethodName := ⟨RX3, "buy", "(I)I"⟩
abbrev cX3_sweeperTold : ByteArray := prog_4_method_16_code
def yX3_sweeperTold : MethodName := ⟨RX3, "sweeperTold", "(II)I"⟩
abbrev cX3_sweeper : ByteArray := prog_4_method_17_code
def yX3_sweeper : MethodName := ⟨RX3, "sweeper", "(II)I"⟩
abbrev cX3_crossingTold : ByteArray := prog_4_method_18_code
def yX3_crossingTold : MethodName := ⟨RX3, "crossingTold", "(II)I"⟩
abbrev cX3_crossing : ByteArray := prog_4_method_19_code
def yX3_crossing : MethodName := ⟨RX3, "crossing", "(II)I"⟩
abbrev cX3_counted : ByteArray := prog_4_method_20_code
def yX3_counted : MethodName := ⟨RX3, "counted", "(I)I"⟩
abbrev cX3_count : ByteArray := prog_4_method_21_code
def yX3_count : MethodName := ⟨RX3, "count", "(I)I"⟩
abbrev cX3_pass : ByteArray := prog_4_method_22_code
def yX3_pass : MethodName := ⟨RX3, "pass", "(I)I"⟩
abbrev cX3_way : ByteArray := prog_4_method_23_code
def yX3_way : MethodName := ⟨RX3, "way", "(II)I"⟩
abbrev cX3_spread : ByteArray := prog_4_method_24_code
def yX3_spread : MethodName := ⟨RX3, "spread", "(I)V"⟩
abbrev cX3_earnsAhead : ByteArray := prog_4_method_25_code
def yX3_earnsAhead : MethodName := ⟨RX3, "earnsAhead", "(II)I"⟩
abbrev cX3_earns : ByteArray := prog_4_method_26_code
def yX3_earns : MethodName := ⟨RX3, "earns", "(II)I"⟩
abbrev cX3_advise : ByteArray := prog_4_method_27_code
def yX3_advise : MethodName := ⟨RX3, "advise", "(II)I"⟩
abbrev cX3_foresee : ByteArray := prog_4_method_28_code
def yX3_foresee : MethodName := ⟨RX3, "foresee", "(II)I"⟩
abbrev cX3_mean : ByteArray := prog_4_method_29_code
def yX3_mean : MethodName := ⟨RX3, "mean", "()D"⟩
abbrev cX3_digest : ByteArray := prog_4_method_30_code
def yX3_digest : MethodName := ⟨RX3, "digest", "()J"⟩
def RL : String := "MudSweepersLaw"
abbrev cL_set : ByteArray := method_3_code
def yL_set : MethodName := ⟨RL, "set", "(LMudSweepers;III[J)I"⟩
abbrev cL_setRain : ByteArray := method_4_code
def yL_setRain : MethodName := ⟨RL, "setRain", "(LMudSweepers;II[J)I"⟩
abbrev cL_spill : ByteArray := method_5_code
def yL_spill : MethodName := ⟨RL, "spill", "(LMudSweepers;II[J)I"⟩
abbrev cL_come : ByteArray := method_6_code
def yL_come : MethodName := ⟨RL, "come", "(LMudSweepers;II[J)I"⟩
abbrev cL_send : ByteArray := method_7_code
def yL_send : MethodName := ⟨RL, "send", "(LMudSweepers;II[J)I"⟩
abbrev cL_buy : ByteArray := method_8_code
def yL_buy : MethodName := ⟨RL, "buy", "(LMudSweepers;I[J)I"⟩
abbrev cL_sweeper : ByteArray := method_9_code
def yL_sweeper : MethodName := ⟨RL, "sweeper", "(LMudSweepers;II[J)I"⟩
abbrev cL_crossing : ByteArray := method_10_code
def yL_crossing : MethodName := ⟨RL, "crossing", "(LMudSweepers;II[J)I"⟩
abbrev cL_count : ByteArray := method_11_code
def yL_count : MethodName := ⟨RL, "count", "(LMudSweepers;I[J)I"⟩
abbrev cL_pass : ByteArray := method_12_code
def yL_pass : MethodName := ⟨RL, "pass", "(LMudSweepers;I[J)I"⟩
abbrev cL_way : ByteArray := method_13_code
def yL_way : MethodName := ⟨RL, "way", "(LMudSweepers;II[J)I"⟩
abbrev cL_earns : ByteArray := method_14_code
def yL_earns : MethodName := ⟨RL, "earns", "(LMudSweepers;II[J)I"⟩
abbrev cL_advise : ByteArray := method_15_code
def yL_advise : MethodName := ⟨RL, "advise", "(LMudSweepers;II[J)I"⟩
abbrev cL_foresee : ByteArray := method_16_code
def yL_foresee : MethodName := ⟨RL, "foresee", "(LMudSweepers;II[J)I"⟩
abbrev cL_law : ByteArray := code
def yL_law : MethodName := ⟨RL, "law", "([I)Z"⟩
abbrev vwCl : List vw_C := [(RX0, TX0, 14), (RX1, TX1, 3), (RX2, TX2, 10), (RX3, TX3, 9)]
