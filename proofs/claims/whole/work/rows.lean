section
-- ===== PART A: goes FIRST, ahead of the names: the tables' words, and 'selects' of the private methods out of them =====
/-- a private method of a class that the tables say can be made, by its rows of tables_1 -/
def lw_okq (q : MethodName × Nat) : Prop := (q.1.cls ≠ "java/lang/invoke/MethodHandle" ∧ q.1.cls ≠ "java/lang/invoke/VarHandle") ∧ Cond.instantiable q.1.cls q.2 ∈ tables_1 ∧ Cond.privateMethod q.1 ∈ tables_1 ∧ Cond.instanceMethod q.1 ∈ tables_1
theorem lw_p0 : lw_okq (⟨"MudSweepers$City", "cleanCrossings", "()I"⟩, 14) := ⟨⟨by decide +kernel, by decide +kernel⟩, List.mem_of_getElem? (i := 22) (by decide +kernel), List.mem_of_getElem? (i := 121) (by decide +kernel), List.mem_of_getElem? (i := 122) (by decide +kernel)⟩
theorem lw_p1 : lw_okq (⟨"MudSweepers$City", "sweepersAt", "(I)I"⟩, 14) := ⟨⟨by decide +kernel, by decide +kernel⟩, List.mem_of_getElem? (i := 22) (by decide +kernel), List.mem_of_getElem? (i := 132) (by decide +kernel), List.mem_of_getElem? (i := 133) (by decide +kernel)⟩
theorem lw_p2 : lw_okq (⟨"java/lang/Throwable", "fillInStackTrace", "(I)Ljava/lang/Throwable;"⟩, 6) := ⟨⟨by decide +kernel, by decide +kernel⟩, List.mem_of_getElem? (i := 199) (by decide +kernel), List.mem_of_getElem? (i := 197) (by decide +kernel), List.mem_of_getElem? (i := 198) (by decide +kernel)⟩
theorem lw_p3 : lw_okq (⟨"MudSweepers", "needSweeper", "(I)V"⟩, 3) := ⟨⟨by decide +kernel, by decide +kernel⟩, List.mem_of_getElem? (i := 14) (by decide +kernel), List.mem_of_getElem? (i := 306) (by decide +kernel), List.mem_of_getElem? (i := 307) (by decide +kernel)⟩
theorem lw_p4 : lw_okq (⟨"MudSweepers$City", "liveQuarter", "()I"⟩, 14) := ⟨⟨by decide +kernel, by decide +kernel⟩, List.mem_of_getElem? (i := 22) (by decide +kernel), List.mem_of_getElem? (i := 364) (by decide +kernel), List.mem_of_getElem? (i := 365) (by decide +kernel)⟩
theorem lw_p5 : lw_okq (⟨"MudSweepers$City", "sweepAll", "()V"⟩, 14) := ⟨⟨by decide +kernel, by decide +kernel⟩, List.mem_of_getElem? (i := 22) (by decide +kernel), List.mem_of_getElem? (i := 369) (by decide +kernel), List.mem_of_getElem? (i := 370) (by decide +kernel)⟩
theorem lw_p6 : lw_okq (⟨"MudSweepers$City", "payAll", "()I"⟩, 14) := ⟨⟨by decide +kernel, by decide +kernel⟩, List.mem_of_getElem? (i := 22) (by decide +kernel), List.mem_of_getElem? (i := 376) (by decide +kernel), List.mem_of_getElem? (i := 377) (by decide +kernel)⟩
theorem lw_p7 : lw_okq (⟨"MudSweepers$City", "wage", "(I)I"⟩, 14) := ⟨⟨by decide +kernel, by decide +kernel⟩, List.mem_of_getElem? (i := 22) (by decide +kernel), List.mem_of_getElem? (i := 380) (by decide +kernel), List.mem_of_getElem? (i := 381) (by decide +kernel)⟩
theorem lw_p8 : lw_okq (⟨"MudSweepers$City", "seekPitch", "(I)V"⟩, 14) := ⟨⟨by decide +kernel, by decide +kernel⟩, List.mem_of_getElem? (i := 22) (by decide +kernel), List.mem_of_getElem? (i := 384) (by decide +kernel), List.mem_of_getElem? (i := 385) (by decide +kernel)⟩
theorem lw_p9 : lw_okq (⟨"MudSweepers$City", "busiestNeighbour", "(I)I"⟩, 14) := ⟨⟨by decide +kernel, by decide +kernel⟩, List.mem_of_getElem? (i := 22) (by decide +kernel), List.mem_of_getElem? (i := 388) (by decide +kernel), List.mem_of_getElem? (i := 389) (by decide +kernel)⟩
theorem lw_p10 : lw_okq (⟨"MudSweepers", "shortenWays", "()V"⟩, 3) := ⟨⟨by decide +kernel, by decide +kernel⟩, List.mem_of_getElem? (i := 14) (by decide +kernel), List.mem_of_getElem? (i := 403) (by decide +kernel), List.mem_of_getElem? (i := 404) (by decide +kernel)⟩
theorem lw_p11 : lw_okq (⟨"MudSweepers", "earned", "(III)I"⟩, 3) := ⟨⟨by decide +kernel, by decide +kernel⟩, List.mem_of_getElem? (i := 14) (by decide +kernel), List.mem_of_getElem? (i := 415) (by decide +kernel), List.mem_of_getElem? (i := 416) (by decide +kernel)⟩
theorem lw_p12 : lw_okq (⟨"MudSweepersModel", "no", "(I)I"⟩, 9) := ⟨⟨by decide +kernel, by decide +kernel⟩, List.mem_of_getElem? (i := 441) (by decide +kernel), List.mem_of_getElem? (i := 540) (by decide +kernel), List.mem_of_getElem? (i := 541) (by decide +kernel)⟩
theorem lw_p13 : lw_okq (⟨"MudSweepersModel", "isSweeper", "(I)Z"⟩, 9) := ⟨⟨by decide +kernel, by decide +kernel⟩, List.mem_of_getElem? (i := 441) (by decide +kernel), List.mem_of_getElem? (i := 561) (by decide +kernel), List.mem_of_getElem? (i := 562) (by decide +kernel)⟩
theorem lw_p14 : lw_okq (⟨"MudSweepersModel", "sweeperTold", "(II)I"⟩, 9) := ⟨⟨by decide +kernel, by decide +kernel⟩, List.mem_of_getElem? (i := 441) (by decide +kernel), List.mem_of_getElem? (i := 581) (by decide +kernel), List.mem_of_getElem? (i := 582) (by decide +kernel)⟩
theorem lw_p15 : lw_okq (⟨"MudSweepersModel", "crossingTold", "(II)I"⟩, 9) := ⟨⟨by decide +kernel, by decide +kernel⟩, List.mem_of_getElem? (i := 441) (by decide +kernel), List.mem_of_getElem? (i := 594) (by decide +kernel), List.mem_of_getElem? (i := 595) (by decide +kernel)⟩
def lw_privs_1 : List (MethodName × Nat) := [(⟨"MudSweepers$City", "cleanCrossings", "()I"⟩, 14), (⟨"MudSweepers$City", "sweepersAt", "(I)I"⟩, 14), (⟨"java/lang/Throwable", "fillInStackTrace", "(I)Ljava/lang/Throwable;"⟩, 6), (⟨"MudSweepers", "needSweeper", "(I)V"⟩, 3), (⟨"MudSweepers$City", "liveQuarter", "()I"⟩, 14), (⟨"MudSweepers$City", "sweepAll", "()V"⟩, 14), (⟨"MudSweepers$City", "payAll", "()I"⟩, 14), (⟨"MudSweepers$City", "wage", "(I)I"⟩, 14), (⟨"MudSweepers$City", "seekPitch", "(I)V"⟩, 14), (⟨"MudSweepers$City", "busiestNeighbour", "(I)I"⟩, 14), (⟨"MudSweepers", "shortenWays", "()V"⟩, 3), (⟨"MudSweepers", "earned", "(III)I"⟩, 3), (⟨"MudSweepersModel", "no", "(I)I"⟩, 9), (⟨"MudSweepersModel", "isSweeper", "(I)Z"⟩, 9), (⟨"MudSweepersModel", "sweeperTold", "(II)I"⟩, 9), (⟨"MudSweepersModel", "crossingTold", "(II)I"⟩, 9)]
theorem lw_r1 : ∀ q ∈ lw_privs_1, lw_okq q := List.forall_mem_cons.mpr ⟨lw_p0, List.forall_mem_cons.mpr ⟨lw_p1, List.forall_mem_cons.mpr ⟨lw_p2, List.forall_mem_cons.mpr ⟨lw_p3, List.forall_mem_cons.mpr ⟨lw_p4, List.forall_mem_cons.mpr ⟨lw_p5, List.forall_mem_cons.mpr ⟨lw_p6, List.forall_mem_cons.mpr ⟨lw_p7, List.forall_mem_cons.mpr ⟨lw_p8, List.forall_mem_cons.mpr ⟨lw_p9, List.forall_mem_cons.mpr ⟨lw_p10, List.forall_mem_cons.mpr ⟨lw_p11, List.forall_mem_cons.mpr ⟨lw_p12, List.forall_mem_cons.mpr ⟨lw_p13, List.forall_mem_cons.mpr ⟨lw_p14, List.forall_mem_cons.mpr ⟨lw_p15, fun _ h => absurd h List.not_mem_nil⟩⟩⟩⟩⟩⟩⟩⟩⟩⟩⟩⟩⟩⟩⟩⟩
theorem lw_p16 : lw_okq (⟨"MudSweepersModel", "counted", "(I)I"⟩, 9) := ⟨⟨by decide +kernel, by decide +kernel⟩, List.mem_of_getElem? (i := 441) (by decide +kernel), List.mem_of_getElem? (i := 602) (by decide +kernel), List.mem_of_getElem? (i := 603) (by decide +kernel)⟩
theorem lw_p17 : lw_okq (⟨"MudSweepersModel$State", "sweep", "(I)V"⟩, 10) := ⟨⟨by decide +kernel, by decide +kernel⟩, List.mem_of_getElem? (i := 447) (by decide +kernel), List.mem_of_getElem? (i := 635) (by decide +kernel), List.mem_of_getElem? (i := 636) (by decide +kernel)⟩
theorem lw_p18 : lw_okq (⟨"MudSweepersModel$State", "pay", "(I)I"⟩, 10) := ⟨⟨by decide +kernel, by decide +kernel⟩, List.mem_of_getElem? (i := 447) (by decide +kernel), List.mem_of_getElem? (i := 641) (by decide +kernel), List.mem_of_getElem? (i := 642) (by decide +kernel)⟩
theorem lw_p19 : lw_okq (⟨"MudSweepersModel$State", "look", "(I)V"⟩, 10) := ⟨⟨by decide +kernel, by decide +kernel⟩, List.mem_of_getElem? (i := 447) (by decide +kernel), List.mem_of_getElem? (i := 645) (by decide +kernel), List.mem_of_getElem? (i := 646) (by decide +kernel)⟩
theorem lw_p20 : lw_okq (⟨"MudSweepersModel", "goesTo", "(I)I"⟩, 9) := ⟨⟨by decide +kernel, by decide +kernel⟩, List.mem_of_getElem? (i := 441) (by decide +kernel), List.mem_of_getElem? (i := 649) (by decide +kernel), List.mem_of_getElem? (i := 650) (by decide +kernel)⟩
theorem lw_p21 : lw_okq (⟨"MudSweepersModel", "spread", "(I)V"⟩, 9) := ⟨⟨by decide +kernel, by decide +kernel⟩, List.mem_of_getElem? (i := 441) (by decide +kernel), List.mem_of_getElem? (i := 661) (by decide +kernel), List.mem_of_getElem? (i := 662) (by decide +kernel)⟩
theorem lw_p22 : lw_okq (⟨"MudSweepersModel$State", "copy", "([I[I)V"⟩, 10) := ⟨⟨by decide +kernel, by decide +kernel⟩, List.mem_of_getElem? (i := 447) (by decide +kernel), List.mem_of_getElem? (i := 673) (by decide +kernel), List.mem_of_getElem? (i := 674) (by decide +kernel)⟩
theorem lw_p23 : lw_okq (⟨"MudSweepersModel", "earnsAhead", "(II)I"⟩, 9) := ⟨⟨by decide +kernel, by decide +kernel⟩, List.mem_of_getElem? (i := 441) (by decide +kernel), List.mem_of_getElem? (i := 678) (by decide +kernel), List.mem_of_getElem? (i := 679) (by decide +kernel)⟩
def lw_privs_2 : List (MethodName × Nat) := [(⟨"MudSweepersModel", "counted", "(I)I"⟩, 9), (⟨"MudSweepersModel$State", "sweep", "(I)V"⟩, 10), (⟨"MudSweepersModel$State", "pay", "(I)I"⟩, 10), (⟨"MudSweepersModel$State", "look", "(I)V"⟩, 10), (⟨"MudSweepersModel", "goesTo", "(I)I"⟩, 9), (⟨"MudSweepersModel", "spread", "(I)V"⟩, 9), (⟨"MudSweepersModel$State", "copy", "([I[I)V"⟩, 10), (⟨"MudSweepersModel", "earnsAhead", "(II)I"⟩, 9)]
theorem lw_r2 : ∀ q ∈ lw_privs_2, lw_okq q := List.forall_mem_cons.mpr ⟨lw_p16, List.forall_mem_cons.mpr ⟨lw_p17, List.forall_mem_cons.mpr ⟨lw_p18, List.forall_mem_cons.mpr ⟨lw_p19, List.forall_mem_cons.mpr ⟨lw_p20, List.forall_mem_cons.mpr ⟨lw_p21, List.forall_mem_cons.mpr ⟨lw_p22, List.forall_mem_cons.mpr ⟨lw_p23, fun _ h => absurd h List.not_mem_nil⟩⟩⟩⟩⟩⟩⟩⟩
def lw_privs : List (MethodName × Nat) := lw_privs_1 ++ (lw_privs_2)
def lw_tbl : List Cond := k2_sels lw_privs ++ tables_1
theorem lw_privs_ok : ∀ q ∈ lw_privs, lw_okq q := by
  show ∀ q ∈ lw_privs_1 ++ (lw_privs_2), lw_okq q
  exact List.forall_mem_append.mpr ⟨lw_r1, lw_r2⟩
/-- the streams that the claim lets the run draw from -/
abbrev lw_cs : List Choice := [Jvm.Choice.named "NaN.bits"]
theorem lw_bits : nanBits ∈ lw_cs := by first | decide | exact List.mem_cons_self | simp [lw_cs, nanBits]
def RX0 : String := "MudSweepers$City"
def TX0 : u_T := fun k => match k with
  | 0 => ("MudSweepers$City", "mud", "[I", true)
  | 1 => ("MudSweepers$City", "carriages", "[I", true)
  | 2 => ("MudSweepers$City", "walkers", "[I", true)
  | 3 => ("MudSweepers$City", "holder", "[I", true)
  | 4 => ("MudSweepers$City", "paid", "[I", true)
  | 5 => ("MudSweepers$City", "rain", "[I", true)
  | 6 => ("MudSweepers$City", "place", "[I", true)
  | 7 => ("MudSweepers$City", "strength", "[I", true)
  | 8 => ("MudSweepers$City", "broom", "[I", true)
  | 9 => ("MudSweepers$City", "pence", "[I", true)
  | 10 => ("MudSweepers$City", "swept", "[I", true)
  | 11 => ("MudSweepers$City", "drivenOff", "[I", true)
  | 12 => ("MudSweepers$City", "sweepers", "I", false)
  | _ => ("MudSweepers$City", "quarter", "I", false)
def tyX0 : Nat → FieldType := fun k => match k with
  | 0 => .array .int
  | 1 => .array .int
  | 2 => .array .int
  | 3 => .array .int
  | 4 => .array .int
  | 5 => .array .int
  | 6 => .array .int
  | 7 => .array .int
  | 8 => .array .int
  | 9 => .array .int
  | 10 => .array .int
  | 11 => .array .int
  | 12 => .int
  | _ => .int
abbrev wsX00 : List Cond := u_ws RX0 TX0 14
theorem nmX0 : ∀ a, a < 14 → ∀ b, b < 14 → a ≠ b → (TX0 a).2.1 ≠ (TX0 b).2.1 := by decide +kernel
theorem tyX0_ok : ∀ k, k < 14 → parseFieldDescriptor (TX0 k).2.2.1 = some (tyX0 k) := by decide +kernel
abbrev cX0_init : ByteArray := prog_2_method_1_code
def yX0_init : MethodName := ⟨RX0, "<init>", "()V"⟩
abbrev cX0_copyFrom : ByteArray := prog_2_method_2_code
def yX0_copyFrom : MethodName := ⟨RX0, "copyFrom", "(LMudSweepers$City;)V"⟩
abbrev cX0_isSweeper : ByteArray := prog_2_method_3_code
def yX0_isSweeper : MethodName := ⟨RX0, "isSweeper", "(I)Z"⟩
abbrev cX0_holdsPitch : ByteArray := prog_2_method_4_code
def yX0_holdsPitch : MethodName := ⟨RX0, "holdsPitch", "(I)Z"⟩
abbrev cX0_reach : ByteArray := prog_2_method_5_code
def yX0_reach : MethodName := ⟨RX0, "reach", "(I)I"⟩
abbrev cX0_addMud : ByteArray := prog_2_method_6_code
def yX0_addMud : MethodName := ⟨RX0, "addMud", "(II)V"⟩
abbrev cX0_admit : ByteArray := prog_2_method_7_code
def yX0_admit : MethodName := ⟨RX0, "admit", "(II)I"⟩
abbrev cX0_moveTo : ByteArray := prog_2_method_8_code
def yX0_moveTo : MethodName := ⟨RX0, "moveTo", "(II)V"⟩
abbrev cX0_live : ByteArray := prog_2_method_9_code
def yX0_live : MethodName := ⟨RX0, "live", "(I)I"⟩
abbrev cX0_liveQuarter : ByteArray := prog_2_method_10_code
def yX0_liveQuarter : MethodName := ⟨RX0, "liveQuarter", "()I"⟩
abbrev cX0_sweepAll : ByteArray := prog_2_method_11_code
def yX0_sweepAll : MethodName := ⟨RX0, "sweepAll", "()V"⟩
abbrev cX0_payAll : ByteArray := prog_2_method_12_code
def yX0_payAll : MethodName := ⟨RX0, "payAll", "()I"⟩
abbrev cX0_wage : ByteArray := prog_2_method_13_code
def yX0_wage : MethodName := ⟨RX0, "wage", "(I)I"⟩
abbrev cX0_seekPitch : ByteArray := prog_2_method_14_code
def yX0_seekPitch : MethodName := ⟨RX0, "seekPitch", "(I)V"⟩
abbrev cX0_busiestNeighbour : ByteArray := prog_2_method_15_code
def yX0_busiestNeighbour : MethodName := ⟨RX0, "busiestNeighbour", "(I)I"⟩
abbrev cX0_sweeperFact : ByteArray := prog_2_method_16_code
def yX0_sweeperFact : MethodName := ⟨RX0, "sweeperFact", "(II)I"⟩
abbrev cX0_crossingFact : ByteArray := prog_2_method_17_code
def yX0_crossingFact : MethodName := ⟨RX0, "crossingFact", "(II)I"⟩
abbrev cX0_cityFact : ByteArray := prog_2_method_18_code
def yX0_cityFact : MethodName := ⟨RX0, "cityFact", "(I)I"⟩
abbrev cX0_allMud : ByteArray := prog_2_method_19_code
def yX0_allMud : MethodName := ⟨RX0, "allMud", "()I"⟩
abbrev cX0_heldPitches : ByteArray := prog_2_method_20_code
def yX0_heldPitches : MethodName := ⟨RX0, "heldPitches", "()I"⟩
abbrev cX0_sweepersAt : ByteArray := prog_2_method_21_code
def yX0_sweepersAt : MethodName := ⟨RX0, "sweepersAt", "(I)I"⟩
abbrev cX0_cleanCrossings : ByteArray := prog_2_method_22_code
def yX0_cleanCrossings : MethodName := ⟨RX0, "cleanCrossings", "()I"⟩
abbrev cX0_sum : ByteArray := prog_2_method_23_code
def yX0_sum : MethodName := ⟨RX0, "sum", "([I)I"⟩
def RX1 : String := "MudSweepers"
def TX1 : u_T := fun k => match k with
  | 0 => ("MudSweepers", "city", "LMudSweepers$City;", true)
  | 1 => ("MudSweepers", "trial", "LMudSweepers$City;", true)
  | _ => ("MudSweepers", "leastMud", "[I", true)
def tyX1 : Nat → FieldType := fun k => match k with
  | 0 => .object "MudSweepers$City"
  | 1 => .object "MudSweepers$City"
  | _ => .array .int
abbrev wsX10 : List Cond := u_ws RX1 TX1 3
theorem nmX1 : ∀ a, a < 3 → ∀ b, b < 3 → a ≠ b → (TX1 a).2.1 ≠ (TX1 b).2.1 := by decide +kernel
theorem tyX1_ok : ∀ k, k < 3 → parseFieldDescriptor (TX1 k).2.2.1 = some (tyX1 k) := by decide +kernel
abbrev cX1_init : ByteArray := prog_1_method_1_code
def yX1_init : MethodName := ⟨RX1, "<init>", "()V"⟩
abbrev cX1_set : ByteArray := prog_1_method_2_code
def yX1_set : MethodName := ⟨RX1, "set", "(III)I"⟩
abbrev cX1_setRain : ByteArray := prog_1_method_3_code
def yX1_setRain : MethodName := ⟨RX1, "setRain", "(II)I"⟩
abbrev cX1_spill : ByteArray := prog_1_method_4_code
def yX1_spill : MethodName := ⟨RX1, "spill", "(II)I"⟩
abbrev cX1_come : ByteArray := prog_1_method_5_code
def yX1_come : MethodName := ⟨RX1, "come", "(II)I"⟩
abbrev cX1_send : ByteArray := prog_1_method_6_code
def yX1_send : MethodName := ⟨RX1, "send", "(II)I"⟩
abbrev cX1_buy : ByteArray := prog_1_method_7_code
def yX1_buy : MethodName := ⟨RX1, "buy", "(I)I"⟩
abbrev cX1_sweeper : ByteArray := prog_1_method_8_code
def yX1_sweeper : MethodName := ⟨RX1, "sweeper", "(II)I"⟩
abbrev cX1_crossing : ByteArray := prog_1_method_9_code
def yX1_crossing : MethodName := ⟨RX1, "crossing", "(II)I"⟩
abbrev cX1_count : ByteArray := prog_1_method_10_code
def yX1_count : MethodName := ⟨RX1, "count", "(I)I"⟩
abbrev cX1_pass : ByteArray := prog_1_method_11_code
def yX1_pass : MethodName := ⟨RX1, "pass", "(I)I"⟩
abbrev cX1_way : ByteArray := prog_1_method_12_code
def yX1_way : MethodName := ⟨RX1, "way", "(II)I"⟩
abbrev cX1_earns : ByteArray := prog_1_method_13_code
def yX1_earns : MethodName := ⟨RX1, "earns", "(II)I"⟩
abbrev cX1_advise : ByteArray := prog_1_method_14_code
def yX1_advise : MethodName := ⟨RX1, "advise", "(II)I"⟩
abbrev cX1_foresee : ByteArray := prog_1_method_15_code
def yX1_foresee : MethodName := ⟨RX1, "foresee", "(II)I"⟩
abbrev cX1_mean : ByteArray := prog_1_method_16_code
def yX1_mean : MethodName := ⟨RX1, "mean", "()D"⟩
abbrev cX1_digest : ByteArray := prog_1_method_17_code
def yX1_digest : MethodName := ⟨RX1, "digest", "()J"⟩
abbrev cX1_isCrossing : ByteArray := prog_1_method_18_code
def yX1_isCrossing : MethodName := ⟨RX1, "isCrossing", "(I)Z"⟩
abbrev cX1_needCrossing : ByteArray := prog_1_method_19_code
def yX1_needCrossing : MethodName := ⟨RX1, "needCrossing", "(I)V"⟩
abbrev cX1_needSweeper : ByteArray := prog_1_method_20_code
def yX1_needSweeper : MethodName := ⟨RX1, "needSweeper", "(I)V"⟩
abbrev cX1_needFact : ByteArray := prog_1_method_21_code
def yX1_needFact : MethodName := ⟨RX1, "needFact", "(II)V"⟩
abbrev cX1_needQuarters : ByteArray := prog_1_method_22_code
def yX1_needQuarters : MethodName := ⟨RX1, "needQuarters", "(I)V"⟩
abbrev cX1_neighbour : ByteArray := prog_1_method_23_code
def yX1_neighbour : MethodName := ⟨RX1, "neighbour", "(II)I"⟩
abbrev cX1_shortenWays : ByteArray := prog_1_method_24_code
def yX1_shortenWays : MethodName := ⟨RX1, "shortenWays", "()V"⟩
abbrev cX1_earned : ByteArray := prog_1_method_25_code
def yX1_earned : MethodName := ⟨RX1, "earned", "(III)I"⟩
def RX2 : String := "MudSweepersModel$State"
def TX2 : u_T := fun k => match k with
  | 0 => ("MudSweepersModel$State", "quarter", "I", false)
  | 1 => ("MudSweepersModel$State", "mud", "[I", true)
  | 2 => ("MudSweepersModel$State", "holder", "[I", true)
  | 3 => ("MudSweepersModel$State", "paid", "[I", true)
  | 4 => ("MudSweepersModel$State", "at", "[I", true)
  | 5 => ("MudSweepersModel$State", "broom", "[I", true)
  | 6 => ("MudSweepersModel$State", "pence", "[I", true)
  | 7 => ("MudSweepersModel$State", "swept", "[I", true)
  | 8 => ("MudSweepersModel$State", "driven", "[I", true)
  | _ => ("MudSweepersModel$State", "this$0", "LMudSweepersModel;", true)
def tyX2 : Nat → FieldType := fun k => match k with
  | 0 => .int
  | 1 => .array .int
  | 2 => .array .int
  | 3 => .array .int
  | 4 => .array .int
  | 5 => .array .int
  | 6 => .array .int
  | 7 => .array .int
  | 8 => .array .int
  | _ => .object "MudSweepersModel"
abbrev wsX20 : List Cond := u_ws RX2 TX2 10
theorem nmX2 : ∀ a, a < 10 → ∀ b, b < 10 → a ≠ b → (TX2 a).2.1 ≠ (TX2 b).2.1 := by decide +kernel
theorem tyX2_ok : ∀ k, k < 10 → parseFieldDescriptor (TX2 k).2.2.1 = some (tyX2 k) := by decide +kernel
abbrev cX2_init : ByteArray := prog_5_method_1_code
def yX2_init : MethodName := ⟨RX2, "<init>", "(LMudSweepersModel;)V"⟩
abbrev cX2_copy : ByteArray := prog_5_method_2_code
def yX2_copy : MethodName := ⟨RX2, "copy", "([I[I)V"⟩
abbrev cX2_become : ByteArray := prog_5_method_3_code
def yX2_become : MethodName := ⟨RX2, "become", "(LMudSweepersModel$State;)V"⟩
abbrev cX2_holds : ByteArray := prog_5_method_4_code
def yX2_holds : MethodName := ⟨RX2, "holds", "(I)Z"⟩
abbrev cX2_sweeps : ByteArray := prog_5_method_5_code
def yX2_sweeps : MethodName := ⟨RX2, "sweeps", "(I)I"⟩
abbrev cX2_sweep : ByteArray := prog_5_method_6_code
def yX2_sweep : MethodName := ⟨RX2, "sweep", "(I)V"⟩
abbrev cX2_pay : ByteArray := prog_5_method_7_code
def yX2_pay : MethodName := ⟨RX2, "pay", "(I)I"⟩
abbrev cX2_look : ByteArray := prog_5_method_8_code
def yX2_look : MethodName := ⟨RX2, "look", "(I)V"⟩
abbrev cX2_pass : ByteArray := prog_5_method_9_code
def yX2_pass : MethodName := ⟨RX2, "pass", "()I"⟩
abbrev cX2_pass_ : ByteArray := prog_5_method_10_code
def yX2_pass_ : MethodName := ⟨RX2, "pass", "(I)I"⟩
abbrev cX2_send : ByteArray := prog_5_method_11_code
def yX2_send : MethodName := ⟨RX2, "send", "(II)I"⟩
abbrev cX2_held : ByteArray := prog_5_method_12_code
def yX2_held : MethodName := ⟨RX2, "held", "()I"⟩
abbrev cX2_allMud : ByteArray := prog_5_method_13_code
def yX2_allMud : MethodName := ⟨RX2, "allMud", "()I"⟩
abbrev cX2_sum : ByteArray := prog_5_method_14_code
def yX2_sum : MethodName := ⟨RX2, "sum", "([I)I"⟩
def RX3 : String := "MudSweepersModel"
def TX3 : u_T := fun k => match k with
  | 0 => ("MudSweepersModel", "thrown", "I", false)
  | 1 => ("MudSweepersModel", "carriages", "[I", true)
  | 2 => ("MudSweepersModel", "walkers", "[I", true)
  | 3 => ("MudSweepersModel", "rain", "[I", true)
  | 4 => ("MudSweepersModel", "sweepers", "I", false)
  | 5 => ("MudSweepersModel", "strength", "[I", true)
  | 6 => ("MudSweepersModel", "least", "[I", true)
  | 7 => ("MudSweepersModel", "s", "LMudSweepersModel$State;", true)
  | _ => ("MudSweepersModel", "ahead", "LMudSweepersModel$State;", true)
def tyX3 : Nat → FieldType := fun k => match k with
  | 0 => .int
  | 1 => .array .int
  | 2 => .array .int
  | 3 => .array .int
  | 4 => .int
  | 5 => .array .int
  | 6 => .array .int
  | 7 => .object "MudSweepersModel$State"
  | _ => .object "MudSweepersModel$State"
abbrev wsX30 : List Cond := u_ws RX3 TX3 9
theorem nmX3 : ∀ a, a < 9 → ∀ b, b < 9 → a ≠ b → (TX3 a).2.1 ≠ (TX3 b).2.1 := by decide +kernel
theorem tyX3_ok : ∀ k, k < 9 → parseFieldDescriptor (TX3 k).2.2.1 = some (tyX3 k) := by decide +kernel
abbrev cX3_init : ByteArray := prog_4_method_1_code
def yX3_init : MethodName := ⟨RX3, "<init>", "()V"⟩
abbrev cX3_thrown : ByteArray := prog_4_method_2_code
def yX3_thrown : MethodName := ⟨RX3, "thrown", "()I"⟩
abbrev cX3_no : ByteArray := prog_4_method_3_code
def yX3_no : MethodName := ⟨RX3, "no", "(I)I"⟩
abbrev cX3_isIn : ByteArray := prog_4_method_4_code
def yX3_isIn : MethodName := ⟨RX3, "isIn", "(III)Z"⟩
abbrev cX3_isCrossing : ByteArray := prog_4_method_5_code
def yX3_isCrossing : MethodName := ⟨RX3, "isCrossing", "(I)Z"⟩
abbrev cX3_isSweeper : ByteArray := prog_4_method_6_code
def yX3_isSweeper : MethodName := ⟨RX3, "isSweeper", "(I)Z"⟩
abbrev cX3_isTime : ByteArray := prog_4_method_7_code
def yX3_isTime : MethodName := ⟨RX3, "isTime", "(I)Z"⟩
abbrev cX3_beside : ByteArray := prog_4_method_8_code
def yX3_beside : MethodName := ⟨RX3, "beside", "(II)I"⟩
abbrev cX3_goesTo : ByteArray := prog_4_method_9_code
def yX3_goesTo : MethodName := ⟨RX3, "goesTo", "(I)I"⟩
abbrev cX3_set : ByteArray := prog_4_method_10_code
def yX3_set : MethodName := ⟨RX3, "set", "(III)I"⟩
abbrev cX3_setRain : ByteArray := prog_4_method_11_code
def yX3_setRain : MethodName := ⟨RX3, "setRain", "(II)I"⟩
abbrev cX3_spill : ByteArray := prog_4_method_12_code
def yX3_spill : MethodName := ⟨RX3, "spill", "(II)I"⟩
abbrev cX3_come : ByteArray := prog_4_method_13_code
def yX3_come : MethodName := ⟨RX3, "come", "(II)I"⟩
abbrev cX3_send : ByteArray := prog_4_method_14_code
def yX3_send : MethodName := ⟨RX3, "send", "(II)I"⟩
abbrev cX3_buy : ByteArray := prog_4_method_15_code
def yX3_buy : MethodName := ⟨RX3, "buy", "(I)I"⟩
abbrev cX3_sweeperTold : ByteArray := prog_4_method_16_code
def yX3_sweeperTold : MethodName := ⟨RX3, "sweeperTold", "(II)I"⟩
abbrev cX3_sweeper : ByteArray := prog_4_method_17_code
def yX3_sweeper : MethodName := ⟨RX3, "sweeper", "(II)I"⟩
abbrev cX3_crossingTold : ByteArray := prog_4_method_18_code
def yX3_crossingTold : MethodName := ⟨RX3, "crossingTold", "(II)I"⟩
abbrev cX3_crossing : ByteArray := prog_4_method_19_code
def yX3_crossing : MethodName := ⟨RX3, "crossing", "(II)I"⟩
abbrev cX3_counted : ByteArray := prog_4_method_20_code
def yX3_counted : MethodName := ⟨RX3, "counted", "(I)I"⟩
abbrev cX3_count : ByteArray := prog_4_method_21_code
def yX3_count : MethodName := ⟨RX3, "count", "(I)I"⟩
abbrev cX3_pass : ByteArray := prog_4_method_22_code
def yX3_pass : MethodName := ⟨RX3, "pass", "(I)I"⟩
abbrev cX3_way : ByteArray := prog_4_method_23_code
def yX3_way : MethodName := ⟨RX3, "way", "(II)I"⟩
abbrev cX3_spread : ByteArray := prog_4_method_24_code
def yX3_spread : MethodName := ⟨RX3, "spread", "(I)V"⟩
abbrev cX3_earnsAhead : ByteArray := prog_4_method_25_code
def yX3_earnsAhead : MethodName := ⟨RX3, "earnsAhead", "(II)I"⟩
abbrev cX3_earns : ByteArray := prog_4_method_26_code
def yX3_earns : MethodName := ⟨RX3, "earns", "(II)I"⟩
abbrev cX3_advise : ByteArray := prog_4_method_27_code
def yX3_advise : MethodName := ⟨RX3, "advise", "(II)I"⟩
abbrev cX3_foresee : ByteArray := prog_4_method_28_code
def yX3_foresee : MethodName := ⟨RX3, "foresee", "(II)I"⟩
abbrev cX3_mean : ByteArray := prog_4_method_29_code
def yX3_mean : MethodName := ⟨RX3, "mean", "()D"⟩
abbrev cX3_digest : ByteArray := prog_4_method_30_code
def yX3_digest : MethodName := ⟨RX3, "digest", "()J"⟩
def RL : String := "MudSweepersLaw"
abbrev cL_set : ByteArray := method_3_code
def yL_set : MethodName := ⟨RL, "set", "(LMudSweepers;III[J)I"⟩
abbrev cL_setRain : ByteArray := method_4_code
def yL_setRain : MethodName := ⟨RL, "setRain", "(LMudSweepers;II[J)I"⟩
abbrev cL_spill : ByteArray := method_5_code
def yL_spill : MethodName := ⟨RL, "spill", "(LMudSweepers;II[J)I"⟩
abbrev cL_come : ByteArray := method_6_code
def yL_come : MethodName := ⟨RL, "come", "(LMudSweepers;II[J)I"⟩
abbrev cL_send : ByteArray := method_7_code
def yL_send : MethodName := ⟨RL, "send", "(LMudSweepers;II[J)I"⟩
abbrev cL_buy : ByteArray := method_8_code
def yL_buy : MethodName := ⟨RL, "buy", "(LMudSweepers;I[J)I"⟩
abbrev cL_sweeper : ByteArray := method_9_code
def yL_sweeper : MethodName := ⟨RL, "sweeper", "(LMudSweepers;II[J)I"⟩
abbrev cL_crossing : ByteArray := method_10_code
def yL_crossing : MethodName := ⟨RL, "crossing", "(LMudSweepers;II[J)I"⟩
abbrev cL_count : ByteArray := method_11_code
def yL_count : MethodName := ⟨RL, "count", "(LMudSweepers;I[J)I"⟩
abbrev cL_pass : ByteArray := method_12_code
def yL_pass : MethodName := ⟨RL, "pass", "(LMudSweepers;I[J)I"⟩
abbrev cL_way : ByteArray := method_13_code
def yL_way : MethodName := ⟨RL, "way", "(LMudSweepers;II[J)I"⟩
abbrev cL_earns : ByteArray := method_14_code
def yL_earns : MethodName := ⟨RL, "earns", "(LMudSweepers;II[J)I"⟩
abbrev cL_advise : ByteArray := method_15_code
def yL_advise : MethodName := ⟨RL, "advise", "(LMudSweepers;II[J)I"⟩
abbrev cL_foresee : ByteArray := method_16_code
def yL_foresee : MethodName := ⟨RL, "foresee", "(LMudSweepers;II[J)I"⟩
abbrev cL_law : ByteArray := code
def yL_law : MethodName := ⟨RL, "law", "([I)Z"⟩
abbrev vwCl : List vw_C := [(RX0, TX0, 14), (RX1, TX1, 3), (RX2, TX2, 10), (RX3, TX3, 9)]
end
section
/-! ===== BEGIN words of one list among another's, by their places ===== -/
theorem goodIn_r {big : List Cond} (ws : List Cond) (ps : List Nat) (hp : ws = ps.filterMap (fun i => big[i]?)) (h : ws.all goodWord = true) : GoodIn big ws := by
  intro w hw
  have h1 := List.all_eq_true.mp h w hw
  rw [hp] at hw
  obtain ⟨i, -, hi⟩ := List.mem_filterMap.mp hw
  have hm : w ∈ big := by first | exact List.mem_of_getElem? hi | exact List.getElem?_mem hi
  exact ⟨hm, good_of_word h1⟩
theorem goodIn_app {big a b : List Cond} (ha : GoodIn big a) (hb : GoodIn big b) : GoodIn big (a ++ b) := fun w h => (List.mem_append.mp h).elim (ha w) (hb w)
theorem goodIn_ca {big a b : List Cond} {c : Cond} (ha : GoodIn big (c :: a)) (hb : GoodIn big b) : GoodIn big (c :: (a ++ b)) := fun w h => (List.mem_cons.mp h).elim (fun e => ha w (List.mem_cons.mpr (Or.inl e))) (fun h => (List.mem_append.mp h).elim (fun h => ha w (List.mem_cons.mpr (Or.inr h))) (hb w))
theorem goodIn_sub {big ws : List Cond} (hm : ∀ w ∈ ws, w ∈ big) (h : ws.all goodWord = true) : GoodIn big ws := fun w hw => ⟨hm w hw, good_of_word (List.all_eq_true.mp h w hw)⟩
/-! ===== END ===== -/

/-! ===== BEGIN exceptions that leave a method, and their catching by the caller (launches without stack traces) ===== -/
section VXA
/-! The laws vx_back, vx_callV, vx_callS, vx_callSW, vx_throw0, vx_throwS follow proofs of the library, with one case more: JvmDerived/Free/Laws.lean (Back.of_free), Shelf42/LK1.lean (callV, callS), Shelf/KitTraced.lean (throwNew0V, throwNewS). -/
/-- where a method has thrown q: the class by its name, the cell, what was written, the world -/
def vx_T (XC : String → State → State → Prop) (st : State) (q : Addr) (t : State) (mc ms : Nat) (free : Addr → Prop) : Prop :=
  ∃ (E : String) (ce : Cell) (L : List Loc), XC E st t ∧ t.heap[q]? = some ce ∧ ce.vm = .none ∧ st.vm.findClass E = some ce.cls ∧ st.WarmedH t.vm ∧ st.sameButNew ({ t with vm := st.vm } : State) L mc ms ∧ ∀ z ∈ L, free z.base
def vx_Q (Qc : Array Value → State → Outcome → State → Prop) (XC : String → State → State → Prop) (mc ms : Nat) (free : Addr → Prop) : Array Value → State → Outcome → State → Prop := fun a st o t =>
  (Qc a st o t ∧ ∃ L, FrameEnd st o t L mc ms ∧ ∀ q ∈ L, free q.base) ∨ ∃ q, o = .threw q ∧ vx_T XC st q t mc ms free
/-- a callee that returns or throws -/
def vx_Met (l : Launch) (y : MethodName) (ws : List Cond) (rm : Room) (Pc : Array Value → State → Prop) (Qc : Array Value → State → Outcome → State → Prop) (XC : String → State → State → Prop) (mc ms : Nat) (free : Addr → Prop) : Prop :=
  MetFree l y (headSpec ws rm) Pc (fun _ _ _ _ _ => True) (vx_Q Qc XC mc ms free)
def vx_Post (XC : String → State → State → Prop) (mc ms : Nat) (free : Addr → Prop) : Pt → Array Value → Addr → Pt → Prop := fun A a q B =>
  ∃ (g : JFrame) (mk : MethodId) (t : State) (L : List Loc) (E : String) (ce : Cell), B.U.heap = t.heap ∧ B.U.vm = t.vm ∧ XC E (A.U.calling g mk a) t ∧ t.heap[q]? = some ce ∧ ce.vm = .none ∧ A.U.vm.findClass E = some ce.cls ∧ B.locs = A.locs ++ L ∧ (∀ z ∈ L, free z.base) ∧ B.cells = A.cells + mc ∧ B.slots = A.slots + ms
def vx_Back (l : Launch) (R : Room) (p : Program) (e : Env) (below : List Frame) (s : State) (sargs : Array Value) (y : MethodName) (len W9 : Nat)
    (Pre : Pt → Array Value → Prop) (Post : Pt → Array Value → Option Value → Pt → Prop) (PostX : Pt → Array Value → Addr → Pt → Prop) : Prop :=
  ∀ (m : MethodId) (meth : Method) (c : Code) (A : Pt) (g : JFrame) (ig : Instr) (mk : MethodId) (a : Array Value),
    Stand p l e R s m sargs below meth c A.U A.locs A.cells A.slots → g.method = m → g.locals.size = c.maxLocals → decode c.code g.pc = .ok (ig, len) →
    2 * g.monitorRoom + (g.stack.map fun v => v.category).sum ≤ W9 → A.U.methodNamed? y = some mk → Pre A a →
    (∃ (v : Option Value) (B : Pt), Stand p l e R s m sargs below meth c B.U B.locs B.cells B.slots ∧ Post A a v B ∧
      Steps p.tables e below (doInvoke e (A.U.setTop g) [] mk a).1 (B.U.setTop { g with pc := g.pc + len, stack := v.toList ++ g.stack })) ∨
    (∃ (q : Addr) (B : Pt), Stand p l e R s m sargs below meth c B.U B.locs B.cells B.slots ∧ PostX A a q B ∧
      Steps p.tables e below (doInvoke e (A.U.setTop g) [] mk a).1 ((B.U.setTop g).pushFrame (.throwing q)))
section Payer
variable {l : Launch} {R : Room} {p : Program} {e : Env} {below : List Frame} {s : State} {sargs : Array Value} {y : MethodName} {len W9 : Nat}
theorem vx_back {ws : List Cond} {rm : Room} {Pc : Array Value → State → Prop} {Qc : Array Value → State → Outcome → State → Prop} {XC : String → State → State → Prop} {mc ms : Nat} {free : Addr → Prop} {bytes : ByteArray} {maxL : Nat} {ret : Option FieldType}
    (hM : vx_Met l y ws rm Pc Qc XC mc ms free) (hblind : FrameBlind Pc) (hrc : rm.cells = mc) (hrs : rm.slots = ms)
    (hframes : rm.frames + 1 ≤ R.frames) (hlocals : W9 + (maxL + 11) + rm.locals ≤ R.locals)
    (hws : ∀ w ∈ ws, ∀ a' U, s.WarmedH U.vm → w.before a' U = true) (hcode : Cond.code y bytes maxL ret ∈ ws) (hinit : ∀ a' U, s.WarmedH U.vm → (Cond.initialized y.cls).before a' U = true) :
    vx_Back l R p e below s sargs y len W9 (PreOf R mc ms Pc) (PostOf Qc mc ms free) (vx_Post XC mc ms free) := by
  intro m meth c A g ig mk a X hg hsize hdg hW hn hp
  have h1 : (headSpec ws rm).pre.before a A.U = true := atoms_intro fun w hw => hws w hw _ _ X.warmed
  have h2 : (Cond.code y bytes maxL ret).before a A.U = true := hws _ hcode _ _ X.warmed
  have h3 : (Cond.initialized y.cls).before a A.U = true := hinit _ _ X.warmed
  have h4 : A.cells + (headSpec ws rm).room.cells ≤ R.cells := by rw [show (headSpec ws rm).room.cells = mc from hrc]; exact hp.1
  have h5 : A.slots + (headSpec ws rm).room.slots ≤ R.slots := by rw [show (headSpec ws rm).room.slots = ms from hrs]; exact hp.2.1
  have hPc : Pc a (A.U.calling g mk a) := hblind _ _ _ _ hp.2.2
  obtain ⟨U, Ls, c0, s0⟩ := A
  dsimp only [Pt.U, Pt.locs, Pt.cells, Pt.slots] at h1 h2 h3 h4 h5 X hn hPc ⊢
  obtain ⟨methY, cY, hmY, hcY, -, hlY, -, -, -, -⟩ := Cond.code_spec hn h2
  obtain ⟨kY, hkY, -⟩ := className_of_methodNamed hn
  have hinitY : kY.init = .initialized := Cond.initialized_spec (findClass_of_methodNamed hn) hkY h3
  have h : At U g.method c below := by rw [hg]; exact X.here
  have hlocals9 : W9 + (maxL + 11) + (headSpec ws rm).room.locals ≤ R.locals := hlocals
  have happ : (headSpec ws rm).appliesLoose y e.platform (U.calling g mk a) = true :=
    Spec.appliesLoose_calling (g := g) h hdg hn hkY hinitY
      (X.room_calling (g := g) (R' := (headSpec ws rm).room) hsize hmY hcY hframes (by rw [hlY]; omega) h4 h5) h1
  obtain ⟨mid, hmid⟩ := h.above
  have hfr : (U.setTop g).frames = (.java g :: mid) ++ below := by rw [State.frames_setTop' g h.top, hmid]; rfl
  obtain ⟨o, s₂, hsteps, -, hend, hq⟩ := Steps.callFree hM p X.admits X.cas X.clock (acts := []) hfr happ hPc trivial
  have hq' : vx_Q Qc XC mc ms free a (U.calling g mk a) o s₂ := hq
  rw [State.frames_setTop' g h.top] at hend
  obtain ⟨g₀, hg0⟩ := Option.isSome_iff_exists.mp h.top
  obtain ⟨r, hr⟩ := State.topJava?_eq_some.mp hg0
  have hr' : (({ U with heap := s₂.heap, slotsUsed := s₂.slotsUsed } : State).setVm s₂.vm).frames = .java g₀ :: r := hr
  rcases hq' with ⟨hqc, L, hfe, hL⟩ | ⟨q, rfl, E, ce, L, hx, hce, hcv, hcl, hW₂, hsm, hL⟩
  · obtain ⟨⟨v, rfl⟩, hW₂, e2, q2, q3, q4, q5, q6⟩ := id hfe
    have e3 : s₂ = ({ (U.calling g mk a).setFrames s₂.frames with heap := s₂.heap, slotsUsed := s₂.slotsUsed } : State).setVm s₂.vm := by
      have : s₂ = ({ s₂ with vm := (U.calling g mk a).vm } : State).setVm s₂.vm := rfl
      rw [e2] at this
      exact this
    obtain ⟨c₂, i₂, len₂, hc₂, hd₂, hf₂⟩ := hend
    have hW' : U.WarmedH s₂.vm := hW₂
    have hcc : c₂ = c := by
      have h1 : s₂.code? g.method = U.code? g.method := by
        rw [State.code?_eq, State.code?_eq, hW'.alike.method?]
      exact Option.some.inj (hc₂.symm.trans (h1.trans h.code))
    subst hcc
    have hlen : len₂ = len := by rw [hdg] at hd₂; cases hd₂; rfl
    subst hlen
    have hs₂ : s₂ = (({ U with heap := s₂.heap, slotsUsed := s₂.slotsUsed } : State).setVm s₂.vm).setTop { g with pc := g.pc + len₂, stack := v.toList ++ g.stack } := by
      refine e3.trans ?_
      rw [hf₂, State.calling_eq h.top, State.setFrames_setFrames, State.setTop_of_frames _ hr', hr]
      rfl
    have hsame : U.sameButNew ({ U with heap := s₂.heap, slotsUsed := s₂.slotsUsed } : State) L mc ms := by
      refine ⟨?_, q2, q3, q4, q5, q6⟩
      obtain ⟨t, ht, -⟩ := State.frames_cons hr
      show ({ U with heap := s₂.heap, slotsUsed := s₂.slotsUsed } : State) = { U.setFrames U.frames with heap := s₂.heap, slotsUsed := s₂.slotsUsed }
      rw [State.setFrames_self ht]
    subst hg
    refine Or.inl ⟨v, ⟨(({ U with heap := s₂.heap, slotsUsed := s₂.slotsUsed } : State).setVm s₂.vm), Ls ++ L, c0 + mc, s0 + ms⟩,
      ⟨X.admits, X.cas, X.clock, X.frames, X.room, X.hears, X.method, X.code, (X.here.setHeapUsed s₂.heap s₂.slotsUsed).setVm hW'.alike, X.tail, State.WarmedH.trans X.warmed hW', X.limits, X.bytes, X.same.trans (hsame.setVm s.vm)⟩,
      ⟨g, mk, s₂, L, rfl, rfl, hqc, rfl, hL, rfl, rfl⟩, ?_⟩
    show Steps p.tables e below _ ((({ U with heap := s₂.heap, slotsUsed := s₂.slotsUsed } : State).setVm s₂.vm).setTop { g with pc := g.pc + len₂, stack := v.toList ++ g.stack })
    rw [← hs₂]
    exact hsteps
  · obtain ⟨e2, q2, q3, q4, q5, q6⟩ := id hsm
    have e3 : s₂ = ({ (U.calling g mk a).setFrames s₂.frames with heap := s₂.heap, slotsUsed := s₂.slotsUsed } : State).setVm s₂.vm := by
      have : s₂ = ({ s₂ with vm := (U.calling g mk a).vm } : State).setVm s₂.vm := rfl
      rw [e2] at this
      exact this
    have hf₂ : s₂.frames = .throwing q :: .java g :: U.frames.tail := hend
    have hW' : U.WarmedH s₂.vm := hW₂
    have hs₂ : s₂ = ((({ U with heap := s₂.heap, slotsUsed := s₂.slotsUsed } : State).setVm s₂.vm).setTop g).pushFrame (.throwing q) := by
      refine e3.trans ?_
      rw [hf₂, State.calling_eq h.top, State.setFrames_setFrames, State.pushFrame, State.frames_setTop _ hr', State.setTop_of_frames _ hr', State.setFrames_setFrames, hr]
      rfl
    have hsame : U.sameButNew ({ U with heap := s₂.heap, slotsUsed := s₂.slotsUsed } : State) L mc ms := by
      refine ⟨?_, q2, q3, q4, q5, q6⟩
      obtain ⟨t, ht, -⟩ := State.frames_cons hr
      show ({ U with heap := s₂.heap, slotsUsed := s₂.slotsUsed } : State) = { U.setFrames U.frames with heap := s₂.heap, slotsUsed := s₂.slotsUsed }
      rw [State.setFrames_self ht]
    subst hg
    refine Or.inr ⟨q, ⟨(({ U with heap := s₂.heap, slotsUsed := s₂.slotsUsed } : State).setVm s₂.vm), Ls ++ L, c0 + mc, s0 + ms⟩,
      ⟨X.admits, X.cas, X.clock, X.frames, X.room, X.hears, X.method, X.code, (X.here.setHeapUsed s₂.heap s₂.slotsUsed).setVm hW'.alike, X.tail, State.WarmedH.trans X.warmed hW', X.limits, X.bytes, X.same.trans (hsame.setVm s.vm)⟩,
      ⟨g, mk, s₂, L, E, ce, rfl, rfl, hx, hce, hcv, hcl, rfl, hL, rfl, rfl⟩, ?_⟩
    show Steps p.tables e below _ (((({ U with heap := s₂.heap, slotsUsed := s₂.slotsUsed } : State).setVm s₂.vm).setTop g).pushFrame (.throwing q))
    rw [← hs₂]
    exact hsteps
end Payer
section Calls
variable {p : Program} {l : Launch} {e : Env} {R : Room} {s : State} {m : MethodId} {args : Array Value} {below : List Frame} {meth : Method} {c : Code} {T : State} {locs : List Loc} {cells slots : Nat}
theorem vx_callV (X : Stand p l e R s m args below meth c T locs cells slots) (hexec : p.tables.exec = Jvm.exec) {own C : String} {index : Nat} {y : MethodName} {bytes : ByteArray} {maxL : Nat} {ret : Option FieldType}
    (hown : s.vm.findClass own = some m.cls) (hlink : (Cond.methodLink own index y).before args s = true) (hinst : (Cond.instanceMethod y).before args s = true) (hsel : (Cond.selects C y y).before args s = true)
    (hcode : (Cond.code y bytes maxL ret).before args s = true) (hy : y.cls ≠ "java/lang/invoke/MethodHandle" ∧ y.cls ≠ "java/lang/invoke/VarHandle")
    {W9 : Nat} {Pre : Pt → Array Value → Prop} {Post : Pt → Array Value → Option Value → Pt → Prop} {PostX : Pt → Array Value → Addr → Pt → Prop} (hK : vx_Back l R p e below s args y 3 W9 Pre Post PostX)
    {b : Addr} {cellB : Cell} (hcell : T.heap[b]? = some cellB) (hobj : cellB.vm.isStatics = false) (hcls : s.vm.findClass C = some cellB.cls)
    {g : JFrame} (hg : g.method = m) (hsize : g.locals.size = c.maxLocals) {argsL rest : List Value} (hlen : ∀ sig, parseMethodDescriptor y.desc = some sig → argsL.length = sig.parameters.length)
    (hstack : g.stack = argsL.reverse ++ .ref b :: rest) (hW : 2 * g.monitorRoom + (rest.map fun v => v.category).sum ≤ W9) (hdg : decode c.code g.pc = .ok (.invokevirtual index, 3))
    (hpre : ∀ vm₁, s.WarmedH vm₁ → Pre ⟨T.setVm vm₁, locs, cells, slots⟩ (Value.ref b :: argsL).toArray) :
    (∃ (v : Option Value) (vm₁ : Vm) (B : Pt), s.WarmedH vm₁ ∧ Stand p l e R s m args below meth c B.U B.locs B.cells B.slots ∧ Post ⟨T.setVm vm₁, locs, cells, slots⟩ (Value.ref b :: argsL).toArray v B ∧
      ∀ target, Steps p.tables e below (B.U.setTop { g with pc := g.pc + 3, stack := v.toList ++ rest }) target → Steps p.tables e below (T.setTop g) target) ∨
    (∃ (q : Addr) (vm₁ : Vm) (B : Pt), s.WarmedH vm₁ ∧ Stand p l e R s m args below meth c B.U B.locs B.cells B.slots ∧ PostX ⟨T.setVm vm₁, locs, cells, slots⟩ (Value.ref b :: argsL).toArray q B ∧
      Steps p.tables e below (T.setTop g) ((B.U.setTop { g with stack := rest }).pushFrame (.throwing q))) := by
  obtain ⟨mk, methM, hnamed, hmethM, hstM, habM⟩ := Cond.instanceMethod_spec hinst
  obtain ⟨methM', cM, hmethM', -, -, -, -, -, -, hsigM⟩ := Cond.code_spec hnamed hcode
  cases hmethM.symm.trans hmethM'
  obtain ⟨c2, r2, m2, q1, q2, q3, q4, kP, hkP, hkPi⟩ := Cond.selects_spec hsel
  cases hcls.symm.trans q1
  cases (State.methodFound?_of_named hnamed hy).symm.trans q2
  cases hnamed.symm.trans q3
  have hselP : selectMethod e.platform s.vm cellB.cls mk = .method mk := by rw [Launch.admits_selectMethod X.admits]; exact q4
  obtain ⟨vm₁, X₁, hstep₁⟩ := X.invokevirtual hexec hown hlink hnamed hmethM hstM hkP hkPi hy (a := b) (cell := cellB) hcell
    (fun z h => by rw [h] at hobj; cases hobj) hselP hmethM habM hkP hkPi (g := g) hg (argsL := argsL) (rest := rest) (hlen _ hsigM) hstack hdg
  rcases hK m meth c ⟨T.setVm vm₁, locs, cells, slots⟩ { g with stack := rest } (.invokevirtual index) mk (Value.ref b :: argsL).toArray X₁ hg hsize hdg hW (X₁.named hnamed) (hpre vm₁ X₁.warmed) with ⟨v, B, X', hpost, hsteps⟩ | ⟨q, B, X', hpost, hsteps⟩
  · exact Or.inl ⟨v, vm₁, B, X₁.warmed, X', hpost, fun target h => hstep₁ _ fun acts => by rw [doInvoke_state]; exact hsteps.trans h⟩
  · exact Or.inr ⟨q, vm₁, B, X₁.warmed, X', hpost, hstep₁ _ fun acts => by rw [doInvoke_state]; exact hsteps⟩
theorem vx_callS (X : Stand p l e R s m args below meth c T locs cells slots) (hexec : p.tables.exec = Jvm.exec) {own : String} {index : Nat} {y : MethodName} {bytes : ByteArray} {maxL : Nat} {ret : Option FieldType}
    (hown : s.vm.findClass own = some m.cls) (hlink : (Cond.methodLink own index y).before args s = true) (hstat : (Cond.static y).before args s = true) (hinit : (Cond.initialized y.cls).before args s = true)
    (hcode : (Cond.code y bytes maxL ret).before args s = true) (hy : y.cls ≠ "java/lang/invoke/MethodHandle" ∧ y.cls ≠ "java/lang/invoke/VarHandle")
    {W9 : Nat} {Pre : Pt → Array Value → Prop} {Post : Pt → Array Value → Option Value → Pt → Prop} {PostX : Pt → Array Value → Addr → Pt → Prop} (hK : vx_Back l R p e below s args y 3 W9 Pre Post PostX)
    {g : JFrame} (hg : g.method = m) (hsize : g.locals.size = c.maxLocals) {argsL rest : List Value} (hlen : ∀ sig, parseMethodDescriptor y.desc = some sig → argsL.length = sig.parameters.length)
    (hstack : g.stack = argsL.reverse ++ rest) (hW : 2 * g.monitorRoom + (rest.map fun v => v.category).sum ≤ W9) (hdg : decode c.code g.pc = .ok (.invokestatic index, 3))
    (hpre : ∀ vm₁, s.WarmedH vm₁ → Pre ⟨T.setVm vm₁, locs, cells, slots⟩ argsL.toArray) :
    (∃ (v : Option Value) (vm₁ : Vm) (B : Pt), s.WarmedH vm₁ ∧ Stand p l e R s m args below meth c B.U B.locs B.cells B.slots ∧ Post ⟨T.setVm vm₁, locs, cells, slots⟩ argsL.toArray v B ∧
      ∀ target, Steps p.tables e below (B.U.setTop { g with pc := g.pc + 3, stack := v.toList ++ rest }) target → Steps p.tables e below (T.setTop g) target) ∨
    (∃ (q : Addr) (vm₁ : Vm) (B : Pt), s.WarmedH vm₁ ∧ Stand p l e R s m args below meth c B.U B.locs B.cells B.slots ∧ PostX ⟨T.setVm vm₁, locs, cells, slots⟩ argsL.toArray q B ∧
      Steps p.tables e below (T.setTop g) ((B.U.setTop { g with stack := rest }).pushFrame (.throwing q))) := by
  obtain ⟨mk, hnamed⟩ := Cond.code_named hcode
  obtain ⟨methM, cM, hmethM, -, -, -, -, -, -, hsigM⟩ := Cond.code_spec hnamed hcode
  have hstatic : methM.isStatic = true := Cond.static_spec hnamed hmethM hstat
  obtain ⟨kP, hkP, -⟩ := className_of_methodNamed hnamed
  have hinitP : kP.init = .initialized := Cond.initialized_spec (findClass_of_methodNamed hnamed) hkP hinit
  obtain ⟨vm₁, X₁, hstep₁⟩ := X.invokestatic hexec hown hlink hnamed hmethM hstatic hkP hinitP hy (g := g) hg (argsL := argsL) (rest := rest) (hlen _ hsigM) hstack hdg
  rcases hK m meth c ⟨T.setVm vm₁, locs, cells, slots⟩ { g with stack := rest } (.invokestatic index) mk argsL.toArray X₁ hg hsize hdg hW (X₁.named hnamed) (hpre vm₁ X₁.warmed) with ⟨v, B, X', hpost, hsteps⟩ | ⟨q, B, X', hpost, hsteps⟩
  · exact Or.inl ⟨v, vm₁, B, X₁.warmed, X', hpost, fun target h => hstep₁ _ fun acts => by rw [doInvoke_state]; exact hsteps.trans h⟩
  · exact Or.inr ⟨q, vm₁, B, X₁.warmed, X', hpost, hstep₁ _ fun acts => by rw [doInvoke_state]; exact hsteps⟩
end Calls
theorem vx_cls {s : State} {T : State} {vm₁ : Vm} {E : String} {k : ClassId} (hW : s.WarmedH vm₁) (h : (T.setVm vm₁).vm.findClass E = some k) : s.vm.findClass E = some k := by
  have h1 : vm₁.findClass E = some k := h
  rw [hW.alike.findClass] at h1
  exact h1
/-- the method's frame g, with q thrown over it -/
def vx_W (p : Program) (l : Launch) (e : Env) (R : Room) (s : State) (m : MethodId) (args : Array Value) (below : List Frame) (meth : Method) (c : Code) (H : Heap) (locs : List Loc) (cells slots : Nat) (Q : State → Prop) (g : JFrame) (q : Addr) : Prop :=
  ∀ T : State, T.heap = H → Stand p l e R s m args below meth c T locs cells slots → ∃ t, Steps p.tables e below ((T.setTop g).pushFrame (.throwing q)) t ∧ Q t
def vx_Run (p : Program) (l : Launch) (e : Env) (R : Room) (s : State) (m : MethodId) (args : Array Value) (below : List Frame) (meth : Method) (c : Code) (H : Heap) (locs : List Loc) (cells slots mc ms : Nat) (g : JFrame) (rest : List Value) (Qa : State → Outcome → State → Prop) (XC : String → State → State → Prop) (free : Addr → Prop) : Prop :=
  ∀ T : State, T.heap = H → Stand p l e R s m args below meth c T locs cells slots →
    (∃ (v : Option Value) (st₀ t T' : State) (L : List Loc), st₀.heap = H ∧ Stand p l e R s m args below meth c T' (locs ++ L) (cells + mc) (slots + ms) ∧ (∀ q ∈ L, free q.base) ∧ T'.heap = t.heap ∧ T'.vm = t.vm ∧ Qa st₀ (.returned v) t ∧
      Goes p e below T g T' { g with pc := g.pc + 3, stack := v.toList ++ rest }) ∨
    (∃ (q : Addr) (st₀ t T' : State) (L : List Loc) (E : String) (ce : Cell), st₀.heap = H ∧ Stand p l e R s m args below meth c T' (locs ++ L) (cells + mc) (slots + ms) ∧ (∀ z ∈ L, free z.base) ∧ T'.heap = t.heap ∧ T'.vm = t.vm ∧ XC E st₀ t ∧ t.heap[q]? = some ce ∧ ce.vm = .none ∧ s.vm.findClass E = some ce.cls ∧
      Steps p.tables e below (T.setTop g) ((T'.setTop { g with stack := rest }).pushFrame (.throwing q)))
def vx_X {S : Type} (px : S → Prop) (B : String → S → State → Prop) (A : Nat → Prop) : String → State → State → Prop := fun E st t => ∃ u : S, px u ∧ B E u t ∧ va_F A st t
section Runs
variable {p : Program} {l : Launch} {e : Env} {R : Room} {s : State} {m : MethodId} {args : Array Value} {below : List Frame} {meth : Method} {c : Code} {H : Heap} {locs : List Loc} {cells slots : Nat}
variable {y : MethodName} {bytes cc : ByteArray} {maxL nL mc ms n index : Nat} {ret : Option FieldType} {ws : List Cond} {rm : Room} {Pc : Array Value → State → Prop} {Qc : Array Value → State → Outcome → State → Prop} {XC : String → State → State → Prop} {free : Addr → Prop} {Ts : List Cond} {own C : String} {b : Addr} {As rest : List Value} {g : JFrame}
theorem vx_callBack (cb : CallB R s args own index y bytes maxL ret ws rm mc ms n) (hM : vx_Met l y ws rm Pc Qc XC mc ms free) (hbl : FrameBlind Pc) : vx_Back l R p e below s args y 3 8 (PreOf R mc ms Pc) (PostOf Qc mc ms free) (vx_Post XC mc ms free) := by
  obtain ⟨hrc, hrs, hfr, hlo, hws, hcw, -, hini, -⟩ := cb
  exact vx_back (bytes := bytes) (maxL := maxL) (ret := ret) hM hbl hrc hrs hfr hlo hws hcw (fun a' U hW => word_at hW (Or.inl (by first | rfl | simp [Cond.onTables, Cond.keeps, Cond.steady])) hini)
theorem vx_runV (S : CallFix p m c cc nL s args Ts own) (hM : vx_Met l y ws rm Pc Qc XC mc ms free) (cw : CallW R s args own C index y bytes maxL ret ws rm mc ms n) (hp : PreV s H C b Pc As)
    (hg : g.method = m) (hn : As.length = n) (hsize : g.locals.size = nL) (hstack : g.stack = As.reverse ++ .ref b :: rest) (hW : 2 * g.monitorRoom + (rest.map fun v => v.category).sum ≤ 8) (hdg : decode cc g.pc = .ok (.invokevirtual index, 3)) (hf : cells + mc ≤ R.cells ∧ slots + ms ≤ R.slots) :
    vx_Run p l e R s m args below meth c H locs cells slots mc ms g rest (Qc (Value.ref b :: As).toArray) XC free := by
  have hK : vx_Back l R p e below s args y 3 8 (PreOf R mc ms Pc) (PostOf Qc mc ms free) (vx_Post XC mc ms free) := vx_callBack cw.1 hM hp.1
  obtain ⟨⟨-, -, -, -, -, -, hcode, -, hy, hlen, hl⟩, hin, hse⟩ := cw
  obtain ⟨hx, hb, hml, ho, -⟩ := S
  obtain ⟨-, ⟨cellB, hcB, hoB, hclB⟩, hPc⟩ := hp
  intro T hT X
  rcases vx_callV X hx (C := C) (bytes := bytes) (maxL := maxL) (ret := ret) ho hl hin hse hcode hy hK (by rw [hT]; exact hcB) hoB hclB hg (hsize.trans hml.symm) (argsL := As) (rest := rest) (fun sig h => hn.trans (hlen sig h)) hstack hW (by rw [hb]; exact hdg)
    (fun vm₁ hW₁ => ⟨hf.1, hf.2, hPc (T.setVm vm₁) hT hW₁⟩) with ⟨v, vm₁, ⟨U', l2, c2, s2⟩, hW₁, X', ⟨g', mk, t, L, e1, e2, hq, h1, hL, h2, h3⟩, st⟩ | ⟨q, vm₁, ⟨U', l2, c2, s2⟩, hW₁, X', ⟨g', mk, t, L, E, ce, e1, e2, hq, hce, hcv, hcl, h1, hL, h2, h3⟩, st⟩
  · dsimp only [Pt.U, Pt.locs, Pt.cells, Pt.slots] at X' e1 e2 h1 h2 h3 st
    subst h1; subst h2; subst h3
    exact Or.inl ⟨v, (T.setVm vm₁).calling g' mk (Value.ref b :: As).toArray, t, U', L, hT, X', hL, e1, e2, hq, st⟩
  · dsimp only [Pt.U, Pt.locs, Pt.cells, Pt.slots] at X' e1 e2 h1 h2 h3 st hcl
    subst h1; subst h2; subst h3
    exact Or.inr ⟨q, (T.setVm vm₁).calling g' mk (Value.ref b :: As).toArray, t, U', L, E, ce, hT, X', hL, e1, e2, hq, hce, hcv, vx_cls hW₁ hcl, st⟩
theorem vx_runS (S : CallFix p m c cc nL s args Ts own) (hM : vx_Met l y ws rm Pc Qc XC mc ms free) (cw : CallB R s args own index y bytes maxL ret ws rm mc ms n ∧ (Cond.static y).before args s = true) (hp : PreS s H Pc As)
    (hg : g.method = m) (hn : As.length = n) (hsize : g.locals.size = nL) (hstack : g.stack = As.reverse ++ rest) (hW : 2 * g.monitorRoom + (rest.map fun v => v.category).sum ≤ 8) (hdg : decode cc g.pc = .ok (.invokestatic index, 3)) (hf : cells + mc ≤ R.cells ∧ slots + ms ≤ R.slots) :
    vx_Run p l e R s m args below meth c H locs cells slots mc ms g rest (Qc As.toArray) XC free := by
  have hK : vx_Back l R p e below s args y 3 8 (PreOf R mc ms Pc) (PostOf Qc mc ms free) (vx_Post XC mc ms free) := vx_callBack cw.1 hM hp.1
  obtain ⟨⟨-, -, -, -, -, -, hcode, hini, hy, hlen, hl⟩, hstt⟩ := cw
  obtain ⟨hx, hb, hml, ho, -⟩ := S
  intro T hT X
  rcases vx_callS X hx (bytes := bytes) (maxL := maxL) (ret := ret) ho hl hstt hini hcode hy hK hg (hsize.trans hml.symm) (argsL := As) (rest := rest) (fun sig h => hn.trans (hlen sig h)) hstack hW (by rw [hb]; exact hdg)
    (fun vm₁ hW₁ => ⟨hf.1, hf.2, hp.2 (T.setVm vm₁) hT hW₁⟩) with ⟨v, vm₁, ⟨U', l2, c2, s2⟩, hW₁, X', ⟨g', mk, t, L, e1, e2, hq, h1, hL, h2, h3⟩, st⟩ | ⟨q, vm₁, ⟨U', l2, c2, s2⟩, hW₁, X', ⟨g', mk, t, L, E, ce, e1, e2, hq, hce, hcv, hcl, h1, hL, h2, h3⟩, st⟩
  · dsimp only [Pt.U, Pt.locs, Pt.cells, Pt.slots] at X' e1 e2 h1 h2 h3 st
    subst h1; subst h2; subst h3
    exact Or.inl ⟨v, (T.setVm vm₁).calling g' mk As.toArray, t, U', L, hT, X', hL, e1, e2, hq, st⟩
  · dsimp only [Pt.U, Pt.locs, Pt.cells, Pt.slots] at X' e1 e2 h1 h2 h3 st hcl
    subst h1; subst h2; subst h3
    exact Or.inr ⟨q, (T.setVm vm₁).calling g' mk As.toArray, t, U', L, E, ce, hT, X', hL, e1, e2, hq, hce, hcv, vx_cls hW₁ hcl, st⟩
end Runs
section Rows
variable {p : Program} {l : Launch} {e : Env} {R : Room} {s : State} {m : MethodId} {args : Array Value} {below : List Frame} {meth : Method} {c : Code} {H : Heap} {locs : List Loc} {cells slots : Nat} {Q : State → Prop}
variable {mc ms : Nat} {free : Addr → Prop} {A0 A1 : Nat → Prop} {H0 : Heap} {a : Array Value} {pc : Nat} {ls : Array Slot} {st0 rest : List Value}
theorem vx_keep {st₀ t T' : State} {L : List Loc} (h0 : st₀.heap = H) (e1 : T'.heap = t.heap) (hS : va_S A0 H0 H locs) (hA : ∀ q, q < H.size → A1 q → A0 q) (hf : ∀ q, free q → A0 q) (hL : ∀ q ∈ L, free q.base) (hF : va_F A1 st₀ t) :
    H.size ≤ T'.heap.size ∧ (∀ q : Nat, q < H.size → ¬ A1 q → T'.heap[q]? = H[q]?) ∧ va_S A0 H0 T'.heap (locs ++ L) := by
  obtain ⟨hz, hk⟩ := hF
  rw [h0] at hz hk
  exact ⟨by rw [e1]; exact hz, fun q h1 h2 => by rw [e1]; exact hk q h1 h2,
    ⟨Nat.le_trans hS.1 (by rw [e1]; exact hz), fun q h1 h2 => by rw [e1, hk q (Nat.lt_of_lt_of_le h1 hS.1) (fun z => h2 (hA q (Nat.lt_of_lt_of_le h1 hS.1) z))]; exact hS.2.1 q h1 h2, fun q hq => by
      rcases List.mem_append.mp hq with h | h
      · exact hS.2.2 q h
      · exact hf _ (hL q h)⟩⟩
theorem vx_calli {S SX : Type} {post : Int32 → S → Prop} {px : SX → Prop} {B : S → State → Prop} {BX : String → SX → State → Prop} {AX : Nat → Prop} (hr : vx_Run p l e R s m args below meth c H locs cells slots mc ms (F0 m pc ls st0) rest (va_Qi post B A1 a) (vx_X px BX AX) free) (hS : va_S A0 H0 H locs) (hA : ∀ q, q < H.size → A1 q → A0 q) (hf : ∀ q, free q → A0 q) (hAX : ∀ q, q < H.size → AX q → A0 q)
    (kx : ∀ (E : String) (ce : Cell) (q9 : Addr) (u : SX) (t : State) (H1 : Heap) (locs1 : List Loc), t.heap = H1 → s.vm.Alike t.vm → px u → BX E u t → H.size ≤ H1.size → (∀ q : Nat, q < H.size → ¬ AX q → H1[q]? = H[q]?) → va_S A0 H0 H1 locs1 → H1[q9]? = some ce → ce.vm = .none → s.vm.findClass E = some ce.cls → vx_W p l e R s m args below meth c H1 locs1 (cells + mc) (slots + ms) Q (F0 m pc ls rest) q9)
    (kk : ∀ (r : Int32) (u : S) (t : State) (H1 : Heap) (locs1 : List Loc), t.heap = H1 → s.vm.Alike t.vm → post r u → B u t → H.size ≤ H1.size → (∀ q : Nat, q < H.size → ¬ A1 q → H1[q]? = H[q]?) → va_S A0 H0 H1 locs1 → W p l e R s m args below meth c H1 locs1 (cells + mc) (slots + ms) Q (F0 m (pc + 3) ls (.int r :: rest))) : W p l e R s m args below meth c H locs cells slots Q (F0 m pc ls st0) := by
  intro T hT X
  rcases hr T hT X with ⟨v, st₀, t, T', L, h0, X', hL, e1, e2, ⟨⟨r, u, hv, hp, hb⟩, hF⟩, st⟩ | ⟨q, st₀, t, T', L, E, ce, h0, X', hL, e1, e2, ⟨u, hp, hb, hF⟩, hce, hcv, hcl, st⟩
  · cases hv
    obtain ⟨k1, k2, k3⟩ := vx_keep h0 e1 hS hA hf hL hF
    obtain ⟨t2, a1, b1⟩ := kk r u t T'.heap (locs ++ L) e1.symm (by rw [← e2]; exact X'.warmed.alike) hp hb k1 k2 k3 T' rfl X'
    exact ⟨t2, st t2 a1, b1⟩
  · obtain ⟨k1, k2, k3⟩ := vx_keep h0 e1 hS hAX hf hL hF
    obtain ⟨t2, a1, b1⟩ := kx E ce q u t T'.heap (locs ++ L) e1.symm (by rw [← e2]; exact X'.warmed.alike) hp hb k1 k2 k3 (by rw [e1]; exact hce) hcv hcl T' rfl X'
    exact ⟨t2, st.trans a1, b1⟩
theorem vx_calll {S SX : Type} {post : Int64 → S → Prop} {px : SX → Prop} {B : S → State → Prop} {BX : String → SX → State → Prop} {AX : Nat → Prop} (hr : vx_Run p l e R s m args below meth c H locs cells slots mc ms (F0 m pc ls st0) rest (va_Ql post B A1 a) (vx_X px BX AX) free) (hS : va_S A0 H0 H locs) (hA : ∀ q, q < H.size → A1 q → A0 q) (hf : ∀ q, free q → A0 q) (hAX : ∀ q, q < H.size → AX q → A0 q)
    (kx : ∀ (E : String) (ce : Cell) (q9 : Addr) (u : SX) (t : State) (H1 : Heap) (locs1 : List Loc), t.heap = H1 → s.vm.Alike t.vm → px u → BX E u t → H.size ≤ H1.size → (∀ q : Nat, q < H.size → ¬ AX q → H1[q]? = H[q]?) → va_S A0 H0 H1 locs1 → H1[q9]? = some ce → ce.vm = .none → s.vm.findClass E = some ce.cls → vx_W p l e R s m args below meth c H1 locs1 (cells + mc) (slots + ms) Q (F0 m pc ls rest) q9)
    (kk : ∀ (r : Int64) (u : S) (t : State) (H1 : Heap) (locs1 : List Loc), t.heap = H1 → s.vm.Alike t.vm → post r u → B u t → H.size ≤ H1.size → (∀ q : Nat, q < H.size → ¬ A1 q → H1[q]? = H[q]?) → va_S A0 H0 H1 locs1 → W p l e R s m args below meth c H1 locs1 (cells + mc) (slots + ms) Q (F0 m (pc + 3) ls (.long r :: rest))) : W p l e R s m args below meth c H locs cells slots Q (F0 m pc ls st0) := by
  intro T hT X
  rcases hr T hT X with ⟨v, st₀, t, T', L, h0, X', hL, e1, e2, ⟨⟨r, u, hv, hp, hb⟩, hF⟩, st⟩ | ⟨q, st₀, t, T', L, E, ce, h0, X', hL, e1, e2, ⟨u, hp, hb, hF⟩, hce, hcv, hcl, st⟩
  · cases hv
    obtain ⟨k1, k2, k3⟩ := vx_keep h0 e1 hS hA hf hL hF
    obtain ⟨t2, a1, b1⟩ := kk r u t T'.heap (locs ++ L) e1.symm (by rw [← e2]; exact X'.warmed.alike) hp hb k1 k2 k3 T' rfl X'
    exact ⟨t2, st t2 a1, b1⟩
  · obtain ⟨k1, k2, k3⟩ := vx_keep h0 e1 hS hAX hf hL hF
    obtain ⟨t2, a1, b1⟩ := kx E ce q u t T'.heap (locs ++ L) e1.symm (by rw [← e2]; exact X'.warmed.alike) hp hb k1 k2 k3 (by rw [e1]; exact hce) hcv hcl T' rfl X'
    exact ⟨t2, st.trans a1, b1⟩
theorem vx_callf {S SX : Type} {post : UInt32 → S → Prop} {px : SX → Prop} {B : S → State → Prop} {BX : String → SX → State → Prop} {AX : Nat → Prop} (hr : vx_Run p l e R s m args below meth c H locs cells slots mc ms (F0 m pc ls st0) rest (va_Qf post B A1 a) (vx_X px BX AX) free) (hS : va_S A0 H0 H locs) (hA : ∀ q, q < H.size → A1 q → A0 q) (hf : ∀ q, free q → A0 q) (hAX : ∀ q, q < H.size → AX q → A0 q)
    (kx : ∀ (E : String) (ce : Cell) (q9 : Addr) (u : SX) (t : State) (H1 : Heap) (locs1 : List Loc), t.heap = H1 → s.vm.Alike t.vm → px u → BX E u t → H.size ≤ H1.size → (∀ q : Nat, q < H.size → ¬ AX q → H1[q]? = H[q]?) → va_S A0 H0 H1 locs1 → H1[q9]? = some ce → ce.vm = .none → s.vm.findClass E = some ce.cls → vx_W p l e R s m args below meth c H1 locs1 (cells + mc) (slots + ms) Q (F0 m pc ls rest) q9)
    (kk : ∀ (r : UInt32) (u : S) (t : State) (H1 : Heap) (locs1 : List Loc), t.heap = H1 → s.vm.Alike t.vm → post r u → B u t → H.size ≤ H1.size → (∀ q : Nat, q < H.size → ¬ A1 q → H1[q]? = H[q]?) → va_S A0 H0 H1 locs1 → W p l e R s m args below meth c H1 locs1 (cells + mc) (slots + ms) Q (F0 m (pc + 3) ls (.float r :: rest))) : W p l e R s m args below meth c H locs cells slots Q (F0 m pc ls st0) := by
  intro T hT X
  rcases hr T hT X with ⟨v, st₀, t, T', L, h0, X', hL, e1, e2, ⟨⟨r, u, hv, hp, hb⟩, hF⟩, st⟩ | ⟨q, st₀, t, T', L, E, ce, h0, X', hL, e1, e2, ⟨u, hp, hb, hF⟩, hce, hcv, hcl, st⟩
  · cases hv
    obtain ⟨k1, k2, k3⟩ := vx_keep h0 e1 hS hA hf hL hF
    obtain ⟨t2, a1, b1⟩ := kk r u t T'.heap (locs ++ L) e1.symm (by rw [← e2]; exact X'.warmed.alike) hp hb k1 k2 k3 T' rfl X'
    exact ⟨t2, st t2 a1, b1⟩
  · obtain ⟨k1, k2, k3⟩ := vx_keep h0 e1 hS hAX hf hL hF
    obtain ⟨t2, a1, b1⟩ := kx E ce q u t T'.heap (locs ++ L) e1.symm (by rw [← e2]; exact X'.warmed.alike) hp hb k1 k2 k3 (by rw [e1]; exact hce) hcv hcl T' rfl X'
    exact ⟨t2, st.trans a1, b1⟩
theorem vx_calld {S SX : Type} {post : UInt64 → S → Prop} {px : SX → Prop} {B : S → State → Prop} {BX : String → SX → State → Prop} {AX : Nat → Prop} (hr : vx_Run p l e R s m args below meth c H locs cells slots mc ms (F0 m pc ls st0) rest (va_Qd post B A1 a) (vx_X px BX AX) free) (hS : va_S A0 H0 H locs) (hA : ∀ q, q < H.size → A1 q → A0 q) (hf : ∀ q, free q → A0 q) (hAX : ∀ q, q < H.size → AX q → A0 q)
    (kx : ∀ (E : String) (ce : Cell) (q9 : Addr) (u : SX) (t : State) (H1 : Heap) (locs1 : List Loc), t.heap = H1 → s.vm.Alike t.vm → px u → BX E u t → H.size ≤ H1.size → (∀ q : Nat, q < H.size → ¬ AX q → H1[q]? = H[q]?) → va_S A0 H0 H1 locs1 → H1[q9]? = some ce → ce.vm = .none → s.vm.findClass E = some ce.cls → vx_W p l e R s m args below meth c H1 locs1 (cells + mc) (slots + ms) Q (F0 m pc ls rest) q9)
    (kk : ∀ (r : UInt64) (u : S) (t : State) (H1 : Heap) (locs1 : List Loc), t.heap = H1 → s.vm.Alike t.vm → post r u → B u t → H.size ≤ H1.size → (∀ q : Nat, q < H.size → ¬ A1 q → H1[q]? = H[q]?) → va_S A0 H0 H1 locs1 → W p l e R s m args below meth c H1 locs1 (cells + mc) (slots + ms) Q (F0 m (pc + 3) ls (.double r :: rest))) : W p l e R s m args below meth c H locs cells slots Q (F0 m pc ls st0) := by
  intro T hT X
  rcases hr T hT X with ⟨v, st₀, t, T', L, h0, X', hL, e1, e2, ⟨⟨r, u, hv, hp, hb⟩, hF⟩, st⟩ | ⟨q, st₀, t, T', L, E, ce, h0, X', hL, e1, e2, ⟨u, hp, hb, hF⟩, hce, hcv, hcl, st⟩
  · cases hv
    obtain ⟨k1, k2, k3⟩ := vx_keep h0 e1 hS hA hf hL hF
    obtain ⟨t2, a1, b1⟩ := kk r u t T'.heap (locs ++ L) e1.symm (by rw [← e2]; exact X'.warmed.alike) hp hb k1 k2 k3 T' rfl X'
    exact ⟨t2, st t2 a1, b1⟩
  · obtain ⟨k1, k2, k3⟩ := vx_keep h0 e1 hS hAX hf hL hF
    obtain ⟨t2, a1, b1⟩ := kx E ce q u t T'.heap (locs ++ L) e1.symm (by rw [← e2]; exact X'.warmed.alike) hp hb k1 k2 k3 (by rw [e1]; exact hce) hcv hcl T' rfl X'
    exact ⟨t2, st.trans a1, b1⟩
theorem vx_callv {S SX : Type} {post : S → Prop} {px : SX → Prop} {B : S → State → Prop} {BX : String → SX → State → Prop} {AX : Nat → Prop} (hr : vx_Run p l e R s m args below meth c H locs cells slots mc ms (F0 m pc ls st0) rest (va_Qv post B A1 a) (vx_X px BX AX) free) (hS : va_S A0 H0 H locs) (hA : ∀ q, q < H.size → A1 q → A0 q) (hf : ∀ q, free q → A0 q) (hAX : ∀ q, q < H.size → AX q → A0 q)
    (kx : ∀ (E : String) (ce : Cell) (q9 : Addr) (u : SX) (t : State) (H1 : Heap) (locs1 : List Loc), t.heap = H1 → s.vm.Alike t.vm → px u → BX E u t → H.size ≤ H1.size → (∀ q : Nat, q < H.size → ¬ AX q → H1[q]? = H[q]?) → va_S A0 H0 H1 locs1 → H1[q9]? = some ce → ce.vm = .none → s.vm.findClass E = some ce.cls → vx_W p l e R s m args below meth c H1 locs1 (cells + mc) (slots + ms) Q (F0 m pc ls rest) q9)
    (kk : ∀ (u : S) (t : State) (H1 : Heap) (locs1 : List Loc), t.heap = H1 → s.vm.Alike t.vm → post u → B u t → H.size ≤ H1.size → (∀ q : Nat, q < H.size → ¬ A1 q → H1[q]? = H[q]?) → va_S A0 H0 H1 locs1 → W p l e R s m args below meth c H1 locs1 (cells + mc) (slots + ms) Q (F0 m (pc + 3) ls (rest))) : W p l e R s m args below meth c H locs cells slots Q (F0 m pc ls st0) := by
  intro T hT X
  rcases hr T hT X with ⟨v, st₀, t, T', L, h0, X', hL, e1, e2, ⟨⟨u, hv, hp, hb⟩, hF⟩, st⟩ | ⟨q, st₀, t, T', L, E, ce, h0, X', hL, e1, e2, ⟨u, hp, hb, hF⟩, hce, hcv, hcl, st⟩
  · cases hv
    obtain ⟨k1, k2, k3⟩ := vx_keep h0 e1 hS hA hf hL hF
    obtain ⟨t2, a1, b1⟩ := kk u t T'.heap (locs ++ L) e1.symm (by rw [← e2]; exact X'.warmed.alike) hp hb k1 k2 k3 T' rfl X'
    exact ⟨t2, st t2 a1, b1⟩
  · obtain ⟨k1, k2, k3⟩ := vx_keep h0 e1 hS hAX hf hL hF
    obtain ⟨t2, a1, b1⟩ := kx E ce q u t T'.heap (locs ++ L) e1.symm (by rw [← e2]; exact X'.warmed.alike) hp hb k1 k2 k3 (by rw [e1]; exact hce) hcv hcl T' rfl X'
    exact ⟨t2, st.trans a1, b1⟩
/-- caught by the row x of this method's table; the rows ahead don't take it -/
theorem vx_catch {own name : String} {E : String} {ce : Cell} {q : Addr} (hown : s.vm.findClass own = some m.cls) (pre : List ExceptionTableEntry) (x : ExceptionTableEntry) (suf : List ExceptionTableEntry) (hsplit : c.exceptionTable.toList = pre ++ x :: suf)
    (hpass : ∀ z ∈ pre, covers z pc = false ∨ (z.catchType ≠ 0 ∧ ∃ nm : String, (Cond.classLink own z.catchType nm).before args s = true ∧ va_Nc E nm s)) (hx : covers x pc = true) (h0 : x.catchType ≠ 0)
    (hlink : (Cond.classLink own x.catchType name).before args s = true) (hcast : (Cond.castable E name).before args s = true) (hcell : H[q]? = some ce) (hv : ce.vm = .none) (hcl : s.vm.findClass E = some ce.cls)
    (kk : W p l e R s m args below meth c H locs cells slots Q (F0 m x.handlerPc ls [.ref q])) : vx_W p l e R s m args below meth c H locs cells slots Q (F0 m pc ls rest) q := by
  intro T hT X
  have hpl : e.platform.magicAccessors = ({} : Platform).magicAccessors := by rw [X.admits.platform]
  obtain ⟨c3, c4, hc3, hc4, hasg⟩ := Cond.castable_spec hcast
  cases Option.some.inj (hc3.symm.trans hcl)
  obtain ⟨c5, hc5, hcl5⟩ := Cond.classLink_spec hown hlink e.platform hpl
  cases Option.some.inj (hc4.symm.trans hc5)
  obtain ⟨vm', X', st⟩ := X.thenCaughtThrough q (g := F0 m pc ls rest) rfl (Steps.refl _) (by rw [hT]; exact hcell) (by rw [hv]; rfl) (by obtain ⟨k9, h9, -⟩ := Vm.findClass_spec hcl; exact ⟨k9, h9⟩) pre x suf hsplit
    (fun z hz => by
      rcases hpass z hz with h | ⟨hz0, nm, hl1, hn1⟩
      · exact Or.inl h
      · obtain ⟨c6, hc6, hcl6⟩ := Cond.classLink_spec hown hl1 e.platform hpl
        obtain ⟨a8, b8, h1, h2, h3⟩ := hn1
        cases Option.some.inj (h1.symm.trans hcl)
        cases Option.some.inj (h2.symm.trans hc6)
        exact Or.inr ⟨hz0, _, hcl6, h3⟩) hx (Or.inr ⟨h0, c4, hcl5, hasg⟩)
  obtain ⟨t, a1, b1⟩ := kk (T.setVm vm') hT X'
  exact ⟨t, st.trans a1, b1⟩
end Rows
section Ends
variable {p : Program} {l : Launch} {e : Env} {R : Room} {s : State} {m : MethodId} {args : Array Value} {below : List Frame} {meth : Method} {c : Code} {H : Heap} {locs : List Loc} {cells slots : Nat} {Q : State → Prop}
variable {mc ms : Nat} {free : Addr → Prop} {A0 A1 : Nat → Prop} {H0 : Heap} {a : Array Value} {ls : Array Slot} {st0 rest : List Value}
variable {Qc : Array Value → State → Outcome → State → Prop} {XC : String → State → State → Prop}
/-- what a body that may throw owes at its end -/
def vx_MQ (below : List Frame) (Qc : Array Value → State → Outcome → State → Prop) (XC : String → State → State → Prop) (a : Array Value) (s : State) (mc ms : Nat) (free : Addr → Prop) : State → Prop := fun t =>
  ∃ o, t.status = .running ∧ Ended t below o ∧ vx_Q Qc XC mc ms free a s o t
theorem vx_ret {g : JFrame} {mc ms : Nat} (k : W p l e R s m args below meth c H locs cells slots (MQ below Qc args s mc ms free) g) : W p l e R s m args below meth c H locs cells slots (vx_MQ below Qc XC args s mc ms free) g := by
  intro T hT X
  obtain ⟨t, a1, o, b1, b2, b3, b4⟩ := k T hT X
  exact ⟨t, a1, o, b1, b2, Or.inl ⟨b3, b4⟩⟩
/-- not caught here: it goes on to the caller -/
theorem vx_widen {g : JFrame} {q : Addr} {k n : Nat} (h1 : cells ≤ k) (h2 : slots ≤ n) (kk : vx_W p l e R s m args below meth c H locs k n Q g q) : vx_W p l e R s m args below meth c H locs cells slots Q g q := fun T hT X => kk T hT (stand_widen X h1 h2)
theorem vx_out {pc : Nat} {E : String} {ce : Cell} {q : Addr} {mc ms : Nat} (hout : ∀ x ∈ c.exceptionTable.toList, covers x pc = false) (hlocks : meth.locks = false) (hcell : H[q]? = some ce) (hv : ce.vm = .none) (hcl : s.vm.findClass E = some ce.cls)
    (hx : ∀ t : State, t.heap = H → s.vm.Alike t.vm → XC E s t) (hf : ∀ z ∈ locs, free z.base) (hc : cells ≤ mc) (hs : slots ≤ ms) :
    vx_W p l e R s m args below meth c H locs cells slots (vx_MQ below Qc XC args s mc ms free) (F0 m pc ls rest) q := by
  intro T hT X
  obtain ⟨st1, hrun, hend, hW, hsm⟩ := X.leaveThrown q (g := F0 m pc ls rest) rfl rfl rfl hout hlocks
  have hcell9 : (T.setFrames (.throwing q :: below)).heap[q]? = some ce := by
    show T.heap[q]? = some ce
    rw [hT]; exact hcell
  exact ⟨_, st1, .threw q, hrun, hend, Or.inr ⟨q, rfl, E, ce, locs, hx _ hT hW.alike, hcell9, hv, hcl, hW, hsm.mono hc hs, hf⟩⟩
theorem vx_frame {U : State} {k n : Nat} (h : s.sameButNew ({ U with vm := s.vm } : State) locs k n) : s.heap.size ≤ U.heap.size ∧ ∀ q : Nat, q < s.heap.size → (∀ z ∈ locs, z.base ≠ q) → U.heap[q]? = s.heap[q]? := by
  obtain ⟨-, h2, -, -, -, h6⟩ := h
  refine ⟨h2, fun q hq hz => ?_⟩
  obtain ⟨c9, e1, e2, e3, e4⟩ := h6 q _ (Array.getElem?_eq_getElem hq)
  have hs : c9.slots = (s.heap[q]).slots := Array.ext_getElem? fun i => e4 i fun hm => hz _ hm rfl
  have h9 : c9 = s.heap[q] := by
    rw [hs] at e2
    exact e2
  have e5 : U.heap[q]? = some c9 := e1
  rw [e5, h9, Array.getElem?_eq_getElem hq]
/-- the words of a throw but the four that speak of the heap -/
def vx_no (w : Cond) : Bool := decide (w ≠ .isRef (.static Bundle.tN "UNASSIGNED_STACK" Bundle.steD)) && decide (w ≠ .isRef (.static Bundle.tN "SUPPRESSED_SENTINEL" Bundle.listD)) && decide (w ≠ .laysStatic Bundle.tN "UNASSIGNED_STACK" Bundle.steD) && decide (w ≠ .laysStatic Bundle.tN "SUPPRESSED_SENTINEL" Bundle.listD)
def vx_at0 (own : String) (ic : Nat) (X : String) (names : List String) : List Cond := (Bundle.ownAtoms0 own ic X names).filter vx_no
def vx_atS (own : String) (ic : Nat) (X : String) (names : List String) : List Cond := (Bundle.ownAtoms own ic X names).filter vx_no
/-- a word that the tables alone decide, or a good one -/
def vx_ot (w : Cond) : Bool := w.onTables || goodWord w
theorem vx_ot_at {args a' : Array Value} {s U : State} {w : Cond} (hW : s.WarmedH U.vm) (hvm : s.vm = U.vm) (hg : vx_ot w = true) (h : w.before args s = true) : w.before a' U = true := by
  simp only [vx_ot, Bool.or_eq_true] at hg
  rcases hg with hg | hg
  · exact va_tabs hg hvm h
  · exact word_at hW (good_of_word hg) h
/-- a list's words: the good ones out of the method's own list, the others by premises of their own -/
theorem vx_hat {args : Array Value} {s : State} {L B : List Cond} (h1 : ∀ w ∈ L.filter goodWord, w.before args s = true) (h2 : ∀ w ∈ L.filter (fun w => !goodWord w), w ∈ B) (h3 : ∀ w ∈ B, w.before args s = true) : ∀ w ∈ L, w.before args s = true := by
  intro w hw
  by_cases g : goodWord w = true
  · exact h1 w (List.mem_filter.mpr ⟨hw, g⟩)
  · refine h3 w (h2 w (List.mem_filter.mpr ⟨hw, ?_⟩))
    show (!goodWord w) = true
    cases hgw : goodWord w
    · rfl
    · exact absurd hgw g
theorem vx_c {args : Array Value} {s : State} {w : Cond} {B : List Cond} (h : w.before args s = true) (t : ∀ w ∈ B, w.before args s = true) : ∀ w' ∈ w :: B, w'.before args s = true := fun w' h' => (List.mem_cons.mp h').elim (fun e => by rw [e]; exact h) (t w')
theorem vx_n {args : Array Value} {s : State} : ∀ w ∈ ([] : List Cond), w.before args s = true := fun _ h => nomatch h
theorem vx_own {args : Array Value} {s : State} {L : List Cond} (h1 : ∀ w ∈ L.filter vx_no, w.before args s = true)
    (hU : (Cond.isRef (.static Bundle.tN "UNASSIGNED_STACK" Bundle.steD)).before args s = true) (hN : (Cond.isRef (.static Bundle.tN "SUPPRESSED_SENTINEL" Bundle.listD)).before args s = true)
    (lU : (Cond.laysStatic Bundle.tN "UNASSIGNED_STACK" Bundle.steD).before args s = true) (lN : (Cond.laysStatic Bundle.tN "SUPPRESSED_SENTINEL" Bundle.listD).before args s = true) : ∀ w ∈ L, w.before args s = true := by
  intro w hw
  by_cases e1 : w = .isRef (.static Bundle.tN "UNASSIGNED_STACK" Bundle.steD)
  · rw [e1]; exact hU
  · by_cases e2 : w = .isRef (.static Bundle.tN "SUPPRESSED_SENTINEL" Bundle.listD)
    · rw [e2]; exact hN
    · by_cases e3 : w = .laysStatic Bundle.tN "UNASSIGNED_STACK" Bundle.steD
      · rw [e3]; exact lU
      · by_cases e4 : w = .laysStatic Bundle.tN "SUPPRESSED_SENTINEL" Bundle.listD
        · rw [e4]; exact lN
        · exact h1 w (List.mem_filter.mpr ⟨hw, by unfold vx_no; rw [decide_eq_true e1, decide_eq_true e2, decide_eq_true e3, decide_eq_true e4]; rfl⟩)
/-- where a static field lies, its class's statics cell in H -/
def vx_L (C n d : String) (A : Nat → Prop) (U : State) (H : Heap) : Prop := ∃ (c : ClassId) (k : Class) (i : Nat) (f : Field) (a : Nat) (cell : Cell), U.vm.findClass C = some c ∧ U.fieldFound? C n d = some (c, k, i, f) ∧ f.isStatic = true ∧ k.statics = some a ∧ H[a]? = some cell ∧ cell.vm.isStatics = true ∧ cell.cls = c ∧ f.slot < cell.slots.size ∧ k.staticTypes[f.slot]? = some f.type ∧ ¬ A a
theorem vx_L.moved {C n d : String} {A : Nat → Prop} {u U : State} {H : Heap} (hvm : u.vm.Alike U.vm) (h : vx_L C n d A u H) : vx_L C n d A U H := by
  obtain ⟨c, k, i, f, a, cell, h1, h2, h3, h4, h5, h6, h7, h8, h9, h10⟩ := h
  obtain ⟨k', hi', he⟩ := State.fieldFound?_setVm hvm h2
  exact ⟨c, k', i, f, a, cell, by rw [hvm.findClass]; exact h1, hi', h3, by rw [he]; exact h4, h5, h6, h7, h8, by rw [he]; exact h9, h10⟩
theorem vx_L.kept {C n d : String} {A : Nat → Prop} {U : State} {H H1 : Heap} (h : vx_L C n d A U H) (hq : ∀ a : Nat, a < H.size → ¬ A a → H1[a]? = H[a]?) : vx_L C n d A U H1 := by
  obtain ⟨c, k, i, f, a, cell, h1, h2, h3, h4, h5, h6, h7, h8, h9, h10⟩ := h
  exact ⟨c, k, i, f, a, cell, h1, h2, h3, h4, by rw [hq a (Array.getElem?_eq_some_iff.mp h5).1 h10]; exact h5, h6, h7, h8, h9, h10⟩
theorem vx_L.narrow {C n d : String} {A B : Nat → Prop} {U : State} {H : Heap} (h : vx_L C n d A U H) (hAB : ∀ q, B q → A q) : vx_L C n d B U H := by
  obtain ⟨c, k, i, f, a, cell, h1, h2, h3, h4, h5, h6, h7, h8, h9, h10⟩ := h
  exact ⟨c, k, i, f, a, cell, h1, h2, h3, h4, h5, h6, h7, h8, h9, fun z => h10 (hAB _ z)⟩
theorem vx_L.word {C n d : String} {A : Nat → Prop} {s : State} {args : Array Value} (h : vx_L C n d A s s.heap) : (Cond.laysStatic C n d).before args s = true := by
  obtain ⟨c, k, i, f, a, cell, h1, h2, h3, h4, h5, h6, h7, h8, h9, -⟩ := h
  show (Cond.laysStatic C n d).holds args s none s [] = true
  exact Cond.laysStatic_of h1 h2 h3 h4 h5 h6 h7 h8 h9
/-- .. and what it holds: null or some reference -/
def vx_Zq (C n d : String) (A : Nat → Prop) (U : State) (H : Heap) : Prop := va_Zq C n d A U H ∧ vx_L C n d A U H
theorem vx_Zq.moved {C n d : String} {A : Nat → Prop} {u U : State} {H : Heap} (hvm : u.vm.Alike U.vm) (h : vx_Zq C n d A u H) : vx_Zq C n d A U H := ⟨va_Zq.moved hvm h.1, vx_L.moved hvm h.2⟩
theorem vx_Zq.kept {C n d : String} {A : Nat → Prop} {U : State} {H H1 : Heap} (h : vx_Zq C n d A U H) (hq : ∀ a : Nat, a < H.size → ¬ A a → H1[a]? = H[a]?) : vx_Zq C n d A U H1 := ⟨va_Zq.kept h.1 hq, vx_L.kept h.2 hq⟩
theorem vx_Zq.narrow {C n d : String} {A B : Nat → Prop} {U : State} {H : Heap} (h : vx_Zq C n d A U H) (hAB : ∀ q, B q → A q) : vx_Zq C n d B U H := ⟨va_Zq.narrow h.1 hAB, vx_L.narrow h.2 hAB⟩
theorem vx_Zqof {args : Array Value} {s : State} {C n d : String} {A : Nat → Prop} (hl : (Cond.laysStatic C n d).before args s = true) (hini : (Cond.initialized C).before args s = true) (h : (Cond.isRef (.static C n d)).before args s = true) (hA : ∀ a : Nat, a < s.heap.size → ¬ A a) : vx_Zq C n d A s s.heap := by
  refine ⟨va_Zqof hl hini h hA, ?_⟩
  obtain ⟨c, k, i, f, a, cell, h1, h2, h3, h4, h5, h6, h7, h8, h9⟩ := Cond.laysStatic_spec hl
  exact ⟨c, k, i, f, a, cell, h1, h2, h3, h4, h5, h6, h7, h8, h9, hA a (Array.getElem?_eq_some_iff.mp h5).1⟩
theorem vx_isRef {C n d : String} {v : Value} {A : Nat → Prop} {s : State} {args : Array Value} (h : va_Z C n d v A s s.heap) (hv : v.isRef = true) : (Cond.isRef (.static C n d)).before args s = true := by
  obtain ⟨cf, kf, fi, f, a, cell, h1, h2, h3, h4, h5, h6, h7, -⟩ := h
  have he : (Term.static C n d).eval args s none [] s = some v := by
    simp [Term.eval, State.fieldNamed?, h1, h2, h4, h5, h6, h7]
  simp only [Cond.before, Cond.holds, Cond.value, he]
  cases v <;> simp_all [Value.isRef]
theorem vx_isRefq {C n d : String} {A : Nat → Prop} {s : State} {args : Array Value} (h : va_Zq C n d A s s.heap) : (Cond.isRef (.static C n d)).before args s = true := by
  rcases h with h | ⟨t, h⟩
  · exact vx_isRef h rfl
  · exact vx_isRef h rfl
/-- the same frame, seen from here: as if the method were called anew in this heap -/
theorem vx_rebase {T : State} (X : Stand p l e R s m args below meth c T locs cells slots) {R' : Room} (hf : R'.frames ≤ R.frames) (hl : R'.locals ≤ R.locals) (hc : cells + R'.cells ≤ R.cells) (hs : slots + R'.slots ≤ R.slots) :
    Stand p l e R' ((T.setVm s.vm).setFrames (.invoking m args :: below)) m args below meth c T [] 0 0 := by
  have htop : (T.setVm s.vm).topJava?.isSome := X.here.top
  have hF : ((T.setVm s.vm).setFrames (.invoking m args :: below)).frames = .invoking m args :: below := State.frames_setFrames _ (State.cur_lt_of_top htop)
  obtain ⟨g₀, hg0⟩ := Option.isSome_iff_exists.mp htop
  obtain ⟨r, hr⟩ := State.topJava?_eq_some.mp hg0
  have hl9 : e.platform.stackLimits (T.setVm s.vm).me = e.platform.stackLimits s.me := X.limits
  have hb9 : (T.setVm s.vm).me.stackBytes = s.me.stackBytes := X.bytes
  refine ⟨X.admits, X.cas, X.clock, hF, ?_, X.hears, X.method, X.code, X.here, X.tail, X.warmed, ?_, ?_, ?_⟩
  · have h := X.room
    have hU : ((T.setVm s.vm).setFrames (.invoking m args :: below)).localsInUse = s.localsInUse := by
      rw [State.localsInUse_invoking hF (meth := meth) (c := c) X.method X.code, State.localsInUse_invoking X.frames X.method X.code]
    simp only [State.hasRoom, Bool.and_eq_true, decide_eq_true_eq] at h ⊢
    obtain ⟨⟨⟨⟨h1, h2, h3, h4, h5, h6⟩, h7⟩, h8⟩, h9⟩ := h
    rw [X.frames, List.length_cons] at h2 h3
    have q1 := X.heapSize
    have q2 := X.used
    simp only [hF, hU, List.length_cons, State.stackLimits_setFrames, State.stackBytes_setFrames, hl9, hb9]
    refine ⟨⟨⟨⟨by omega, by omega, by omega, by omega, by omega, h6⟩, ?_⟩, ?_⟩, X.book⟩
    · show T.heap.size + R'.cells ≤ e.platform.maxCells
      omega
    · show T.slotsUsed + R'.slots ≤ e.platform.maxSlots
      omega
  · rw [State.stackLimits_setFrames]; rfl
  · rw [State.stackBytes_setFrames]; rfl
  · refine ⟨?_, Nat.le_refl _, Nat.le_refl _, ?_, ?_, fun a c9 h9 => ⟨c9, h9, rfl, rfl, fun _ _ => rfl⟩⟩
    · obtain ⟨t, ht, -⟩ := State.frames_cons hr
      show T.setVm s.vm = { ((T.setVm s.vm).setFrames (.invoking m args :: below)).setFrames (T.setVm s.vm).frames with heap := T.heap, slotsUsed := T.slotsUsed }
      rw [State.setFrames_setFrames, State.setFrames_self ht]
      rfl
    · show T.slotsUsed = T.slotsUsed + ((T.heap.toList.drop T.heap.size).map (·.slots.size)).sum
      rw [List.drop_eq_nil_of_le (Nat.le_of_eq Array.length_toList)]
      rfl
    · show ((T.heap.toList.drop T.heap.size).map (·.slots.size)).sum ≤ 0
      rw [List.drop_eq_nil_of_le (Nat.le_of_eq Array.length_toList)]
      exact Nat.le_refl _
/-- 'throw new E()': new; dup; invokespecial; athrow -/
theorem vx_throw0 {cc : ByteArray} {pc : Nat} (hexec : p.tables.exec = Jvm.exec) (hb : c.code = cc) (hl : l.stackTraces = false) {own cls : String} {names : List String} {ik ic mc ms : Nat} {A : Nat → Prop}
    (hown : s.vm.findClass own = some m.cls) (hcls : Bundle.fit cls = true) (hnames : ∀ n ∈ names, Bundle.fit n = true)
    (hk : (Cond.classLink own ik cls).before args s = true) (hini : (Cond.initialized cls).before args s = true) (hat : ∀ w ∈ vx_at0 own ic cls names, w.before args s = true)
    (hgood : ∀ w ∈ Cond.classLink own ik cls :: Cond.initialized cls :: vx_at0 own ic cls names, vx_ot w = true)
    (hU : vx_Zq Bundle.tN "UNASSIGNED_STACK" Bundle.steD A s s.heap) (hN : vx_Zq Bundle.tN "SUPPRESSED_SENTINEL" Bundle.listD A s s.heap) (hS : va_S A s.heap H locs) (hsize : ls.size = c.maxLocals)
    (d0 : decode cc pc = .ok (.new ik, 3)) (d3 : decode cc (pc + 3) = .ok (.dup, 1)) (d4 : decode cc (pc + 4) = .ok (.invokespecial ic, 3)) (d7 : decode cc (pc + 7) = .ok (.athrow, 1))
    (hout : ∀ x ∈ c.exceptionTable.toList, covers x (pc + 7) = false)
    (hRframes : names.length + 3 < R.frames) (hRlocals : (rest.map fun v => v.category).sum + (13 * (names.length + 1) + 42) ≤ R.locals) (hRcells : cells + 1 ≤ R.cells) (hRslots : slots + 6 ≤ R.slots) (hlocks : meth.locks = false)
    (hx : ∀ t : State, s.vm.Alike t.vm → H.size ≤ t.heap.size → (∀ q : Nat, q < H.size → t.heap[q]? = H[q]?) → XC cls s t)
    (hf : ∀ z ∈ locs, free z.base) (hc : cells + 1 ≤ mc) (hs : slots + 6 ≤ ms) :
    W p l e R s m args below meth c H locs cells slots (vx_MQ below Qc XC args s mc ms free) (F0 m pc ls rest) := by
  intro T hT X
  have htr : e.platform.stackTraces = false := (show e.platform.stackTraces = l.stackTraces by rw [X.admits.platform]).trans hl
  have Y := vx_rebase X (R' := { frames := R.frames, locals := R.locals, cells := 1, slots := 6 }) (Nat.le_refl _) (Nat.le_refl _) hRcells hRslots
  obtain ⟨s', hA⟩ : ∃ z, z = (T.setVm s.vm).setFrames (.invoking m args :: below) := ⟨_, rfl⟩
  rw [← hA] at Y
  have hvm : s'.vm = s.vm := by rw [hA]; rfl
  have hhp : s'.heap = H := by rw [hA]; exact hT
  have hW0 : s.WarmedH s'.vm := by rw [hvm]; exact State.WarmedH.refl s
  have hat' : ∀ w ∈ vx_at0 own ic cls names, w.before args s' = true := fun w hw => vx_ot_at hW0 hvm.symm (hgood w (List.mem_cons_of_mem _ (List.mem_cons_of_mem _ hw))) (hat w hw)
  have hk' : (Cond.classLink own ik cls).before args s' = true := vx_ot_at hW0 hvm.symm (hgood _ List.mem_cons_self) hk
  have hini' : (Cond.initialized cls).before args s' = true := vx_ot_at hW0 hvm.symm (hgood _ (List.mem_cons_of_mem _ List.mem_cons_self)) hini
  have hU' : vx_Zq Bundle.tN "UNASSIGNED_STACK" Bundle.steD A s' s'.heap := by rw [hhp]; exact vx_Zq.moved hW0.alike (hU.kept hS.2.1)
  have hN' : vx_Zq Bundle.tN "SUPPRESSED_SENTINEL" Bundle.listD A s' s'.heap := by rw [hhp]; exact vx_Zq.moved hW0.alike (hN.kept hS.2.1)
  have h : ∀ w ∈ Bundle.ownAtoms0 own ic cls names, w.before args s' = true := vx_own hat' (vx_isRefq hU'.1) (vx_isRefq hN'.1) hU'.2.word hN'.2.word
  have hown' : s'.vm.findClass own = some m.cls := by rw [hvm]; exact hown
  have hins : (Cond.instantiable cls 6).before args s' = true := h _ (by simp [Bundle.ownAtoms0])
  obtain ⟨vm₁, cX, kX, hfX, hkX, -, -, X₁, st1⟩ := Y.newCold hexec (own := own) (C := cls) (index := ik) (n := 6) hown' hk' hins hini'
    (g := F0 m pc ls rest) rfl (by rw [hb]; exact d0) (Nat.le_refl _) (Nat.le_refl _)
  generalize hT1 : (T.setVm vm₁).pushCell { cls := cX, slots := kX.instanceTypes.map defaultValue, vm := .none } = T1 at X₁ st1
  have hcat : (Value.ref T.heap.size).category = 1 := rfl
  have hcellA : T1.heap[T.heap.size]? = some (freshCell cX kX) := by rw [← hT1]; exact State.heap_pushCell_size _ _
  have d3' : decode c.code (pc + 3) = .ok (.dup, 1) := by rw [hb]; exact d3
  obtain ⟨U, hsteps, hrun, hend, hW, hsame, ce, hce, hO⟩ := X₁.ctorThrow0 hexec htr (own := own) (cls := cls) (names := names) (ic := ic) hown' hcls hnames h (fun x hx => nomatch hx) hfX hkX hcellA (by rw [hhp, hT]; exact Nat.le_refl _)
    (g := { method := m, pc := pc + 4, locals := ls, stack := .ref T.heap.size :: .ref T.heap.size :: rest, locked := none }) rfl hsize rfl rfl (rest := rest) rfl
    (by rw [hb]; exact d4) (by rw [hb]; exact d7) hout hRframes (by simp only [List.map_cons, List.sum_cons, hcat]; omega) hlocks
  obtain ⟨f1, f2⟩ := vx_frame hsame
  rw [hhp] at f1 f2
  have hWs : s.WarmedH U.vm := State.WarmedH.trans hW0 hW
  have hcl : s.vm.findClass cls = some ce.cls := by
    have h9 := hO.cls
    rw [hvm] at h9
    exact h9
  have hall : s.sameButNew ({ U with vm := s.vm } : State) locs mc ms := by
    subst hA
    obtain ⟨e1, e2⟩ := hsame
    rw [State.setFrames_setFrames] at e1
    have h2 : (T.setVm s.vm).sameButNew ({ U with vm := s.vm } : State) [] (0 + 1) (0 + 6) := ⟨e1, e2⟩
    have h3 := X.same.trans h2
    rw [List.append_nil] at h3
    exact h3.mono hc hs
  refine ⟨U, ?_, .threw T.heap.size, hrun, hend, Or.inr ⟨T.heap.size, rfl, cls, ce, locs, hx U hWs.alike f1 (fun q hq => f2 q hq (fun z hz => nomatch hz)), hce, hO.vm, hcl, hWs, hall, hf⟩⟩
  refine st1 _ ?_
  show Steps p.tables e below (T1.setTop { method := m, pc := pc + 3, locals := ls, stack := .ref T.heap.size :: rest, locked := none }) _
  jvm_step X₁.here [X₁.here.top, hexec, d3', Value.category]
  exact hsteps
/-- 'throw new E("text")': new; dup; ldc; invokespecial; athrow -/
theorem vx_throwS {cc : ByteArray} {pc : Nat} (hexec : p.tables.exec = Jvm.exec) (hb : c.code = cc) (hl : l.stackTraces = false) {own cls text : String} {names : List String} {ik is ic mc ms sa : Nat} {A : Nat → Prop}
    (hown : s.vm.findClass own = some m.cls) (hcls : Bundle.fit cls = true) (hnames : ∀ n ∈ names, Bundle.fit n = true)
    (hk : (Cond.classLink own ik cls).before args s = true) (hini : (Cond.initialized cls).before args s = true) (hstr : vk_R own is text sa s) (hat : ∀ w ∈ vx_atS own ic cls names, w.before args s = true)
    (hgood : ∀ w ∈ Cond.classLink own ik cls :: Cond.initialized cls :: vx_atS own ic cls names, vx_ot w = true)
    (hU : vx_Zq Bundle.tN "UNASSIGNED_STACK" Bundle.steD A s s.heap) (hN : vx_Zq Bundle.tN "SUPPRESSED_SENTINEL" Bundle.listD A s s.heap) (hS : va_S A s.heap H locs) (hsize : ls.size = c.maxLocals)
    (d0 : decode cc pc = .ok (.new ik, 3)) (d3 : decode cc (pc + 3) = .ok (.dup, 1)) (d4 : decode cc (pc + 4) = .ok (.ldc is, 2)) (d6 : decode cc (pc + 6) = .ok (.invokespecial ic, 3)) (d9 : decode cc (pc + 9) = .ok (.athrow, 1))
    (hout : ∀ x ∈ c.exceptionTable.toList, covers x (pc + 9) = false)
    (hRframes : names.length + 3 < R.frames) (hRlocals : (rest.map fun v => v.category).sum + (13 * (names.length + 1) + 43) ≤ R.locals) (hRcells : cells + 1 ≤ R.cells) (hRslots : slots + 6 ≤ R.slots) (hlocks : meth.locks = false)
    (hx : ∀ t : State, s.vm.Alike t.vm → H.size ≤ t.heap.size → (∀ q : Nat, q < H.size → t.heap[q]? = H[q]?) → XC cls s t)
    (hf : ∀ z ∈ locs, free z.base) (hc : cells + 1 ≤ mc) (hs : slots + 6 ≤ ms) :
    W p l e R s m args below meth c H locs cells slots (vx_MQ below Qc XC args s mc ms free) (F0 m pc ls rest) := by
  intro T hT X
  have htr : e.platform.stackTraces = false := (show e.platform.stackTraces = l.stackTraces by rw [X.admits.platform]).trans hl
  have Y := vx_rebase X (R' := { frames := R.frames, locals := R.locals, cells := 1, slots := 6 }) (Nat.le_refl _) (Nat.le_refl _) hRcells hRslots
  obtain ⟨s', hA⟩ : ∃ z, z = (T.setVm s.vm).setFrames (.invoking m args :: below) := ⟨_, rfl⟩
  rw [← hA] at Y
  have hvm : s'.vm = s.vm := by rw [hA]; rfl
  have hhp : s'.heap = H := by rw [hA]; exact hT
  have hW0 : s.WarmedH s'.vm := by rw [hvm]; exact State.WarmedH.refl s
  have hat' : ∀ w ∈ vx_atS own ic cls names, w.before args s' = true := fun w hw => vx_ot_at hW0 hvm.symm (hgood w (List.mem_cons_of_mem _ (List.mem_cons_of_mem _ hw))) (hat w hw)
  have hk' : (Cond.classLink own ik cls).before args s' = true := vx_ot_at hW0 hvm.symm (hgood _ List.mem_cons_self) hk
  have hini' : (Cond.initialized cls).before args s' = true := vx_ot_at hW0 hvm.symm (hgood _ (List.mem_cons_of_mem _ List.mem_cons_self)) hini
  have hU' : vx_Zq Bundle.tN "UNASSIGNED_STACK" Bundle.steD A s' s'.heap := by rw [hhp]; exact vx_Zq.moved hW0.alike (hU.kept hS.2.1)
  have hN' : vx_Zq Bundle.tN "SUPPRESSED_SENTINEL" Bundle.listD A s' s'.heap := by rw [hhp]; exact vx_Zq.moved hW0.alike (hN.kept hS.2.1)
  have h : ∀ w ∈ Bundle.ownAtoms own ic cls names, w.before args s' = true := vx_own hat' (vx_isRefq hU'.1) (vx_isRefq hN'.1) hU'.2.word hN'.2.word
  have hown' : s'.vm.findClass own = some m.cls := by rw [hvm]; exact hown
  have hins : (Cond.instantiable cls 6).before args s' = true := h _ (by simp [Bundle.ownAtoms])
  obtain ⟨vm₁, cX, kX, hfX, hkX, -, -, X₁, st1⟩ := Y.newCold hexec (own := own) (C := cls) (index := ik) (n := 6) hown' hk' hins hini'
    (g := F0 m pc ls rest) rfl (by rw [hb]; exact d0) (Nat.le_refl _) (Nat.le_refl _)
  generalize hT1 : (T.setVm vm₁).pushCell { cls := cX, slots := kX.instanceTypes.map defaultValue, vm := .none } = T1 at X₁ st1
  have hcat : (Value.ref T.heap.size).category = 1 := rfl
  have hcellA : T1.heap[T.heap.size]? = some (freshCell cX kX) := by rw [← hT1]; exact State.heap_pushCell_size _ _
  have d3' : decode c.code (pc + 3) = .ok (.dup, 1) := by rw [hb]; exact d3
  have d4' : decode c.code (pc + 4) = .ok (.ldc is, 2) := by rw [hb]; exact d4
  have hstr' : vk_R own is text sa s' := vk_R.warm hW0 hstr
  obtain ⟨U, hsteps, hrun, hend, hW, hsame, ce, hce, hO⟩ := X₁.ctorThrowS hexec htr (own := own) (cls := cls) (names := names) (ic := ic) hown' hcls hnames h (fun x hx => nomatch hx) hfX hkX hcellA (by rw [hhp, hT]; exact Nat.le_refl _) (msg := .ref sa) rfl
    (g := { method := m, pc := pc + 6, locals := ls, stack := .ref sa :: .ref T.heap.size :: .ref T.heap.size :: rest, locked := none }) rfl hsize rfl rfl (rest := rest) rfl
    (by rw [hb]; exact d6) (by rw [hb]; exact d9) hout hRframes (by simp only [List.map_cons, List.sum_cons, hcat]; omega) hlocks
  obtain ⟨f1, f2⟩ := vx_frame hsame
  rw [hhp] at f1 f2
  have hWs : s.WarmedH U.vm := State.WarmedH.trans hW0 hW
  have hcl : s.vm.findClass cls = some ce.cls := by
    have h9 := hO.cls
    rw [hvm] at h9
    exact h9
  have hall : s.sameButNew ({ U with vm := s.vm } : State) locs mc ms := by
    subst hA
    obtain ⟨e1, e2⟩ := hsame
    rw [State.setFrames_setFrames] at e1
    have h2 : (T.setVm s.vm).sameButNew ({ U with vm := s.vm } : State) [] (0 + 1) (0 + 6) := ⟨e1, e2⟩
    have h3 := X.same.trans h2
    rw [List.append_nil] at h3
    exact h3.mono hc hs
  refine ⟨U, ?_, .threw T.heap.size, hrun, hend, Or.inr ⟨T.heap.size, rfl, cls, ce, locs, hx U hWs.alike f1 (fun q hq => f2 q hq (fun z hz => nomatch hz)), hce, hO.vm, hcl, hWs, hall, hf⟩⟩
  refine st1 _ ?_
  show Steps p.tables e below (T1.setTop { method := m, pc := pc + 3, locals := ls, stack := .ref T.heap.size :: rest, locked := none }) _
  jvm_step X₁.here [X₁.here.top, hexec, d3', Value.category]
  exact X₁.ldcString hexec (own := own) (text := text) (index := is) (a := sa) hown' hstr'.1 hstr'.2
    (g := { method := m, pc := pc + 4, locals := ls, stack := .ref T.heap.size :: .ref T.heap.size :: rest, locked := none }) rfl d4' _ hsteps
/-- 'throw new E("text")', the text by a wide index -/
theorem vx_throwSW {cc : ByteArray} {pc : Nat} (hexec : p.tables.exec = Jvm.exec) (hb : c.code = cc) (hl : l.stackTraces = false) {own cls text : String} {names : List String} {ik is ic mc ms sa : Nat} {A : Nat → Prop}
    (hown : s.vm.findClass own = some m.cls) (hcls : Bundle.fit cls = true) (hnames : ∀ n ∈ names, Bundle.fit n = true)
    (hk : (Cond.classLink own ik cls).before args s = true) (hini : (Cond.initialized cls).before args s = true) (hstr : vk_R own is text sa s) (hat : ∀ w ∈ vx_atS own ic cls names, w.before args s = true)
    (hgood : ∀ w ∈ Cond.classLink own ik cls :: Cond.initialized cls :: vx_atS own ic cls names, vx_ot w = true)
    (hU : vx_Zq Bundle.tN "UNASSIGNED_STACK" Bundle.steD A s s.heap) (hN : vx_Zq Bundle.tN "SUPPRESSED_SENTINEL" Bundle.listD A s s.heap) (hS : va_S A s.heap H locs) (hsize : ls.size = c.maxLocals)
    (d0 : decode cc pc = .ok (.new ik, 3)) (d3 : decode cc (pc + 3) = .ok (.dup, 1)) (d4 : decode cc (pc + 4) = .ok (.ldc_w is, 3)) (d7 : decode cc (pc + 7) = .ok (.invokespecial ic, 3)) (d10 : decode cc (pc + 10) = .ok (.athrow, 1))
    (hout : ∀ x ∈ c.exceptionTable.toList, covers x (pc + 10) = false)
    (hRframes : names.length + 3 < R.frames) (hRlocals : (rest.map fun v => v.category).sum + (13 * (names.length + 1) + 43) ≤ R.locals) (hRcells : cells + 1 ≤ R.cells) (hRslots : slots + 6 ≤ R.slots) (hlocks : meth.locks = false)
    (hx : ∀ t : State, s.vm.Alike t.vm → H.size ≤ t.heap.size → (∀ q : Nat, q < H.size → t.heap[q]? = H[q]?) → XC cls s t)
    (hf : ∀ z ∈ locs, free z.base) (hc : cells + 1 ≤ mc) (hs : slots + 6 ≤ ms) :
    W p l e R s m args below meth c H locs cells slots (vx_MQ below Qc XC args s mc ms free) (F0 m pc ls rest) := by
  intro T hT X
  have htr : e.platform.stackTraces = false := (show e.platform.stackTraces = l.stackTraces by rw [X.admits.platform]).trans hl
  have Y := vx_rebase X (R' := { frames := R.frames, locals := R.locals, cells := 1, slots := 6 }) (Nat.le_refl _) (Nat.le_refl _) hRcells hRslots
  obtain ⟨s', hA⟩ : ∃ z, z = (T.setVm s.vm).setFrames (.invoking m args :: below) := ⟨_, rfl⟩
  rw [← hA] at Y
  have hvm : s'.vm = s.vm := by rw [hA]; rfl
  have hhp : s'.heap = H := by rw [hA]; exact hT
  have hW0 : s.WarmedH s'.vm := by rw [hvm]; exact State.WarmedH.refl s
  have hat' : ∀ w ∈ vx_atS own ic cls names, w.before args s' = true := fun w hw => vx_ot_at hW0 hvm.symm (hgood w (List.mem_cons_of_mem _ (List.mem_cons_of_mem _ hw))) (hat w hw)
  have hk' : (Cond.classLink own ik cls).before args s' = true := vx_ot_at hW0 hvm.symm (hgood _ List.mem_cons_self) hk
  have hini' : (Cond.initialized cls).before args s' = true := vx_ot_at hW0 hvm.symm (hgood _ (List.mem_cons_of_mem _ List.mem_cons_self)) hini
  have hU' : vx_Zq Bundle.tN "UNASSIGNED_STACK" Bundle.steD A s' s'.heap := by rw [hhp]; exact vx_Zq.moved hW0.alike (hU.kept hS.2.1)
  have hN' : vx_Zq Bundle.tN "SUPPRESSED_SENTINEL" Bundle.listD A s' s'.heap := by rw [hhp]; exact vx_Zq.moved hW0.alike (hN.kept hS.2.1)
  have h : ∀ w ∈ Bundle.ownAtoms own ic cls names, w.before args s' = true := vx_own hat' (vx_isRefq hU'.1) (vx_isRefq hN'.1) hU'.2.word hN'.2.word
  have hown' : s'.vm.findClass own = some m.cls := by rw [hvm]; exact hown
  have hins : (Cond.instantiable cls 6).before args s' = true := h _ (by simp [Bundle.ownAtoms])
  obtain ⟨vm₁, cX, kX, hfX, hkX, -, -, X₁, st1⟩ := Y.newCold hexec (own := own) (C := cls) (index := ik) (n := 6) hown' hk' hins hini'
    (g := F0 m pc ls rest) rfl (by rw [hb]; exact d0) (Nat.le_refl _) (Nat.le_refl _)
  generalize hT1 : (T.setVm vm₁).pushCell { cls := cX, slots := kX.instanceTypes.map defaultValue, vm := .none } = T1 at X₁ st1
  have hcat : (Value.ref T.heap.size).category = 1 := rfl
  have hcellA : T1.heap[T.heap.size]? = some (freshCell cX kX) := by rw [← hT1]; exact State.heap_pushCell_size _ _
  have d3' : decode c.code (pc + 3) = .ok (.dup, 1) := by rw [hb]; exact d3
  have d4' : decode c.code (pc + 4) = .ok (.ldc_w is, 3) := by rw [hb]; exact d4
  have hstr' : vk_R own is text sa s' := vk_R.warm hW0 hstr
  obtain ⟨U, hsteps, hrun, hend, hW, hsame, ce, hce, hO⟩ := X₁.ctorThrowS hexec htr (own := own) (cls := cls) (names := names) (ic := ic) hown' hcls hnames h (fun x hx => nomatch hx) hfX hkX hcellA (by rw [hhp, hT]; exact Nat.le_refl _) (msg := .ref sa) rfl
    (g := { method := m, pc := pc + 7, locals := ls, stack := .ref sa :: .ref T.heap.size :: .ref T.heap.size :: rest, locked := none }) rfl hsize rfl rfl (rest := rest) rfl
    (by rw [hb]; exact d7) (by rw [hb]; exact d10) hout hRframes (by simp only [List.map_cons, List.sum_cons, hcat]; omega) hlocks
  obtain ⟨f1, f2⟩ := vx_frame hsame
  rw [hhp] at f1 f2
  have hWs : s.WarmedH U.vm := State.WarmedH.trans hW0 hW
  have hcl : s.vm.findClass cls = some ce.cls := by
    have h9 := hO.cls
    rw [hvm] at h9
    exact h9
  have hall : s.sameButNew ({ U with vm := s.vm } : State) locs mc ms := by
    subst hA
    obtain ⟨e1, e2⟩ := hsame
    rw [State.setFrames_setFrames] at e1
    have h2 : (T.setVm s.vm).sameButNew ({ U with vm := s.vm } : State) [] (0 + 1) (0 + 6) := ⟨e1, e2⟩
    have h3 := X.same.trans h2
    rw [List.append_nil] at h3
    exact h3.mono hc hs
  refine ⟨U, ?_, .threw T.heap.size, hrun, hend, Or.inr ⟨T.heap.size, rfl, cls, ce, locs, hx U hWs.alike f1 (fun q hq => f2 q hq (fun z hz => nomatch hz)), hce, hO.vm, hcl, hWs, hall, hf⟩⟩
  refine st1 _ ?_
  show Steps p.tables e below (T1.setTop { method := m, pc := pc + 3, locals := ls, stack := .ref T.heap.size :: rest, locked := none }) _
  jvm_step X₁.here [X₁.here.top, hexec, d3', Value.category]
  exact X₁.ldcStringW hexec (own := own) (text := text) (index := is) (a := sa) hown' hstr'.1 hstr'.2
    (g := { method := m, pc := pc + 4, locals := ls, stack := .ref T.heap.size :: .ref T.heap.size :: rest, locked := none }) rfl d4' _ hsteps
end Ends
section Bodies
variable {l : Launch}
theorem vx_ofW {y : MethodName} {ws ws' : List Cond} {rm : Room} {Pc : Array Value → State → Prop} {Qc : Array Value → State → Outcome → State → Prop} {XC : String → State → State → Prop} {mc ms : Nat} {free : Addr → Prop} {cc : ByteArray} {maxL : Nat} {ret : Option FieldType}
    (hy : plainName y.cls = true) (hw : ws = Cond.code y cc maxL ret :: ws')
    (body : ∀ p e s m args below meth c s₁, BodyLoose p l y (headSpec ws rm) cc maxL ret e s m args below meth c s₁ → c.maxLocals = maxL → (∀ x ∈ c.exceptionTable.toList, False) → Pc args s →
      W p l e (headSpec ws rm).room s m args below meth c s.heap [] 0 0 (vx_MQ below Qc XC args s mc ms free) (entryFrame m args maxL)) : vx_Met l y ws rm Pc Qc XC mc ms free := by
  refine MetFree.of_bodyS (code := cc) (maxLocals := maxL) (ret := ret) hy ?_ ?_
  · intro args s m h hn
    obtain ⟨meth, c, h1, h2, h3, h4, h5, h6, -, -⟩ := Cond.code_spec hn (atoms_spec (ws := ws) h _ (by rw [hw]; exact List.mem_cons_self))
    exact ⟨meth, c, h1, h2, h3, h4, h5, h6⟩
  · intro p e s m args below meth c s₁ B hml hP _
    have hh0 : s₁.heap = s.heap := by rw [B.state]; rfl
    have ht : ∀ x ∈ c.exceptionTable.toList, False := by
      obtain ⟨meth9, c9, h1, h2, -, -, -, -, h7, -⟩ := Cond.code_spec B.named (atoms_spec (ws := ws) B.pre _ (by rw [hw]; exact List.mem_cons_self))
      cases Option.some.inj (h1.symm.trans B.method)
      cases Option.some.inj (h2.symm.trans (Stand.of_body B).code)
      intro x hx
      rw [Array.isEmpty_iff.mp h7] at hx
      cases hx
    obtain ⟨t, a1, o, b1, b2, b3⟩ := body p e s m args below meth c s₁ B hml ht hP s₁ hh0 (Stand.of_body B)
    exact ⟨t, o, a1, b1, b2, b3⟩
/-- the table of a body with handlers -/
theorem vx_table {p : Program} {x y : MethodName} {S : Spec} {cc bytes : ByteArray} {maxL maxL' : Nat} {ret ret' : Option FieldType} {e : Env} {s s₁ : State} {m : MethodId} {args : Array Value} {below : List Frame} {meth : Method} {c : Code} {hh : List (Nat × Nat × Nat × Nat)}
    (B : BodyLoose p l y S cc maxL ret e s m args below meth c s₁) (h : (Cond.codeWith y bytes maxL' ret' hh).before args s = true) : c.exceptionTable.toList = tableOf hh := by
  obtain ⟨m9, meth9, c9, hn9, h1, h2, -, -, h6, -⟩ := Cond.codeWith_spec h
  cases Option.some.inj (hn9.symm.trans B.named)
  cases Option.some.inj (h1.symm.trans B.method)
  cases Option.some.inj (h2.symm.trans (Stand.of_body B).code)
  rw [← h6, table_eq]
end Bodies
end VXA
/-! ===== END ===== -/
/-! ===== BEGIN a static call of a method with an exception table ===== -/
section VXS
variable {p : Program} {l : Launch} {e : Env} {R : Room} {s : State} {m : MethodId} {args : Array Value} {below : List Frame} {meth : Method} {c : Code} {T : State} {H : Heap} {locs : List Loc} {cells slots : Nat}
abbrev vx_CSW (R : Room) (s : State) (args : Array Value) (own : String) (index : Nat) (y : MethodName) (bytes : ByteArray) (maxL : Nat) (ret : Option FieldType) (hh : List (Nat × Nat × Nat × Nat)) (ws : List Cond) (rm : Room) (mc ms n : Nat) : Prop :=
  (rm.cells = mc ∧ rm.slots = ms ∧ rm.frames + 1 ≤ R.frames ∧ 8 + (maxL + 11) + rm.locals ≤ R.locals ∧ (∀ w ∈ ws, ∀ (a' : Array Value) (U : State), s.WarmedH U.vm → w.before a' U = true) ∧ Cond.codeWith y bytes maxL ret hh ∈ ws) ∧
  (Cond.codeWith y bytes maxL ret hh).before args s = true ∧ (Cond.initialized y.cls).before args s = true ∧ (y.cls ≠ "java/lang/invoke/MethodHandle" ∧ y.cls ≠ "java/lang/invoke/VarHandle") ∧
  (∀ sig, parseMethodDescriptor y.desc = some sig → n = sig.parameters.length) ∧ (Cond.methodLink own index y).before args s = true ∧ (Cond.static y).before args s = true
theorem vx_cwSW {own : String} {index maxL mc ms : Nat} {y : MethodName} {bytes : ByteArray} {ret : Option FieldType} {hh : List (Nat × Nat × Nat × Nat)} {Ts ws ws' : List Cond} {rm : Room} (n : Nat) (ht : ∀ w ∈ Ts, w.before args s = true) (hT : GoodIn Ts (va_wsS own index y ws)) (hw : ws = Cond.codeWith y bytes maxL ret hh :: ws') (hrc : rm.cells = mc) (hrs : rm.slots = ms)
    (hd : y.cls ≠ "java/lang/invoke/MethodHandle" ∧ y.cls ≠ "java/lang/invoke/VarHandle" ∧ (parseMethodDescriptor y.desc).map (fun d => d.parameters.length) = some n) (hR : rm.frames + 1 ≤ R.frames ∧ 8 + (maxL + 11) + rm.locals ≤ R.locals) :
    vx_CSW R s args own index y bytes maxL ret hh ws rm mc ms n := by
  have ok : ∀ w ∈ va_wsS own index y ws, w.before args s = true := fun w h => ht w (hT w h).1
  have hG : GoodIn Ts ws := fun w h => hT w (by unfold va_wsS; exact List.mem_append_right _ h)
  have hc : Cond.codeWith y bytes maxL ret hh ∈ ws := by rw [hw]; exact List.mem_cons_self
  refine ⟨⟨hrc, hrs, hR.1, hR.2, pay_in ht hG, hc⟩, ht _ (hG _ hc).1, ok _ (by simp [va_wsS]), ⟨hd.1, hd.2.1⟩, fun sig h => ?_, ok _ (by simp [va_wsS]), ok _ (by simp [va_wsS])⟩
  have h2 := hd.2.2
  rw [h] at h2
  exact (Option.some.inj h2).symm
theorem vx_callSW (X : Stand p l e R s m args below meth c T locs cells slots) (hexec : p.tables.exec = Jvm.exec) {own : String} {index : Nat} {y : MethodName} {bytes : ByteArray} {maxL : Nat} {ret : Option FieldType} {hh : List (Nat × Nat × Nat × Nat)}
    (hown : s.vm.findClass own = some m.cls) (hlink : (Cond.methodLink own index y).before args s = true) (hstat : (Cond.static y).before args s = true) (hinit : (Cond.initialized y.cls).before args s = true)
    (hcode : (Cond.codeWith y bytes maxL ret hh).before args s = true) (hy : y.cls ≠ "java/lang/invoke/MethodHandle" ∧ y.cls ≠ "java/lang/invoke/VarHandle")
    {W9 : Nat} {Pre : Pt → Array Value → Prop} {Post : Pt → Array Value → Option Value → Pt → Prop} (hK : Back l R p e below s args y 3 W9 Pre Post)
    {g : JFrame} (hg : g.method = m) (hsize : g.locals.size = c.maxLocals) {argsL rest : List Value} (hlen : ∀ sig, parseMethodDescriptor y.desc = some sig → argsL.length = sig.parameters.length)
    (hstack : g.stack = argsL.reverse ++ rest) (hW : 2 * g.monitorRoom + (rest.map fun v => v.category).sum ≤ W9) (hdg : decode c.code g.pc = .ok (.invokestatic index, 3))
    (hpre : ∀ vm₁, s.WarmedH vm₁ → Pre ⟨T.setVm vm₁, locs, cells, slots⟩ argsL.toArray) :
    ∃ (v : Option Value) (vm₁ : Vm) (B : Pt), s.WarmedH vm₁ ∧ Stand p l e R s m args below meth c B.U B.locs B.cells B.slots ∧ Post ⟨T.setVm vm₁, locs, cells, slots⟩ argsL.toArray v B ∧
      ∀ target, Steps p.tables e below (B.U.setTop { g with pc := g.pc + 3, stack := v.toList ++ rest }) target → Steps p.tables e below (T.setTop g) target := by
  obtain ⟨mk, methM, cM, hnamed, hmethM, -, -, -, -, -, -, hsigM⟩ := Cond.codeWith_spec hcode
  have hstatic : methM.isStatic = true := Cond.static_spec hnamed hmethM hstat
  obtain ⟨kP, hkP, -⟩ := className_of_methodNamed hnamed
  have hinitP : kP.init = .initialized := Cond.initialized_spec (findClass_of_methodNamed hnamed) hkP hinit
  obtain ⟨vm₁, X₁, hstep₁⟩ := X.invokestatic hexec hown hlink hnamed hmethM hstatic hkP hinitP hy (g := g) hg (argsL := argsL) (rest := rest) (hlen _ hsigM) hstack hdg
  obtain ⟨v, B, X', hpost, hsteps⟩ := hK m meth c ⟨T.setVm vm₁, locs, cells, slots⟩ { g with stack := rest } (.invokestatic index) mk argsL.toArray X₁ hg hsize hdg hW (X₁.named hnamed) (hpre vm₁ X₁.warmed)
  exact ⟨v, vm₁, B, X₁.warmed, X', hpost, fun target h => hstep₁ _ fun acts => by rw [doInvoke_state]; exact hsteps.trans h⟩
theorem vx_runSW {y : MethodName} {bytes cc : ByteArray} {maxL nL mc ms n index : Nat} {ret : Option FieldType} {hh : List (Nat × Nat × Nat × Nat)} {ws : List Cond} {rm : Room} {Pc : Array Value → State → Prop} {Qc : Array Value → State → Outcome → State → Prop} {free : Addr → Prop} {Ts : List Cond} {own : String} {As rest : List Value} {g : JFrame}
    (S : CallFix p m c cc nL s args Ts own) (hM : Met l y ws rm Pc Qc mc ms free) (cw : vx_CSW R s args own index y bytes maxL ret hh ws rm mc ms n) (hp : PreS s H Pc As)
    (hg : g.method = m) (hn : As.length = n) (hsize : g.locals.size = nL) (hstack : g.stack = As.reverse ++ rest) (hW : 2 * g.monitorRoom + (rest.map fun v => v.category).sum ≤ 8) (hdg : decode cc g.pc = .ok (.invokestatic index, 3)) (hf : cells + mc ≤ R.cells ∧ slots + ms ≤ R.slots) :
    va_Run p l e R s m args below meth c H locs cells slots mc ms g rest (Qc As.toArray) (free) := by
  obtain ⟨⟨hrc, hrs, hfr, hlo, hws, hcw⟩, hcode, hini, hy, hlen, hl, hstt⟩ := cw
  have hK : Back l R p e below s args y 3 8 (PreOf R mc ms Pc) (PostOf Qc mc ms free) := va_backW (hh := hh) (bytes := bytes) (maxL := maxL) (ret := ret) hM hp.1 hrc hrs hfr hlo hws hcw (fun a' U hW => word_at hW (Or.inl (by first | rfl | simp [Cond.onTables, Cond.keeps, Cond.steady])) hini)
  obtain ⟨hx, hb, hml, ho, -⟩ := S
  intro T hT X
  obtain ⟨v, vm₁, ⟨U', l2, c2, s2⟩, hW₁, X', ⟨g', mk, t, L, e1, e2, hq, h1, hL, h2, h3⟩, st⟩ := vx_callSW X hx (hh := hh) (bytes := bytes) (maxL := maxL) (ret := ret) ho hl hstt hini hcode hy hK hg (hsize.trans hml.symm) (argsL := As) (rest := rest) (fun sig h => hn.trans (hlen sig h)) hstack hW (by rw [hb]; exact hdg)
    (fun vm₁ hW₁ => ⟨hf.1, hf.2, hp.2 (T.setVm vm₁) hT hW₁⟩)
  dsimp only [Pt.U, Pt.locs, Pt.cells, Pt.slots] at X' e1 e2 h1 h2 h3 st
  subst h1; subst h2; subst h3
  exact ⟨v, (T.setVm vm₁).calling g' mk As.toArray, t, U', L, hT, X', hL, e1, e2, hq, st⟩
/-- not caught here, past rows that name other classes: it goes on to the caller -/
theorem vx_outP {p : Program} {l : Launch} {e : Env} {R : Room} {s : State} {m : MethodId} {args : Array Value} {below : List Frame} {meth : Method} {c : Code} {H : Heap} {locs : List Loc} {cells slots : Nat} {free : Addr → Prop} {ls : Array Slot} {rest : List Value} {Qc : Array Value → State → Outcome → State → Prop} {XC : String → State → State → Prop}
    {pc : Nat} {own E : String} {ce : Cell} {q : Addr} {mc ms : Nat} (hown : s.vm.findClass own = some m.cls) (hlocks : meth.locks = false)
    (hpass : ∀ z ∈ c.exceptionTable.toList, covers z pc = false ∨ (z.catchType ≠ 0 ∧ ∃ nm : String, (Cond.classLink own z.catchType nm).before args s = true ∧ va_Nc E nm s)) (hcell : H[q]? = some ce) (hv : ce.vm = .none) (hcl : s.vm.findClass E = some ce.cls)
    (hx : ∀ t : State, t.heap = H → s.vm.Alike t.vm → XC E s t) (hf : ∀ z ∈ locs, free z.base) (hc : cells ≤ mc) (hs : slots ≤ ms) :
    vx_W p l e R s m args below meth c H locs cells slots (vx_MQ below Qc XC args s mc ms free) (F0 m pc ls rest) q := by
  intro T hT X
  have hpl : e.platform.magicAccessors = ({} : Platform).magicAccessors := by rw [X.admits.platform]
  obtain ⟨vm', hW', X', st⟩ := X.outThrough hlocks q (g := F0 m pc ls rest) rfl rfl rfl (cell := ce) (by rw [hT]; exact hcell) (by rw [hv]; rfl)
    (by obtain ⟨k9, h9, -⟩ := Vm.findClass_spec hcl; exact ⟨k9, h9⟩) (fun z hz => by
      rcases hpass z hz with h | ⟨hz0, nm, hl1, hn1⟩
      · exact Or.inl h
      · obtain ⟨c6, hc6, hcl6⟩ := Cond.classLink_spec hown hl1 e.platform hpl
        obtain ⟨a8, b8, h1, h2, h3⟩ := hn1
        cases Option.some.inj (h1.symm.trans hcl)
        cases Option.some.inj (h2.symm.trans hc6)
        exact Or.inr ⟨hz0, _, hcl6, h3⟩)
  obtain ⟨g₀, hfr⟩ := X'.frames_eq
  have hcell9 : ((T.setVm vm').setFrames (.throwing q :: below)).heap[q]? = some ce := by
    show T.heap[q]? = some ce
    rw [hT]; exact hcell
  have hend : Ended ((T.setVm vm').setFrames (.throwing q :: below)) below (.threw q) := State.frames_setFrames _ (State.cur_lt_of_frames hfr)
  refine ⟨(T.setVm vm').setFrames (.throwing q :: below), ?_, .threw q, X'.here.running, hend, Or.inr ⟨q, rfl, E, ce, locs, hx _ hT (X'.ends _).1.alike, hcell9, hv, hcl, (X'.ends _).1, (X'.ends _).2.mono hc hs, hf⟩⟩
  rw [X.pushThrowing_eq]
  exact st
/-- a thing of a world lies in the heap -/
theorem vx_lt {D : va_G} {cl : List vw_C} {ws : va_W} {H1 : Heap} (h : va_P D cl ws H1) {k : Nat} {q : Nat × va_E} (hk : ws[k]? = some q) : q.1 < H1.size := (h k q hk).lt
end VXS
/-! ===== END ===== -/
/-! ===== BEGIN methods with a table of their own: called by a name, returning or throwing ===== -/
section VXH
/-! vx_backW, vx_callVX, vx_callSX, vx_callVW, vx_runVW, vx_runVX, vx_runSX, vx_ofWH follow the same proofs as their sisters above (Free/Laws.lean, Shelf42/LK1.lean); vx_outP calls Shelf42/NT130.lean (outThrough). -/
section
variable {l : Launch} {R : Room} {p : Program} {e : Env} {below : List Frame} {s : State} {sargs : Array Value} {y : MethodName} {len W9 : Nat}
theorem vx_backW {ws : List Cond} {rm : Room} {Pc : Array Value → State → Prop} {Qc : Array Value → State → Outcome → State → Prop} {XC : String → State → State → Prop} {mc ms : Nat} {free : Addr → Prop} {bytes : ByteArray} {maxL : Nat} {ret : Option FieldType} {hh : List (Nat × Nat × Nat × Nat)}
    (hM : vx_Met l y ws rm Pc Qc XC mc ms free) (hblind : FrameBlind Pc) (hrc : rm.cells = mc) (hrs : rm.slots = ms)
    (hframes : rm.frames + 1 ≤ R.frames) (hlocals : W9 + (maxL + 11) + rm.locals ≤ R.locals)
    (hws : ∀ w ∈ ws, ∀ a' U, s.WarmedH U.vm → w.before a' U = true) (hcode : Cond.codeWith y bytes maxL ret hh ∈ ws) (hinit : ∀ a' U, s.WarmedH U.vm → (Cond.initialized y.cls).before a' U = true) :
    vx_Back l R p e below s sargs y len W9 (PreOf R mc ms Pc) (PostOf Qc mc ms free) (vx_Post XC mc ms free) := by
  intro m meth c A g ig mk a X hg hsize hdg hW hn hp
  have h1 : (headSpec ws rm).pre.before a A.U = true := atoms_intro fun w hw => hws w hw _ _ X.warmed
  have h2 : (Cond.codeWith y bytes maxL ret hh).before a A.U = true := hws _ hcode _ _ X.warmed
  have h3 : (Cond.initialized y.cls).before a A.U = true := hinit _ _ X.warmed
  have h4 : A.cells + (headSpec ws rm).room.cells ≤ R.cells := by rw [show (headSpec ws rm).room.cells = mc from hrc]; exact hp.1
  have h5 : A.slots + (headSpec ws rm).room.slots ≤ R.slots := by rw [show (headSpec ws rm).room.slots = ms from hrs]; exact hp.2.1
  have hPc : Pc a (A.U.calling g mk a) := hblind _ _ _ _ hp.2.2
  obtain ⟨U, Ls, c0, s0⟩ := A
  dsimp only [Pt.U, Pt.locs, Pt.cells, Pt.slots] at h1 h2 h3 h4 h5 X hn hPc ⊢
  obtain ⟨m9, methY, cY, hn9, hmY, hcY, -, hlY, -⟩ := Cond.codeWith_spec h2
  cases Option.some.inj (hn9.symm.trans hn)
  obtain ⟨kY, hkY, -⟩ := className_of_methodNamed hn
  have hinitY : kY.init = .initialized := Cond.initialized_spec (findClass_of_methodNamed hn) hkY h3
  have h : At U g.method c below := by rw [hg]; exact X.here
  have hlocals9 : W9 + (maxL + 11) + (headSpec ws rm).room.locals ≤ R.locals := hlocals
  have happ : (headSpec ws rm).appliesLoose y e.platform (U.calling g mk a) = true :=
    Spec.appliesLoose_calling (g := g) h hdg hn hkY hinitY
      (X.room_calling (g := g) (R' := (headSpec ws rm).room) hsize hmY hcY hframes (by rw [hlY]; omega) h4 h5) h1
  obtain ⟨mid, hmid⟩ := h.above
  have hfr : (U.setTop g).frames = (.java g :: mid) ++ below := by rw [State.frames_setTop' g h.top, hmid]; rfl
  obtain ⟨o, s₂, hsteps, -, hend, hq⟩ := Steps.callFree hM p X.admits X.cas X.clock (acts := []) hfr happ hPc trivial
  have hq' : vx_Q Qc XC mc ms free a (U.calling g mk a) o s₂ := hq
  rw [State.frames_setTop' g h.top] at hend
  obtain ⟨g₀, hg0⟩ := Option.isSome_iff_exists.mp h.top
  obtain ⟨r, hr⟩ := State.topJava?_eq_some.mp hg0
  have hr' : (({ U with heap := s₂.heap, slotsUsed := s₂.slotsUsed } : State).setVm s₂.vm).frames = .java g₀ :: r := hr
  rcases hq' with ⟨hqc, L, hfe, hL⟩ | ⟨q, rfl, E, ce, L, hx, hce, hcv, hcl, hW₂, hsm, hL⟩
  · obtain ⟨⟨v, rfl⟩, hW₂, e2, q2, q3, q4, q5, q6⟩ := id hfe
    have e3 : s₂ = ({ (U.calling g mk a).setFrames s₂.frames with heap := s₂.heap, slotsUsed := s₂.slotsUsed } : State).setVm s₂.vm := by
      have : s₂ = ({ s₂ with vm := (U.calling g mk a).vm } : State).setVm s₂.vm := rfl
      rw [e2] at this
      exact this
    obtain ⟨c₂, i₂, len₂, hc₂, hd₂, hf₂⟩ := hend
    have hW' : U.WarmedH s₂.vm := hW₂
    have hcc : c₂ = c := by
      have h1 : s₂.code? g.method = U.code? g.method := by
        rw [State.code?_eq, State.code?_eq, hW'.alike.method?]
      exact Option.some.inj (hc₂.symm.trans (h1.trans h.code))
    subst hcc
    have hlen : len₂ = len := by rw [hdg] at hd₂; cases hd₂; rfl
    subst hlen
    have hs₂ : s₂ = (({ U with heap := s₂.heap, slotsUsed := s₂.slotsUsed } : State).setVm s₂.vm).setTop { g with pc := g.pc + len₂, stack := v.toList ++ g.stack } := by
      refine e3.trans ?_
      rw [hf₂, State.calling_eq h.top, State.setFrames_setFrames, State.setTop_of_frames _ hr', hr]
      rfl
    have hsame : U.sameButNew ({ U with heap := s₂.heap, slotsUsed := s₂.slotsUsed } : State) L mc ms := by
      refine ⟨?_, q2, q3, q4, q5, q6⟩
      obtain ⟨t, ht, -⟩ := State.frames_cons hr
      show ({ U with heap := s₂.heap, slotsUsed := s₂.slotsUsed } : State) = { U.setFrames U.frames with heap := s₂.heap, slotsUsed := s₂.slotsUsed }
      rw [State.setFrames_self ht]
    subst hg
    refine Or.inl ⟨v, ⟨(({ U with heap := s₂.heap, slotsUsed := s₂.slotsUsed } : State).setVm s₂.vm), Ls ++ L, c0 + mc, s0 + ms⟩,
      ⟨X.admits, X.cas, X.clock, X.frames, X.room, X.hears, X.method, X.code, (X.here.setHeapUsed s₂.heap s₂.slotsUsed).setVm hW'.alike, X.tail, State.WarmedH.trans X.warmed hW', X.limits, X.bytes, X.same.trans (hsame.setVm s.vm)⟩,
      ⟨g, mk, s₂, L, rfl, rfl, hqc, rfl, hL, rfl, rfl⟩, ?_⟩
    show Steps p.tables e below _ ((({ U with heap := s₂.heap, slotsUsed := s₂.slotsUsed } : State).setVm s₂.vm).setTop { g with pc := g.pc + len₂, stack := v.toList ++ g.stack })
    rw [← hs₂]
    exact hsteps
  · obtain ⟨e2, q2, q3, q4, q5, q6⟩ := id hsm
    have e3 : s₂ = ({ (U.calling g mk a).setFrames s₂.frames with heap := s₂.heap, slotsUsed := s₂.slotsUsed } : State).setVm s₂.vm := by
      have : s₂ = ({ s₂ with vm := (U.calling g mk a).vm } : State).setVm s₂.vm := rfl
      rw [e2] at this
      exact this
    have hf₂ : s₂.frames = .throwing q :: .java g :: U.frames.tail := hend
    have hW' : U.WarmedH s₂.vm := hW₂
    have hs₂ : s₂ = ((({ U with heap := s₂.heap, slotsUsed := s₂.slotsUsed } : State).setVm s₂.vm).setTop g).pushFrame (.throwing q) := by
      refine e3.trans ?_
      rw [hf₂, State.calling_eq h.top, State.setFrames_setFrames, State.pushFrame, State.frames_setTop _ hr', State.setTop_of_frames _ hr', State.setFrames_setFrames, hr]
      rfl
    have hsame : U.sameButNew ({ U with heap := s₂.heap, slotsUsed := s₂.slotsUsed } : State) L mc ms := by
      refine ⟨?_, q2, q3, q4, q5, q6⟩
      obtain ⟨t, ht, -⟩ := State.frames_cons hr
      show ({ U with heap := s₂.heap, slotsUsed := s₂.slotsUsed } : State) = { U.setFrames U.frames with heap := s₂.heap, slotsUsed := s₂.slotsUsed }
      rw [State.setFrames_self ht]
    subst hg
    refine Or.inr ⟨q, ⟨(({ U with heap := s₂.heap, slotsUsed := s₂.slotsUsed } : State).setVm s₂.vm), Ls ++ L, c0 + mc, s0 + ms⟩,
      ⟨X.admits, X.cas, X.clock, X.frames, X.room, X.hears, X.method, X.code, (X.here.setHeapUsed s₂.heap s₂.slotsUsed).setVm hW'.alike, X.tail, State.WarmedH.trans X.warmed hW', X.limits, X.bytes, X.same.trans (hsame.setVm s.vm)⟩,
      ⟨g, mk, s₂, L, E, ce, rfl, rfl, hx, hce, hcv, hcl, rfl, hL, rfl, rfl⟩, ?_⟩
    show Steps p.tables e below _ (((({ U with heap := s₂.heap, slotsUsed := s₂.slotsUsed } : State).setVm s₂.vm).setTop g).pushFrame (.throwing q))
    rw [← hs₂]
    exact hsteps
end
variable {p : Program} {l : Launch} {e : Env} {R : Room} {s : State} {m : MethodId} {args : Array Value} {below : List Frame} {meth : Method} {c : Code} {T : State} {H : Heap} {locs : List Loc} {cells slots : Nat}
theorem vx_callVX (X : Stand p l e R s m args below meth c T locs cells slots) (hexec : p.tables.exec = Jvm.exec) {own C : String} {index : Nat} {y : MethodName} {bytes : ByteArray} {maxL : Nat} {ret : Option FieldType} {hh : List (Nat × Nat × Nat × Nat)}
    (hown : s.vm.findClass own = some m.cls) (hlink : (Cond.methodLink own index y).before args s = true) (hinst : (Cond.instanceMethod y).before args s = true) (hsel : (Cond.selects C y y).before args s = true)
    (hcode : (Cond.codeWith y bytes maxL ret hh).before args s = true) (hy : y.cls ≠ "java/lang/invoke/MethodHandle" ∧ y.cls ≠ "java/lang/invoke/VarHandle")
    {W9 : Nat} {Pre : Pt → Array Value → Prop} {Post : Pt → Array Value → Option Value → Pt → Prop} {PostX : Pt → Array Value → Addr → Pt → Prop} (hK : vx_Back l R p e below s args y 3 W9 Pre Post PostX)
    {b : Addr} {cellB : Cell} (hcell : T.heap[b]? = some cellB) (hobj : cellB.vm.isStatics = false) (hcls : s.vm.findClass C = some cellB.cls)
    {g : JFrame} (hg : g.method = m) (hsize : g.locals.size = c.maxLocals) {argsL rest : List Value} (hlen : ∀ sig, parseMethodDescriptor y.desc = some sig → argsL.length = sig.parameters.length)
    (hstack : g.stack = argsL.reverse ++ .ref b :: rest) (hW : 2 * g.monitorRoom + (rest.map fun v => v.category).sum ≤ W9) (hdg : decode c.code g.pc = .ok (.invokevirtual index, 3))
    (hpre : ∀ vm₁, s.WarmedH vm₁ → Pre ⟨T.setVm vm₁, locs, cells, slots⟩ (Value.ref b :: argsL).toArray) :
    (∃ (v : Option Value) (vm₁ : Vm) (B : Pt), s.WarmedH vm₁ ∧ Stand p l e R s m args below meth c B.U B.locs B.cells B.slots ∧ Post ⟨T.setVm vm₁, locs, cells, slots⟩ (Value.ref b :: argsL).toArray v B ∧
      ∀ target, Steps p.tables e below (B.U.setTop { g with pc := g.pc + 3, stack := v.toList ++ rest }) target → Steps p.tables e below (T.setTop g) target) ∨
    (∃ (q : Addr) (vm₁ : Vm) (B : Pt), s.WarmedH vm₁ ∧ Stand p l e R s m args below meth c B.U B.locs B.cells B.slots ∧ PostX ⟨T.setVm vm₁, locs, cells, slots⟩ (Value.ref b :: argsL).toArray q B ∧
      Steps p.tables e below (T.setTop g) ((B.U.setTop { g with stack := rest }).pushFrame (.throwing q))) := by
  obtain ⟨mk, methM, hnamed, hmethM, hstM, habM⟩ := Cond.instanceMethod_spec hinst
  obtain ⟨m8, methM', cM, hn8, hmethM', -, -, -, -, -, -, hsigM⟩ := Cond.codeWith_spec hcode
  cases Option.some.inj (hn8.symm.trans hnamed)
  cases hmethM.symm.trans hmethM'
  obtain ⟨c2, r2, m2, q1, q2, q3, q4, kP, hkP, hkPi⟩ := Cond.selects_spec hsel
  cases hcls.symm.trans q1
  cases (State.methodFound?_of_named hnamed hy).symm.trans q2
  cases hnamed.symm.trans q3
  have hselP : selectMethod e.platform s.vm cellB.cls mk = .method mk := by rw [Launch.admits_selectMethod X.admits]; exact q4
  obtain ⟨vm₁, X₁, hstep₁⟩ := X.invokevirtual hexec hown hlink hnamed hmethM hstM hkP hkPi hy (a := b) (cell := cellB) hcell
    (fun z h => by rw [h] at hobj; cases hobj) hselP hmethM habM hkP hkPi (g := g) hg (argsL := argsL) (rest := rest) (hlen _ hsigM) hstack hdg
  rcases hK m meth c ⟨T.setVm vm₁, locs, cells, slots⟩ { g with stack := rest } (.invokevirtual index) mk (Value.ref b :: argsL).toArray X₁ hg hsize hdg hW (X₁.named hnamed) (hpre vm₁ X₁.warmed) with ⟨v, B, X', hpost, hsteps⟩ | ⟨q, B, X', hpost, hsteps⟩
  · exact Or.inl ⟨v, vm₁, B, X₁.warmed, X', hpost, fun target h => hstep₁ _ fun acts => by rw [doInvoke_state]; exact hsteps.trans h⟩
  · exact Or.inr ⟨q, vm₁, B, X₁.warmed, X', hpost, hstep₁ _ fun acts => by rw [doInvoke_state]; exact hsteps⟩
theorem vx_callSX (X : Stand p l e R s m args below meth c T locs cells slots) (hexec : p.tables.exec = Jvm.exec) {own : String} {index : Nat} {y : MethodName} {bytes : ByteArray} {maxL : Nat} {ret : Option FieldType} {hh : List (Nat × Nat × Nat × Nat)}
    (hown : s.vm.findClass own = some m.cls) (hlink : (Cond.methodLink own index y).before args s = true) (hstat : (Cond.static y).before args s = true) (hinit : (Cond.initialized y.cls).before args s = true)
    (hcode : (Cond.codeWith y bytes maxL ret hh).before args s = true) (hy : y.cls ≠ "java/lang/invoke/MethodHandle" ∧ y.cls ≠ "java/lang/invoke/VarHandle")
    {W9 : Nat} {Pre : Pt → Array Value → Prop} {Post : Pt → Array Value → Option Value → Pt → Prop} {PostX : Pt → Array Value → Addr → Pt → Prop} (hK : vx_Back l R p e below s args y 3 W9 Pre Post PostX)
    {g : JFrame} (hg : g.method = m) (hsize : g.locals.size = c.maxLocals) {argsL rest : List Value} (hlen : ∀ sig, parseMethodDescriptor y.desc = some sig → argsL.length = sig.parameters.length)
    (hstack : g.stack = argsL.reverse ++ rest) (hW : 2 * g.monitorRoom + (rest.map fun v => v.category).sum ≤ W9) (hdg : decode c.code g.pc = .ok (.invokestatic index, 3))
    (hpre : ∀ vm₁, s.WarmedH vm₁ → Pre ⟨T.setVm vm₁, locs, cells, slots⟩ argsL.toArray) :
    (∃ (v : Option Value) (vm₁ : Vm) (B : Pt), s.WarmedH vm₁ ∧ Stand p l e R s m args below meth c B.U B.locs B.cells B.slots ∧ Post ⟨T.setVm vm₁, locs, cells, slots⟩ argsL.toArray v B ∧
      ∀ target, Steps p.tables e below (B.U.setTop { g with pc := g.pc + 3, stack := v.toList ++ rest }) target → Steps p.tables e below (T.setTop g) target) ∨
    (∃ (q : Addr) (vm₁ : Vm) (B : Pt), s.WarmedH vm₁ ∧ Stand p l e R s m args below meth c B.U B.locs B.cells B.slots ∧ PostX ⟨T.setVm vm₁, locs, cells, slots⟩ argsL.toArray q B ∧
      Steps p.tables e below (T.setTop g) ((B.U.setTop { g with stack := rest }).pushFrame (.throwing q))) := by
  obtain ⟨mk, methM, cM, hnamed, hmethM, -, -, -, -, -, -, hsigM⟩ := Cond.codeWith_spec hcode
  have hstatic : methM.isStatic = true := Cond.static_spec hnamed hmethM hstat
  obtain ⟨kP, hkP, -⟩ := className_of_methodNamed hnamed
  have hinitP : kP.init = .initialized := Cond.initialized_spec (findClass_of_methodNamed hnamed) hkP hinit
  obtain ⟨vm₁, X₁, hstep₁⟩ := X.invokestatic hexec hown hlink hnamed hmethM hstatic hkP hinitP hy (g := g) hg (argsL := argsL) (rest := rest) (hlen _ hsigM) hstack hdg
  rcases hK m meth c ⟨T.setVm vm₁, locs, cells, slots⟩ { g with stack := rest } (.invokestatic index) mk argsL.toArray X₁ hg hsize hdg hW (X₁.named hnamed) (hpre vm₁ X₁.warmed) with ⟨v, B, X', hpost, hsteps⟩ | ⟨q, B, X', hpost, hsteps⟩
  · exact Or.inl ⟨v, vm₁, B, X₁.warmed, X', hpost, fun target h => hstep₁ _ fun acts => by rw [doInvoke_state]; exact hsteps.trans h⟩
  · exact Or.inr ⟨q, vm₁, B, X₁.warmed, X', hpost, hstep₁ _ fun acts => by rw [doInvoke_state]; exact hsteps⟩
theorem vx_callVW (X : Stand p l e R s m args below meth c T locs cells slots) (hexec : p.tables.exec = Jvm.exec) {own C : String} {index : Nat} {y : MethodName} {bytes : ByteArray} {maxL : Nat} {ret : Option FieldType} {hh : List (Nat × Nat × Nat × Nat)}
    (hown : s.vm.findClass own = some m.cls) (hlink : (Cond.methodLink own index y).before args s = true) (hinst : (Cond.instanceMethod y).before args s = true) (hsel : (Cond.selects C y y).before args s = true)
    (hcode : (Cond.codeWith y bytes maxL ret hh).before args s = true) (hy : y.cls ≠ "java/lang/invoke/MethodHandle" ∧ y.cls ≠ "java/lang/invoke/VarHandle")
    {W9 : Nat} {Pre : Pt → Array Value → Prop} {Post : Pt → Array Value → Option Value → Pt → Prop} (hK : Back l R p e below s args y 3 W9 Pre Post)
    {b : Addr} {cellB : Cell} (hcell : T.heap[b]? = some cellB) (hobj : cellB.vm.isStatics = false) (hcls : s.vm.findClass C = some cellB.cls)
    {g : JFrame} (hg : g.method = m) (hsize : g.locals.size = c.maxLocals) {argsL rest : List Value} (hlen : ∀ sig, parseMethodDescriptor y.desc = some sig → argsL.length = sig.parameters.length)
    (hstack : g.stack = argsL.reverse ++ .ref b :: rest) (hW : 2 * g.monitorRoom + (rest.map fun v => v.category).sum ≤ W9) (hdg : decode c.code g.pc = .ok (.invokevirtual index, 3))
    (hpre : ∀ vm₁, s.WarmedH vm₁ → Pre ⟨T.setVm vm₁, locs, cells, slots⟩ (Value.ref b :: argsL).toArray) :
    ∃ (v : Option Value) (vm₁ : Vm) (B : Pt), s.WarmedH vm₁ ∧ Stand p l e R s m args below meth c B.U B.locs B.cells B.slots ∧ Post ⟨T.setVm vm₁, locs, cells, slots⟩ (Value.ref b :: argsL).toArray v B ∧
      ∀ target, Steps p.tables e below (B.U.setTop { g with pc := g.pc + 3, stack := v.toList ++ rest }) target → Steps p.tables e below (T.setTop g) target := by
  obtain ⟨mk, methM, hnamed, hmethM, hstM, habM⟩ := Cond.instanceMethod_spec hinst
  obtain ⟨m8, methM', cM, hn8, hmethM', -, -, -, -, -, -, hsigM⟩ := Cond.codeWith_spec hcode
  cases Option.some.inj (hn8.symm.trans hnamed)
  cases hmethM.symm.trans hmethM'
  obtain ⟨c2, r2, m2, q1, q2, q3, q4, kP, hkP, hkPi⟩ := Cond.selects_spec hsel
  cases hcls.symm.trans q1
  cases (State.methodFound?_of_named hnamed hy).symm.trans q2
  cases hnamed.symm.trans q3
  have hselP : selectMethod e.platform s.vm cellB.cls mk = .method mk := by rw [Launch.admits_selectMethod X.admits]; exact q4
  obtain ⟨vm₁, X₁, hstep₁⟩ := X.invokevirtual hexec hown hlink hnamed hmethM hstM hkP hkPi hy (a := b) (cell := cellB) hcell
    (fun z h => by rw [h] at hobj; cases hobj) hselP hmethM habM hkP hkPi (g := g) hg (argsL := argsL) (rest := rest) (hlen _ hsigM) hstack hdg
  obtain ⟨v, B, X', hpost, hsteps⟩ := hK m meth c ⟨T.setVm vm₁, locs, cells, slots⟩ { g with stack := rest } (.invokevirtual index) mk (Value.ref b :: argsL).toArray X₁ hg hsize hdg hW (X₁.named hnamed) (hpre vm₁ X₁.warmed)
  exact ⟨v, vm₁, B, X₁.warmed, X', hpost, fun target h => hstep₁ _ fun acts => by rw [doInvoke_state]; exact hsteps.trans h⟩
abbrev vx_CVW (R : Room) (s : State) (args : Array Value) (own C : String) (index : Nat) (y : MethodName) (bytes : ByteArray) (maxL : Nat) (ret : Option FieldType) (hh : List (Nat × Nat × Nat × Nat)) (ws : List Cond) (rm : Room) (mc ms n : Nat) : Prop :=
  (rm.cells = mc ∧ rm.slots = ms ∧ rm.frames + 1 ≤ R.frames ∧ 8 + (maxL + 11) + rm.locals ≤ R.locals ∧ (∀ w ∈ ws, ∀ (a' : Array Value) (U : State), s.WarmedH U.vm → w.before a' U = true) ∧ Cond.codeWith y bytes maxL ret hh ∈ ws) ∧
  (Cond.codeWith y bytes maxL ret hh).before args s = true ∧ (Cond.initialized y.cls).before args s = true ∧ (y.cls ≠ "java/lang/invoke/MethodHandle" ∧ y.cls ≠ "java/lang/invoke/VarHandle") ∧
  (∀ sig, parseMethodDescriptor y.desc = some sig → n = sig.parameters.length) ∧ (Cond.methodLink own index y).before args s = true ∧ (Cond.instanceMethod y).before args s = true ∧ (Cond.selects C y y).before args s = true
theorem vx_cwVW {own C : String} {index maxL mc ms : Nat} {y : MethodName} {bytes : ByteArray} {ret : Option FieldType} {hh : List (Nat × Nat × Nat × Nat)} {Ts ws ws' : List Cond} {rm : Room} (n : Nat) (ht : ∀ w ∈ Ts, w.before args s = true) (hT : GoodIn Ts (wsV own index C y ws)) (hw : ws = Cond.codeWith y bytes maxL ret hh :: ws') (hrc : rm.cells = mc) (hrs : rm.slots = ms)
    (hd : y.cls = C ∧ y.cls ≠ "java/lang/invoke/MethodHandle" ∧ y.cls ≠ "java/lang/invoke/VarHandle" ∧ (parseMethodDescriptor y.desc).map (fun d => d.parameters.length) = some n) (hR : rm.frames + 1 ≤ R.frames ∧ 8 + (maxL + 11) + rm.locals ≤ R.locals) :
    vx_CVW R s args own C index y bytes maxL ret hh ws rm mc ms n := by
  obtain ⟨hC, hd⟩ := hd
  subst hC
  have ok : ∀ w ∈ wsV own index y.cls y ws, w.before args s = true := fun w h => ht w (hT w h).1
  have hG : GoodIn Ts ws := fun w h => hT w (by unfold wsV; exact List.mem_append_right _ h)
  have hc : Cond.codeWith y bytes maxL ret hh ∈ ws := by rw [hw]; exact List.mem_cons_self
  refine ⟨⟨hrc, hrs, hR.1, hR.2, pay_in ht hG, hc⟩, ht _ (hG _ hc).1, ok _ (by simp [wsV]), ⟨hd.1, hd.2.1⟩, fun sig h => ?_, ok _ (by simp [wsV]), ok _ (by simp [wsV]), ok _ (by simp [wsV])⟩
  have h2 := hd.2.2
  rw [h] at h2
  exact (Option.some.inj h2).symm
theorem vx_runVW {y : MethodName} {bytes cc : ByteArray} {maxL nL mc ms n index : Nat} {ret : Option FieldType} {hh : List (Nat × Nat × Nat × Nat)} {ws : List Cond} {rm : Room} {Pc : Array Value → State → Prop} {Qc : Array Value → State → Outcome → State → Prop} {free : Addr → Prop} {Ts : List Cond} {own C : String} {b : Addr} {As rest : List Value} {g : JFrame}
    (S : CallFix p m c cc nL s args Ts own) (hM : Met l y ws rm Pc Qc mc ms free) (cw : vx_CVW R s args own C index y bytes maxL ret hh ws rm mc ms n) (hp : PreV s H C b Pc As)
    (hg : g.method = m) (hn : As.length = n) (hsize : g.locals.size = nL) (hstack : g.stack = As.reverse ++ .ref b :: rest) (hW : 2 * g.monitorRoom + (rest.map fun v => v.category).sum ≤ 8) (hdg : decode cc g.pc = .ok (.invokevirtual index, 3)) (hf : cells + mc ≤ R.cells ∧ slots + ms ≤ R.slots) :
    va_Run p l e R s m args below meth c H locs cells slots mc ms g rest (Qc (Value.ref b :: As).toArray) free := by
  obtain ⟨⟨hrc, hrs, hfr, hlo, hws, hcw⟩, hcode, hini, hy, hlen, hl, hin, hse⟩ := cw
  have hK : Back l R p e below s args y 3 8 (PreOf R mc ms Pc) (PostOf Qc mc ms free) := va_backW (hh := hh) (bytes := bytes) (maxL := maxL) (ret := ret) hM hp.1 hrc hrs hfr hlo hws hcw (fun a' U hW => word_at hW (Or.inl (by first | rfl | simp [Cond.onTables, Cond.keeps, Cond.steady])) hini)
  obtain ⟨hx, hb, hml, ho, -⟩ := S
  obtain ⟨-, ⟨cellB, hcB, hoB, hclB⟩, hPc⟩ := hp
  intro T hT X
  obtain ⟨v, vm₁, ⟨U', l2, c2, s2⟩, hW₁, X', ⟨g', mk, t, L, e1, e2, hq, h1, hL, h2, h3⟩, st⟩ := vx_callVW X hx (C := C) (hh := hh) (bytes := bytes) (maxL := maxL) (ret := ret) ho hl hin hse hcode hy hK (by rw [hT]; exact hcB) hoB hclB hg (hsize.trans hml.symm) (argsL := As) (rest := rest) (fun sig h => hn.trans (hlen sig h)) hstack hW (by rw [hb]; exact hdg)
    (fun vm₁ hW₁ => ⟨hf.1, hf.2, hPc (T.setVm vm₁) hT hW₁⟩)
  dsimp only [Pt.U, Pt.locs, Pt.cells, Pt.slots] at X' e1 e2 h1 h2 h3 st
  subst h1; subst h2; subst h3
  exact ⟨v, (T.setVm vm₁).calling g' mk (Value.ref b :: As).toArray, t, U', L, hT, X', hL, e1, e2, hq, st⟩
section
variable {y : MethodName} {bytes cc : ByteArray} {maxL nL mc ms n index : Nat} {ret : Option FieldType} {ws : List Cond} {rm : Room} {Pc : Array Value → State → Prop} {Qc : Array Value → State → Outcome → State → Prop} {XC : String → State → State → Prop} {free : Addr → Prop} {Ts : List Cond} {own C : String} {b : Addr} {As rest : List Value} {g : JFrame}
theorem vx_runVX {hh : List (Nat × Nat × Nat × Nat)} (S : CallFix p m c cc nL s args Ts own) (hM : vx_Met l y ws rm Pc Qc XC mc ms free) (cw : vx_CVW R s args own C index y bytes maxL ret hh ws rm mc ms n) (hp : PreV s H C b Pc As)
    (hg : g.method = m) (hn : As.length = n) (hsize : g.locals.size = nL) (hstack : g.stack = As.reverse ++ .ref b :: rest) (hW : 2 * g.monitorRoom + (rest.map fun v => v.category).sum ≤ 8) (hdg : decode cc g.pc = .ok (.invokevirtual index, 3)) (hf : cells + mc ≤ R.cells ∧ slots + ms ≤ R.slots) :
    vx_Run p l e R s m args below meth c H locs cells slots mc ms g rest (Qc (Value.ref b :: As).toArray) XC free := by
  obtain ⟨⟨hrc, hrs, hfr, hlo, hws, hcw⟩, hcode, hini, hy, hlen, hl, hin, hse⟩ := cw
  have hK : vx_Back l R p e below s args y 3 8 (PreOf R mc ms Pc) (PostOf Qc mc ms free) (vx_Post XC mc ms free) := vx_backW (hh := hh) (bytes := bytes) (maxL := maxL) (ret := ret) hM hp.1 hrc hrs hfr hlo hws hcw (fun a' U hW => word_at hW (Or.inl (by first | rfl | simp [Cond.onTables, Cond.keeps, Cond.steady])) hini)
  obtain ⟨hx, hb, hml, ho, -⟩ := S
  obtain ⟨-, ⟨cellB, hcB, hoB, hclB⟩, hPc⟩ := hp
  intro T hT X
  rcases vx_callVX X hx (C := C) (hh := hh) (bytes := bytes) (maxL := maxL) (ret := ret) ho hl hin hse hcode hy hK (by rw [hT]; exact hcB) hoB hclB hg (hsize.trans hml.symm) (argsL := As) (rest := rest) (fun sig h => hn.trans (hlen sig h)) hstack hW (by rw [hb]; exact hdg)
    (fun vm₁ hW₁ => ⟨hf.1, hf.2, hPc (T.setVm vm₁) hT hW₁⟩) with ⟨v, vm₁, ⟨U', l2, c2, s2⟩, hW₁, X', ⟨g', mk, t, L, e1, e2, hq, h1, hL, h2, h3⟩, st⟩ | ⟨q, vm₁, ⟨U', l2, c2, s2⟩, hW₁, X', ⟨g', mk, t, L, E, ce, e1, e2, hq, hce, hcv, hcl, h1, hL, h2, h3⟩, st⟩
  · dsimp only [Pt.U, Pt.locs, Pt.cells, Pt.slots] at X' e1 e2 h1 h2 h3 st
    subst h1; subst h2; subst h3
    exact Or.inl ⟨v, (T.setVm vm₁).calling g' mk (Value.ref b :: As).toArray, t, U', L, hT, X', hL, e1, e2, hq, st⟩
  · dsimp only [Pt.U, Pt.locs, Pt.cells, Pt.slots] at X' e1 e2 h1 h2 h3 st hcl
    subst h1; subst h2; subst h3
    exact Or.inr ⟨q, (T.setVm vm₁).calling g' mk (Value.ref b :: As).toArray, t, U', L, E, ce, hT, X', hL, e1, e2, hq, hce, hcv, vx_cls hW₁ hcl, st⟩
theorem vx_runSX {hh : List (Nat × Nat × Nat × Nat)} (S : CallFix p m c cc nL s args Ts own) (hM : vx_Met l y ws rm Pc Qc XC mc ms free) (cw : vx_CSW R s args own index y bytes maxL ret hh ws rm mc ms n) (hp : PreS s H Pc As)
    (hg : g.method = m) (hn : As.length = n) (hsize : g.locals.size = nL) (hstack : g.stack = As.reverse ++ rest) (hW : 2 * g.monitorRoom + (rest.map fun v => v.category).sum ≤ 8) (hdg : decode cc g.pc = .ok (.invokestatic index, 3)) (hf : cells + mc ≤ R.cells ∧ slots + ms ≤ R.slots) :
    vx_Run p l e R s m args below meth c H locs cells slots mc ms g rest (Qc As.toArray) XC free := by
  obtain ⟨⟨hrc, hrs, hfr, hlo, hws, hcw⟩, hcode, hini, hy, hlen, hl, hstt⟩ := cw
  have hK : vx_Back l R p e below s args y 3 8 (PreOf R mc ms Pc) (PostOf Qc mc ms free) (vx_Post XC mc ms free) := vx_backW (hh := hh) (bytes := bytes) (maxL := maxL) (ret := ret) hM hp.1 hrc hrs hfr hlo hws hcw (fun a' U hW => word_at hW (Or.inl (by first | rfl | simp [Cond.onTables, Cond.keeps, Cond.steady])) hini)
  obtain ⟨hx, hb, hml, ho, -⟩ := S
  intro T hT X
  rcases vx_callSX X hx (hh := hh) (bytes := bytes) (maxL := maxL) (ret := ret) ho hl hstt hini hcode hy hK hg (hsize.trans hml.symm) (argsL := As) (rest := rest) (fun sig h => hn.trans (hlen sig h)) hstack hW (by rw [hb]; exact hdg)
    (fun vm₁ hW₁ => ⟨hf.1, hf.2, hp.2 (T.setVm vm₁) hT hW₁⟩) with ⟨v, vm₁, ⟨U', l2, c2, s2⟩, hW₁, X', ⟨g', mk, t, L, e1, e2, hq, h1, hL, h2, h3⟩, st⟩ | ⟨q, vm₁, ⟨U', l2, c2, s2⟩, hW₁, X', ⟨g', mk, t, L, E, ce, e1, e2, hq, hce, hcv, hcl, h1, hL, h2, h3⟩, st⟩
  · dsimp only [Pt.U, Pt.locs, Pt.cells, Pt.slots] at X' e1 e2 h1 h2 h3 st
    subst h1; subst h2; subst h3
    exact Or.inl ⟨v, (T.setVm vm₁).calling g' mk As.toArray, t, U', L, hT, X', hL, e1, e2, hq, st⟩
  · dsimp only [Pt.U, Pt.locs, Pt.cells, Pt.slots] at X' e1 e2 h1 h2 h3 st hcl
    subst h1; subst h2; subst h3
    exact Or.inr ⟨q, (T.setVm vm₁).calling g' mk As.toArray, t, U', L, E, ce, hT, X', hL, e1, e2, hq, hce, hcv, vx_cls hW₁ hcl, st⟩
end
end VXH
theorem vx_ofWH {l : Launch} {y : MethodName} {ws ws' : List Cond} {rm : Room} {Pc : Array Value → State → Prop} {Qc : Array Value → State → Outcome → State → Prop} {XC : String → State → State → Prop} {mc ms : Nat} {free : Addr → Prop} {cc : ByteArray} {maxL : Nat} {ret : Option FieldType} {hh : List (Nat × Nat × Nat × Nat)}
    (hy : plainName y.cls = true) (hw : ws = Cond.codeWith y cc maxL ret hh :: ws')
    (body : ∀ p e s m args below meth c s₁, BodyLoose p l y (headSpec ws rm) cc maxL ret e s m args below meth c s₁ → c.maxLocals = maxL → Pc args s →
      W p l e (headSpec ws rm).room s m args below meth c s.heap [] 0 0 (vx_MQ below Qc XC args s mc ms free) (entryFrame m args maxL)) : vx_Met l y ws rm Pc Qc XC mc ms free := by
  refine MetFree.of_bodyS (code := cc) (maxLocals := maxL) (ret := ret) hy ?_ ?_
  · intro args s m h hn
    obtain ⟨m9, meth, c, hn9, h1, h2, h3, h4, -, h5, h6, -⟩ := Cond.codeWith_spec (atoms_spec (ws := ws) h _ (by rw [hw]; exact List.mem_cons_self))
    cases hn.symm.trans hn9
    exact ⟨meth, c, h1, h2, h3, h4, h5, h6⟩
  · intro p e s m args below meth c s₁ B hml hP _
    have hh0 : s₁.heap = s.heap := by rw [B.state]; rfl
    obtain ⟨t, a1, o, b1, b2, b3⟩ := body p e s m args below meth c s₁ B hml hP s₁ hh0 (Stand.of_body B)
    exact ⟨t, o, a1, b1, b2, b3⟩
/-! ===== END ===== -/
end
section
/-! ===== THE A-LAYER: the machine's rows over places instead of addresses; a block of instructions is one row, by computation ===== -/
-- words that keep: all good words of the tables, and the links to nest mates
def isN : Cond → Bool
  | .fieldLinkNest _ _ _ _ _ _ => true
  | .methodLinkNest _ _ _ _ => true
  | _ => false
def kwl : List Cond := lw_tbl.filter (fun w => goodWord w || isN w)
def kw (U : State) : Prop := ∀ w ∈ kwl, w.before #[] U = true
theorem kw_one {args args' : Array Value} {s U : State} (hW : s.WarmedH U.vm) {w : Cond} (hg : (goodWord w || isN w) = true) (h : w.before args s = true) : w.before args' U = true := by
  rcases Bool.or_eq_true _ _ ▸ hg with h1 | h1
  · exact word_at hW (good_of_word h1) h
  · cases w with
    | methodLinkNest a b d f => exact va_Nw.use rfl (va_Nw.warmM hW (va_Nw.of rfl h))
    | fieldLinkNest a b d f g k => exact va_Nw.use rfl (va_Nw.warmF hW (va_Nw.of rfl h))
    | _ => exact absurd h1 (by simp [isN])
theorem kw.moved {s U : State} (hW : s.WarmedH U.vm) (h : kw s) : kw U := fun w hw => kw_one hW (List.mem_filter.mp hw).2 (h w hw)
theorem kw.use {args : Array Value} {s : State} (h : kw s) : ∀ w ∈ kwl, w.before args s = true := fun w hw => kw_one (State.WarmedH.refl s) (List.mem_filter.mp hw).2 (h w hw)
theorem kw.of {args : Array Value} {s : State} (h : ∀ w ∈ lw_tbl, w.before args s = true) : kw s := fun w hw => kw_one (State.WarmedH.refl s) (List.mem_filter.mp hw).2 (h w (List.mem_filter.mp hw).1)
theorem kw_mem {w : Cond} (h : w ∈ lw_tbl) (hg : (goodWord w || isN w) = true) : w ∈ kwl := List.mem_filter.mpr ⟨h, hg⟩
-- abstract cells: arrays of ints, of longs, objects (number of the class, fields); a reference is a place
abbrev aE : Type := (Nat × (Nat → Int32)) ⊕ (Nat × (Nat → Int64)) ⊕ (Nat × List Value)
abbrev aH : Type := List aE
abbrev aV : Type := List (Nat × Value)
abbrev aI (n : Nat) (f : Nat → Int32) : aE := .inl (n, f)
abbrev aL (n : Nat) (f : Nat → Int64) : aE := .inr (.inl (n, f))
abbrev aO (k : Nat) (fs : List Value) : aE := .inr (.inr (k, fs))
def ev (ad : Nat → Nat) : Value → Value
  | .ref i => .ref (ad i)
  | v => v
def ee (cI cL : ClassId) (ad : Nat → Nat) : aE → va_E
  | .inl x => .inl (cI, x.1, .inl x.2)
  | .inr (.inl x) => .inl (cL, x.1, .inr (.inl x.2))
  | .inr (.inr x) => .inr (x.1, x.2.map (ev ad))
def wl (cI cL : ClassId) (ad : Nat → Nat) (h : aH) : va_W := h.mapIdx (fun i e => (ad i, ee cI cL ad e))
def el (ad : Nat → Nat) (lv : aV) : aV := lv.map (fun q => (q.1, ev ad q.2))
theorem ev_cat (ad : Nat → Nat) (v : Value) : (ev ad v).category = v.category := by cases v <;> rfl
theorem wl_get {cI cL : ClassId} {ad : Nat → Nat} {h : aH} {i : Nat} {e : aE} (hi : h[i]? = some e) : (wl cI cL ad h)[i]? = some (ad i, ee cI cL ad e) := by
  simp [wl, List.getElem?_mapIdx, hi]
theorem wl_set {cI cL : ClassId} {ad : Nat → Nat} {h : aH} {i : Nat} {e : aE} : wl cI cL ad (h.set i e) = (wl cI cL ad h).set i (ad i, ee cI cL ad e) := by
  refine List.ext_getElem? fun k => ?_
  simp only [wl, List.getElem?_mapIdx, List.getElem?_set, List.length_mapIdx]
  by_cases hk : i = k
  · subst hk
    by_cases hl : i < h.length <;> simp [hl]
  · simp [hk]
theorem wl_snoc {cI cL : ClassId} {ad : Nat → Nat} {h : aH} {e : aE} : wl cI cL ad (h ++ [e]) = wl cI cL ad h ++ [(ad h.length, ee cI cL ad e)] := by
  simp [wl, List.mapIdx_append]
-- the frame: program, launch, environment, room, start, method, arguments, frames below, method, code, goal, names of the classes and fields, class of int[], of long[], what may be written, the first places, the script
abbrev aG : Type := Program × Launch × Env × Room × State × MethodId × Array Value × List Frame × Method × Code × (State → Prop) × va_G × ClassId × ClassId × (Nat → Prop) × (Nat → Nat) × Option (Nat × Nat × (Nat → Int32))
-- a method: its class, code, number of locals, number of places at its entry
abbrev aM : Type := String × ByteArray × Nat × Nat
def aok (M : aM) : aG → Prop
  | (p, _, _, _, s, m, _, _, _, c, _, D, cI, cL, A, ad0, X) => p.tables.exec = Jvm.exec ∧ c.code = M.2.1 ∧ c.maxLocals = M.2.2.1 ∧ s.vm.findClass M.1 = some m.cls ∧ kw s ∧ va_K D vwCl [(cI, .int), (cL, .long)] s ∧ (∀ q, s.heap.size ≤ q → A q) ∧
      ∀ pl L xs, X = some (pl, L, xs) → 100 ≤ pl ∧ va_X (ad0 pl) L xs s s.heap ∧ ad0 pl < s.heap.size ∧ ¬ A (ad0 pl)
def aRm : aG → Room
  | (_, _, _, R, _) => R
def AW (G : aG) (M : aM) (h : aH) (kc ks pc : Nat) (lv : aV) (st : List Value) : Prop := aok M G → match G with
  | (p, l, e, R, s, m, args, below, meth, c, Q, D, cI, cL, A, ad0, _) => ∀ (ad : Nat → Nat) (H : Heap) (locs : List Loc) (ls : Array Slot), (∀ i, i < M.2.2.2 ∨ 100 ≤ i → ad i = ad0 i) →
      va_P D vwCl (wl cI cL ad h) H → va_D A (wl cI cL ad h) → va_S A s.heap H locs → lv_has ls M.2.2.1 (el ad lv) → W p l e R s m args below meth c H locs kc ks Q (F0 m pc ls (st.map (ev ad)))
-- locals
def lk : aV → Nat → Option Value
  | [], _ => none
  | (j, v) :: r, i => bif Nat.beq j i then some v else lk r i
def stl (i : Nat) (v : Value) (lv : aV) : aV := (i, v) :: lv.filter (fun q => !(q.1 == i) && !(q.1 + 1 == i && q.2.category == 2))
def stl2 (i : Nat) (v : Value) (lv : aV) : aV := (i, v) :: lv.filter (fun q => !(q.1 == i) && (!(q.1 == i + 1) && !(q.1 + 1 == i && q.2.category == 2)))
theorem lk_at {ad : Nat → Nat} {ls : Array Slot} {nL i : Nat} {v : Value} : ∀ {lv : aV}, lv_has ls nL (el ad lv) → lk lv i = some v → ls[i]? = some (.val (ev ad v)) := by
  intro lv h
  have key : ∀ (l : aV), (∀ q ∈ l, q ∈ lv) → lk l i = some v → ls[i]? = some (.val (ev ad v)) := by
    intro l
    induction l with
    | nil => intro _ hl; simp [lk] at hl
    | cons q r ih =>
      intro hs hl
      obtain ⟨j, w⟩ := q
      cases hb : Nat.beq j i with
      | true =>
        simp only [lk, hb, cond_true] at hl
        cases hl
        have hj : j = i := Nat.eq_of_beq_eq_true hb
        subst hj
        exact h.2.2 (j, ev ad v) (List.mem_map.mpr ⟨(j, v), hs _ List.mem_cons_self, rfl⟩)
      | false =>
        simp only [lk, hb, cond_false] at hl
        exact ih (fun q hq => hs q (List.mem_cons_of_mem _ hq)) hl
  exact key lv (fun _ hq => hq)
theorem el_stl {ad : Nat → Nat} {i : Nat} {v : Value} {lv : aV} : (i, ev ad v) :: (el ad lv).filter (fun q => !(q.1 == i) && !(q.1 + 1 == i && q.2.category == 2)) = el ad (stl i v lv) := by
  simp only [el, stl, List.map_cons, List.filter_map]
  congr 2
  refine List.filter_congr fun q _ => ?_
  simp [ev_cat]
theorem el_stl2 {ad : Nat → Nat} {i : Nat} {v : Value} {lv : aV} : (i, ev ad v) :: (el ad lv).filter (fun q => !(q.1 == i) && (!(q.1 == i + 1) && !(q.1 + 1 == i && q.2.category == 2))) = el ad (stl2 i v lv) := by
  simp only [el, stl2, List.map_cons, List.filter_map]
  congr 2
  refine List.filter_congr fun q _ => ?_
  simp [ev_cat]
-- fewer, or otherwise ordered locals
def lsub (lv' lv : aV) : Prop := ∀ q ∈ lv', q ∈ lv
theorem AW.sub {G : aG} {M : aM} {h : aH} {kc ks pc : Nat} {lv lv' : aV} {st : List Value} (hs : lsub lv' lv) (k : AW G M h kc ks pc lv' st) : AW G M h kc ks pc lv st := by
  obtain ⟨p, l, e, R, s, m, args, below, meth, c, Q, D, cI, cL, A, ad0, X⟩ := G
  intro ok ad H locs ls ha hP hD hS hl
  refine k ok ad H locs ls ha hP hD hS ⟨hl.1, hl.2.1, fun q hq => hl.2.2 q ?_⟩
  obtain ⟨x, hx, rfl⟩ := List.mem_map.mp hq
  exact List.mem_map.mpr ⟨x, hs x hx, rfl⟩
theorem AW.widen {G : aG} {M : aM} {h : aH} {kc ks kc' ks' pc : Nat} {lv : aV} {st : List Value} (h1 : kc ≤ kc') (h2 : ks ≤ ks') (k : AW G M h kc' ks' pc lv st) : AW G M h kc ks pc lv st := by
  obtain ⟨p, l, e, R, s, m, args, below, meth, c, Q, D, cI, cL, A, ad0, X⟩ := G
  intro ok ad H locs ls ha hP hD hS hl
  exact W.widen h1 h2 (k ok ad H locs ls ha hP hD hS hl)
-- the last places are forgotten
theorem wl_take {cI cL : ClassId} {ad : Nat → Nat} {h : aH} {n : Nat} : wl cI cL ad (h.take n) = (wl cI cL ad h).take n := by
  refine List.ext_getElem? fun k => ?_
  simp only [wl, List.getElem?_mapIdx, List.getElem?_take]
  by_cases hk : k < n <;> simp [hk]
theorem va_P_take {D : va_G} {cl : List vw_C} {ws : va_W} {H : Heap} (n : Nat) (h : va_P D cl ws H) : va_P D cl (ws.take n) H := fun k q hq => by
  rw [List.getElem?_take] at hq
  by_cases hk : k < n
  · rw [if_pos hk] at hq; exact h k q hq
  · rw [if_neg hk] at hq; cases hq
theorem va_D_take {A : Nat → Prop} {ws : va_W} (n : Nat) (h : va_D A ws) : va_D A (ws.take n) := by
  have t : ∀ (k : Nat) (q : Nat × va_E), (ws.take n)[k]? = some q → ws[k]? = some q := fun k q hq => by
    rw [List.getElem?_take] at hq
    by_cases hk : k < n
    · rw [if_pos hk] at hq; exact hq
    · rw [if_neg hk] at hq; cases hq
  exact ⟨fun i j p q hi hj he => h.1 i j p q (t i p hi) (t j q hj) he, fun k q hk => h.2 k q (t k q hk)⟩
theorem AW.drop {G : aG} {M : aM} {h h' : aH} {kc ks pc : Nat} {lv : aV} {st : List Value} (n : Nat) (hh : h.take n = h') (k : AW G M h' kc ks pc lv st) : AW G M h kc ks pc lv st := by
  obtain ⟨p, l, e, R, s, m, args, below, meth, c, Q, D, cI, cL, A, ad0, X⟩ := G
  subst hh
  intro ok ad H locs ls ha hP hD hS hl
  refine k ok ad H locs ls ha ?_ ?_ hS hl
  · rw [wl_take]; exact va_P_take n hP
  · rw [wl_take]; exact va_D_take n hD
-- cells that hold the same
def ceq : aE → aE → Prop
  | .inl x, .inl y => x.1 = y.1 ∧ ∀ j, j < x.1 → x.2 j = y.2 j
  | .inr (.inl x), .inr (.inl y) => x.1 = y.1 ∧ ∀ j, j < x.1 → x.2 j = y.2 j
  | .inr (.inr x), .inr (.inr y) => x = y
  | _, _ => False
def hq9 : aH → aH → Prop
  | [], [] => True
  | a :: r, b :: q => ceq a b ∧ hq9 r q
  | _, _ => False
theorem arrV_congr {cA : ClassId} {n : Nat} {f g : Nat → Value} (h : ∀ j, j < n → f j = g j) : arrV cA n f = arrV cA n g := by
  have e : (fun j : Fin n => f j.val) = (fun j : Fin n => g j.val) := funext fun j => h j.val j.isLt
  unfold arrV
  rw [e]
theorem heq_get : ∀ {h g : aH}, hq9 h g → ∀ (k : Nat) (b : aE), g[k]? = some b → ∃ a, h[k]? = some a ∧ ceq a b := by
  intro h
  induction h with
  | nil => intro g hg k b hb; cases g with
    | nil => simp at hb
    | cons y q => exact hg.elim
  | cons x r ih => intro g hg k b hb; cases g with
    | nil => exact hg.elim
    | cons y q =>
      cases k with
      | zero => simp at hb; subst hb; exact ⟨x, rfl, hg.1⟩
      | succ k => simpa using ih hg.2 k b (by simpa using hb)
theorem heq_P {D : va_G} {cl : List vw_C} {cI cL : ClassId} {ad : Nat → Nat} {h g : aH} {H : Heap} (he : hq9 h g) (hP : va_P D cl (wl cI cL ad h) H) : va_P D cl (wl cI cL ad g) H := by
  intro k q hq
  simp only [wl, List.getElem?_mapIdx] at hq
  cases hb : g[k]? with
  | none => rw [hb] at hq; simp at hq
  | some b =>
    rw [hb] at hq
    simp at hq
    subst hq
    obtain ⟨a, ha, hc⟩ := heq_get he k b hb
    have h1 := hP k _ (wl_get ha)
    rcases a with ⟨n, f⟩ | ⟨n, f⟩ | ⟨n, f⟩ <;> rcases b with ⟨n', f'⟩ | ⟨n', f'⟩ | ⟨n', f'⟩ <;> first | exact hc.elim | skip
    · obtain ⟨rfl, hf⟩ := hc
      show H[ad k]? = some (vp_cell _ _)
      have h2 : H[ad k]? = some (vp_cell cI (n, .inl f)) := h1
      rw [h2, vp_cell_i, vp_cell_i]
      exact congrArg some (arrV_congr (f := fun j => .int (f j)) (g := fun j => .int (f' j)) (fun j hj => congrArg Value.int (hf j hj)))
    · obtain ⟨rfl, hf⟩ := hc
      show H[ad k]? = some (vp_cell _ _)
      have h2 : H[ad k]? = some (vp_cell cL (n, .inr (.inl f))) := h1
      rw [h2, vp_cell_l, vp_cell_l]
      exact congrArg some (arrV_congr (f := fun j => .long (f j)) (g := fun j => .long (f' j)) (fun j hj => congrArg Value.long (hf j hj)))
    · cases hc; exact h1
theorem heq_D {A : Nat → Prop} {cI cL : ClassId} {ad : Nat → Nat} {h g : aH} (he : hq9 h g) (hD : va_D A (wl cI cL ad h)) : va_D A (wl cI cL ad g) := by
  have t : ∀ (k : Nat) (q : Nat × va_E), (wl cI cL ad g)[k]? = some q → ∃ q', (wl cI cL ad h)[k]? = some q' ∧ q'.1 = q.1 := fun k q hq => by
    simp only [wl, List.getElem?_mapIdx] at hq
    cases hb : g[k]? with
    | none => rw [hb] at hq; simp at hq
    | some b =>
      rw [hb] at hq
      simp at hq
      subst hq
      obtain ⟨a, ha, hc⟩ := heq_get he k b hb
      exact ⟨_, wl_get ha, rfl⟩
  refine ⟨fun i j p q hi hj he => ?_, fun k q hk => ?_⟩
  · obtain ⟨p', hp, e1⟩ := t i p hi
    obtain ⟨q', hq, e2⟩ := t j q hj
    exact hD.1 i j p' q' hp hq (by rw [e1, e2, he])
  · obtain ⟨q', hq, e2⟩ := t k q hk
    rw [← e2]; exact hD.2 k q' hq
theorem AW.same {G : aG} {M : aM} {h h' : aH} {kc ks pc : Nat} {lv : aV} {st : List Value} (hh : hq9 h h') (k : AW G M h' kc ks pc lv st) : AW G M h kc ks pc lv st := by
  obtain ⟨p, l, e, R, s, m, args, below, meth, c, Q, D, cI, cL, A, ad0, X⟩ := G
  intro ok ad H locs ls ha hP hD hS hl
  exact k ok ad H locs ls ha (heq_P hh hP) (heq_D hh hD) hS hl
end
section
/-! ===== a block of instructions, by computation ===== -/
abbrev Rs : Type := Option (aV × List Value × aH × List Prop)
def fnd : List (Nat × Nat × Nat) → Nat → Option (Nat × Nat)
  | [], _ => none
  | (i, c, k) :: r, x => bif Nat.beq i x then some (c, k) else fnd r x
theorem fnd_mem : ∀ {L : List (Nat × Nat × Nat)} {x c k : Nat}, fnd L x = some (c, k) → (x, c, k) ∈ L := by
  intro L
  induction L with
  | nil => intro x c k h; simp [fnd] at h
  | cons q r ih =>
    intro x c k h
    obtain ⟨i, c', k'⟩ := q
    cases hb : Nat.beq i x with
    | true =>
      simp only [fnd, hb, cond_true] at h
      cases h
      have hj : i = x := Nat.eq_of_beq_eq_true hb
      subst hj
      exact List.mem_cons_self
    | false =>
      simp only [fnd, hb, cond_false] at h
      exact List.mem_cons_of_mem _ (ih h)
def r_iload (lv : aV) (st : List Value) (h : aH) (k : Nat) : Rs := match lk lv k with
  | some (.int x) => some (lv, .int x :: st, h, [])
  | _ => none
def r_aload (lv : aV) (st : List Value) (h : aH) (k : Nat) : Rs := match lk lv k with
  | some (.ref x) => some (lv, .ref x :: st, h, [])
  | _ => none
def r_lload (lv : aV) (st : List Value) (h : aH) (k : Nat) : Rs := match lk lv k with
  | some (.long x) => some (lv, .long x :: st, h, [])
  | _ => none
def r_dload (lv : aV) (st : List Value) (h : aH) (k : Nat) : Rs := match lk lv k with
  | some (.double x) => some (lv, .double x :: st, h, [])
  | _ => none
def r_istore (nL : Nat) (lv : aV) (st : List Value) (h : aH) (k : Nat) : Rs := match st with
  | .int x :: r => bif Nat.blt k nL then some (stl k (.int x) lv, r, h, []) else none
  | _ => none
def r_astore (nL : Nat) (lv : aV) (st : List Value) (h : aH) (k : Nat) : Rs := match st with
  | .ref x :: r => bif Nat.blt k nL then some (stl k (.ref x) lv, r, h, []) else none
  | _ => none
def r_lstore (nL : Nat) (lv : aV) (st : List Value) (h : aH) (k : Nat) : Rs := match st with
  | .long x :: r => bif Nat.blt (k + 1) nL then some (stl2 k (.long x) lv, r, h, []) else none
  | _ => none
def r_dstore (nL : Nat) (lv : aV) (st : List Value) (h : aH) (k : Nat) : Rs := match st with
  | .double x :: r => bif Nat.blt (k + 1) nL then some (stl2 k (.double x) lv, r, h, []) else none
  | _ => none
def r_iinc (nL : Nat) (lv : aV) (st : List Value) (h : aH) (k : Nat) (n : Int) : Rs := match lk lv k with
  | some (.int x) => bif Nat.blt k nL then some (stl k (.int (x + Int32.ofInt n)) lv, st, h, []) else none
  | _ => none
def r_bin (f : Int32 → Int32 → Int32) (lv : aV) (st : List Value) (h : aH) : Rs := match st with
  | .int y :: .int x :: r => some (lv, .int (f x y) :: r, h, [])
  | _ => none
def r_div (f : Int32 → Int32 → Int32) (lv : aV) (st : List Value) (h : aH) : Rs := match st with
  | .int y :: .int x :: r => some (lv, .int (f x y) :: r, h, [¬ y = 0])
  | _ => none
def r_binl (f : Int64 → Int64 → Int64) (lv : aV) (st : List Value) (h : aH) : Rs := match st with
  | .long y :: .long x :: r => some (lv, .long (f x y) :: r, h, [])
  | _ => none
def r_i2l (lv : aV) (st : List Value) (h : aH) : Rs := match st with
  | .int x :: r => some (lv, .long x.toInt64 :: r, h, [])
  | _ => none
def r_i2d (lv : aV) (st : List Value) (h : aH) : Rs := match st with
  | .int x :: r => some (lv, .double (FP.i2d x) :: r, h, [])
  | _ => none
def r_dup (lv : aV) (st : List Value) (h : aH) : Rs := match st with
  | v :: r => bif Nat.beq v.category 1 then some (lv, v :: v :: r, h, []) else none
  | _ => none
def r_dup2 (lv : aV) (st : List Value) (h : aH) : Rs := match st with
  | v :: w :: r => bif Nat.beq v.category 1 && Nat.beq w.category 1 then some (lv, v :: w :: v :: w :: r, h, []) else none
  | _ => none
def r_pop (lv : aV) (st : List Value) (h : aH) : Rs := match st with
  | v :: r => bif Nat.beq v.category 1 then some (lv, r, h, []) else none
  | _ => none
def r_get (FT : List (Nat × Nat × Nat)) (idx : Nat) (lv : aV) (st : List Value) (h : aH) : Rs := match st with
  | .ref a :: r => match h[a]? with
    | some (.inr (.inr x)) => match fnd FT idx with
      | some y => bif Nat.beq x.1 y.1 then (match x.2[y.2]? with
        | some v => some (lv, v :: r, h, [])
        | none => none) else none
      | none => none
    | _ => none
  | _ => none
def r_put (PT : List (Nat × Nat × Nat)) (idx : Nat) (lv : aV) (st : List Value) (h : aH) : Rs := match st with
  | .int v :: .ref a :: r => match h[a]? with
    | some (.inr (.inr x)) => match fnd PT idx with
      | some y => bif Nat.beq x.1 y.1 && Nat.blt y.2 x.2.length then some (lv, r, h.set a (aO x.1 (x.2.set y.2 (.int v))), []) else none
      | none => none
    | _ => none
  | _ => none
def r_iald (lv : aV) (st : List Value) (h : aH) : Rs := match st with
  | .int i :: .ref a :: r => match h[a]? with
    | some (.inl x) => some (lv, .int (x.2 i.toNatClampNeg) :: r, h, [vp_in i x.1])
    | _ => none
  | _ => none
def r_iast (lv : aV) (st : List Value) (h : aH) : Rs := match st with
  | .int v :: .int i :: .ref a :: r => match h[a]? with
    | some (.inl x) => some (lv, r, h.set a (aI x.1 (upd x.2 i.toNatClampNeg v)), [vp_in i x.1])
    | _ => none
  | _ => none
def r_lald (lv : aV) (st : List Value) (h : aH) : Rs := match st with
  | .int i :: .ref a :: r => match h[a]? with
    | some (.inr (.inl x)) => some (lv, .long (x.2 i.toNatClampNeg) :: r, h, [vp_in i x.1])
    | _ => none
  | _ => none
def r_last (lv : aV) (st : List Value) (h : aH) : Rs := match st with
  | .long v :: .int i :: .ref a :: r => match h[a]? with
    | some (.inr (.inl x)) => some (lv, r, h.set a (aL x.1 (vp_updL x.2 i.toNatClampNeg v)), [vp_in i x.1])
    | _ => none
  | _ => none
def r_alen (lv : aV) (st : List Value) (h : aH) : Rs := match st with
  | .ref a :: r => match h[a]? with
    | some (.inl x) => some (lv, .int (Int32.ofNat x.1) :: r, h, [])
    | _ => none
  | _ => none
def run1 (FT PT : List (Nat × Nat × Nat)) (nL : Nat) (i : Instr) (lv : aV) (st : List Value) (h : aH) : Rs := match i with
  | .iconst n => some (lv, .int (Int32.ofInt n) :: st, h, [])
  | .bipush n => some (lv, .int (Int8.ofInt n).toInt32 :: st, h, [])
  | .iload_n k => r_iload lv st h k
  | .iload k => r_iload lv st h k
  | .aload_n k => r_aload lv st h k
  | .aload k => r_aload lv st h k
  | .lload_n k => r_lload lv st h k
  | .lload k => r_lload lv st h k
  | .dload_n k => r_dload lv st h k
  | .dload k => r_dload lv st h k
  | .istore_n k => r_istore nL lv st h k
  | .istore k => r_istore nL lv st h k
  | .astore_n k => r_astore nL lv st h k
  | .astore k => r_astore nL lv st h k
  | .lstore_n k => r_lstore nL lv st h k
  | .lstore k => r_lstore nL lv st h k
  | .dstore_n k => r_dstore nL lv st h k
  | .dstore k => r_dstore nL lv st h k
  | .iinc k n => r_iinc nL lv st h k n
  | .iadd => r_bin (fun x y => x + y) lv st h
  | .isub => r_bin (fun x y => x - y) lv st h
  | .imul => r_bin (fun x y => x * y) lv st h
  | .iand => r_bin (fun x y => x &&& y) lv st h
  | .idiv => r_div (fun x y => x / y) lv st h
  | .irem => r_div (fun x y => x - x / y * y) lv st h
  | .ladd => r_binl (fun x y => x + y) lv st h
  | .lmul => r_binl (fun x y => x * y) lv st h
  | .i2l => r_i2l lv st h
  | .i2d => r_i2d lv st h
  | .dup => r_dup lv st h
  | .dup2 => r_dup2 lv st h
  | .pop => r_pop lv st h
  | .getfield idx => r_get FT idx lv st h
  | .putfield idx => r_put PT idx lv st h
  | .iaload => r_iald lv st h
  | .iastore => r_iast lv st h
  | .laload => r_lald lv st h
  | .lastore => r_last lv st h
  | .arraylength => r_alen lv st h
  | _ => none
def lnk (own : String) (idx : Nat) (a b d : String) : Prop := Cond.fieldLink own idx a b d ∈ kwl ∨ ∃ host : String, Cond.fieldLinkNest own idx a b d host ∈ kwl
def FTok (own : String) (FT : List (Nat × Nat × Nat)) : Prop := ∀ x ∈ FT, ∃ (C : String) (T : u_T) (N : Nat), vwCl[x.2.1]? = some (C, T, N) ∧ x.2.2 < N ∧ lnk own x.1 (T x.2.2).1 (T x.2.2).2.1 (T x.2.2).2.2.1
def PTok (own : String) (PT : List (Nat × Nat × Nat)) : Prop := ∀ x ∈ PT, ∃ (C : String) (T : u_T) (N : Nat), vwCl[x.2.1]? = some (C, T, N) ∧ x.2.2 < N ∧ lnk own x.1 (T x.2.2).1 (T x.2.2).2.1 (T x.2.2).2.2.1 ∧ (T x.2.2).2.2.2 = false ∧ parseFieldDescriptor (T x.2.2).2.2.1 = some .int
theorem vw_in {ci : Nat} {C : String} {T : u_T} {N : Nat} (h : vwCl[ci]? = some (C, T, N)) : ∀ w ∈ u_ws C T N, w ∈ kwl := by
  match ci, h with
  | 0, h => cases h; decide +kernel
  | 1, h => cases h; decide +kernel
  | 2, h => cases h; decide +kernel
  | 3, h => cases h; decide +kernel
  | n + 4, h => simp [vwCl] at h
theorem vw_ty {ci : Nat} {C : String} {T : u_T} {N : Nat} (h : vwCl[ci]? = some (C, T, N)) : ∃ ty0 : Nat → FieldType, (∀ k, k < N → parseFieldDescriptor (T k).2.2.1 = some (ty0 k)) ∧ (∀ a, a < N → ∀ b, b < N → a ≠ b → (T a).2.1 ≠ (T b).2.1) := by
  match ci, h with
  | 0, h => cases h; exact ⟨tyX0, tyX0_ok, nmX0⟩
  | 1, h => cases h; exact ⟨tyX1, tyX1_ok, nmX1⟩
  | 2, h => cases h; exact ⟨tyX2, tyX2_ok, nmX2⟩
  | 3, h => cases h; exact ⟨tyX3, tyX3_ok, nmX3⟩
  | n + 4, h => simp [vwCl] at h
end
section
theorem lk_idx {ad : Nat → Nat} {i : Nat} {v : Value} : ∀ {lv : aV}, lk lv i = some v → ∃ j : Nat, (el ad lv)[j]? = some (i, ev ad v) := by
  intro lv
  induction lv with
  | nil => intro h; simp [lk] at h
  | cons q r ih =>
    intro h
    obtain ⟨j, w⟩ := q
    cases hb : Nat.beq j i with
    | true =>
      simp only [lk, hb, cond_true] at h
      cases h
      have hj : j = i := Nat.eq_of_beq_eq_true hb
      subst hj
      exact ⟨0, rfl⟩
    | false =>
      simp only [lk, hb, cond_false] at h
      obtain ⟨n, hn⟩ := ih h
      exact ⟨n + 1, hn⟩
theorem r_dup_spec {lv : aV} {st : List Value} {h : aH} {z : aV × List Value × aH × List Prop} (hr : r_dup lv st h = some z) : ∃ (v : Value) (r : List Value), st = v :: r ∧ v.category = 1 ∧ z = (lv, v :: v :: r, h, []) := by
  cases st with
  | nil => cases hr
  | cons v r =>
    have hr : (bif Nat.beq v.category 1 then some (lv, v :: v :: r, h, []) else none) = some z := hr
    cases hb2 : Nat.beq v.category 1 with
    | false => rw [hb2] at hr; cases hr
    | true => rw [hb2] at hr; exact ⟨v, r, rfl, Nat.eq_of_beq_eq_true hb2, (Option.some.inj hr).symm⟩
theorem r_pop_spec {lv : aV} {st : List Value} {h : aH} {z : aV × List Value × aH × List Prop} (hr : r_pop lv st h = some z) : ∃ (v : Value) (r : List Value), st = v :: r ∧ v.category = 1 ∧ z = (lv, r, h, []) := by
  cases st with
  | nil => cases hr
  | cons v r =>
    have hr : (bif Nat.beq v.category 1 then some (lv, r, h, []) else none) = some z := hr
    cases hb2 : Nat.beq v.category 1 with
    | false => rw [hb2] at hr; cases hr
    | true => rw [hb2] at hr; exact ⟨v, r, rfl, Nat.eq_of_beq_eq_true hb2, (Option.some.inj hr).symm⟩
theorem r_dup2_spec {lv : aV} {st : List Value} {h : aH} {z : aV × List Value × aH × List Prop} (hr : r_dup2 lv st h = some z) : ∃ (v w : Value) (r : List Value), st = v :: w :: r ∧ v.category = 1 ∧ w.category = 1 ∧ z = (lv, v :: w :: v :: w :: r, h, []) := by
  cases st with
  | nil => cases hr
  | cons v r0 =>
    cases r0 with
    | nil => cases hr
    | cons w r =>
      have hr : (bif Nat.beq v.category 1 && Nat.beq w.category 1 then some (lv, v :: w :: v :: w :: r, h, []) else none) = some z := hr
      cases hb2 : (Nat.beq v.category 1 && Nat.beq w.category 1) with
      | false => rw [hb2] at hr; cases hr
      | true =>
        rw [hb2] at hr
        obtain ⟨b1, b2⟩ := (Bool.and_eq_true _ _).mp hb2
        exact ⟨v, w, r, rfl, Nat.eq_of_beq_eq_true b1, Nat.eq_of_beq_eq_true b2, (Option.some.inj hr).symm⟩
theorem r_get_spec {FT : List (Nat × Nat × Nat)} {idx : Nat} {lv : aV} {st : List Value} {h : aH} {z : aV × List Value × aH × List Prop} (hr : r_get FT idx lv st h = some z) : ∃ (a : Nat) (r : List Value) (x : Nat × List Value) (y : Nat × Nat) (v : Value), st = .ref a :: r ∧ h[a]? = some (.inr (.inr x)) ∧ fnd FT idx = some y ∧ x.1 = y.1 ∧ x.2[y.2]? = some v ∧ z = (lv, v :: r, h, []) := by
  unfold r_get at hr
  split at hr
  · rename_i a r
    split at hr
    · rename_i x h1
      split at hr
      · rename_i y h2
        cases hb : Nat.beq x.1 y.1 with
        | false => rw [hb] at hr; cases hr
        | true =>
          rw [hb] at hr
          simp only [cond_true] at hr
          split at hr
          · rename_i v h3
            exact ⟨a, r, x, y, v, rfl, h1, h2, Nat.eq_of_beq_eq_true hb, h3, (Option.some.inj hr).symm⟩
          · cases hr
      · cases hr
    · cases hr
  · cases hr
theorem r_put_spec {FT : List (Nat × Nat × Nat)} {idx : Nat} {lv : aV} {st : List Value} {h : aH} {z : aV × List Value × aH × List Prop} (hr : r_put FT idx lv st h = some z) : ∃ (v : Int32) (a : Nat) (r : List Value) (x : Nat × List Value) (y : Nat × Nat), st = .int v :: .ref a :: r ∧ h[a]? = some (.inr (.inr x)) ∧ fnd FT idx = some y ∧ x.1 = y.1 ∧ y.2 < x.2.length ∧ z = (lv, r, h.set a (aO x.1 (x.2.set y.2 (.int v))), []) := by
  unfold r_put at hr
  split at hr
  · rename_i v a r
    split at hr
    · rename_i x h1
      split at hr
      · rename_i y h2
        cases hb : (Nat.beq x.1 y.1 && Nat.blt y.2 x.2.length) with
        | false => rw [hb] at hr; cases hr
        | true =>
          rw [hb] at hr
          obtain ⟨b1, b2⟩ := (Bool.and_eq_true _ _).mp hb
          exact ⟨v, a, r, x, y, rfl, h1, h2, Nat.eq_of_beq_eq_true b1, Nat.le_of_ble_eq_true b2, (Option.some.inj hr).symm⟩
      · cases hr
    · cases hr
  · cases hr
theorem r_iald_spec {lv : aV} {st : List Value} {h : aH} {z : aV × List Value × aH × List Prop} (hr : r_iald lv st h = some z) : ∃ (i : Int32) (a : Nat) (r : List Value) (x : Nat × (Nat → Int32)), st = .int i :: .ref a :: r ∧ h[a]? = some (.inl x) ∧ z = (lv, .int (x.2 i.toNatClampNeg) :: r, h, [vp_in i x.1]) := by
  unfold r_iald at hr
  split at hr
  · rename_i i a r
    split at hr
    · rename_i x h1
      exact ⟨i, a, r, x, rfl, h1, (Option.some.inj hr).symm⟩
    · cases hr
  · cases hr
theorem r_lald_spec {lv : aV} {st : List Value} {h : aH} {z : aV × List Value × aH × List Prop} (hr : r_lald lv st h = some z) : ∃ (i : Int32) (a : Nat) (r : List Value) (x : Nat × (Nat → Int64)), st = .int i :: .ref a :: r ∧ h[a]? = some (.inr (.inl x)) ∧ z = (lv, .long (x.2 i.toNatClampNeg) :: r, h, [vp_in i x.1]) := by
  unfold r_lald at hr
  split at hr
  · rename_i i a r
    split at hr
    · rename_i x h1
      exact ⟨i, a, r, x, rfl, h1, (Option.some.inj hr).symm⟩
    · cases hr
  · cases hr
theorem r_iast_spec {lv : aV} {st : List Value} {h : aH} {z : aV × List Value × aH × List Prop} (hr : r_iast lv st h = some z) : ∃ (v i : Int32) (a : Nat) (r : List Value) (x : Nat × (Nat → Int32)), st = .int v :: .int i :: .ref a :: r ∧ h[a]? = some (.inl x) ∧ z = (lv, r, h.set a (aI x.1 (upd x.2 i.toNatClampNeg v)), [vp_in i x.1]) := by
  unfold r_iast at hr
  split at hr
  · rename_i v i a r
    split at hr
    · rename_i x h1
      exact ⟨v, i, a, r, x, rfl, h1, (Option.some.inj hr).symm⟩
    · cases hr
  · cases hr
theorem r_last_spec {lv : aV} {st : List Value} {h : aH} {z : aV × List Value × aH × List Prop} (hr : r_last lv st h = some z) : ∃ (v : Int64) (i : Int32) (a : Nat) (r : List Value) (x : Nat × (Nat → Int64)), st = .long v :: .int i :: .ref a :: r ∧ h[a]? = some (.inr (.inl x)) ∧ z = (lv, r, h.set a (aL x.1 (vp_updL x.2 i.toNatClampNeg v)), [vp_in i x.1]) := by
  unfold r_last at hr
  split at hr
  · rename_i v i a r
    split at hr
    · rename_i x h1
      exact ⟨v, i, a, r, x, rfl, h1, (Option.some.inj hr).symm⟩
    · cases hr
  · cases hr
theorem r_alen_spec {lv : aV} {st : List Value} {h : aH} {z : aV × List Value × aH × List Prop} (hr : r_alen lv st h = some z) : ∃ (a : Nat) (r : List Value) (x : Nat × (Nat → Int32)), st = .ref a :: r ∧ h[a]? = some (.inl x) ∧ z = (lv, .int (Int32.ofNat x.1) :: r, h, []) := by
  unfold r_alen at hr
  split at hr
  · rename_i a r
    split at hr
    · rename_i x h1
      exact ⟨a, r, x, rfl, h1, (Option.some.inj hr).symm⟩
    · cases hr
  · cases hr
/-! ===== the block runner is sound ===== -/
def ilen : Instr → Nat
  | .bipush _ => 2
  | .iload _ => 2
  | .aload _ => 2
  | .lload _ => 2
  | .dload _ => 2
  | .istore _ => 2
  | .astore _ => 2
  | .lstore _ => 2
  | .dstore _ => 2
  | .newarray _ => 2
  | .ldc _ => 2
  | .iinc _ _ => 3
  | .getfield _ => 3
  | .putfield _ => 3
  | .goto _ => 3
  | .if_icmp _ _ => 3
  | .ifCond _ _ => 3
  | .ifnull _ => 3
  | .ifnonnull _ => 3
  | .invokevirtual _ => 3
  | .invokestatic _ => 3
  | .invokespecial _ => 3
  | .new _ => 3
  | .ldc2_w _ => 3
  | .sipush _ => 3
  | _ => 1
set_option maxHeartbeats 4000000 in
theorem run1_ok {G : aG} {M : aM} {h h' : aH} {kc ks pc : Nat} {lv lv' : aV} {st st' : List Value} {FT PT : List (Nat × Nat × Nat)} {i : Instr} {L : List Prop} (hF : FTok M.1 FT) (hPt : PTok M.1 PT) (hd : decode M.2.1 pc = .ok (i, ilen i))
    (hr : run1 FT PT M.2.2.1 i lv st h = some (lv', st', h', L)) (hL : ∀ P ∈ L, P) (k : AW G M h' kc ks (pc + ilen i) lv' st') : AW G M h kc ks pc lv st := by
  obtain ⟨p, l, e, R, s, m, args, below, meth, c, Q, D, cI, cL, A, ad0, X⟩ := G
  intro ok ad H locs ls ha hP hD hS hl
  obtain ⟨hx, hb, hml, hown, hkw, hK, hA, hX⟩ := id ok
  have kk := k ok ad
  cases i with
  | iconst n =>
    have hr : (some (lv, Value.int (Int32.ofInt n) :: st, h, []) : Rs) = some (lv', st', h', L) := hr
    cases hr
    exact lv_iconst hx hb hd rfl (kk H locs ls ha hP hD hS hl)
  | bipush n =>
    have hr : (some (lv, Value.int (Int8.ofInt n).toInt32 :: st, h, []) : Rs) = some (lv', st', h', L) := hr
    cases hr
    exact lv_bipush hx hb hd rfl (kk H locs ls ha hP hD hS hl)
  | iload_n q =>
    have hr : r_iload lv st h q = some (lv', st', h', L) := hr
    unfold r_iload at hr
    split at hr
    · rename_i x hx1
      cases hr
      exact lv_iload_n hx hb hd rfl (lk_at hl hx1) (kk H locs ls ha hP hD hS hl)
    · cases hr
  | iload q =>
    have hr : r_iload lv st h q = some (lv', st', h', L) := hr
    unfold r_iload at hr
    split at hr
    · rename_i x hx1
      cases hr
      exact lv_iload hx hb hd (lk_at hl hx1) (kk H locs ls ha hP hD hS hl)
    · cases hr
  | aload_n q =>
    have hr : r_aload lv st h q = some (lv', st', h', L) := hr
    unfold r_aload at hr
    split at hr
    · rename_i x hx1
      cases hr
      exact lv_aload_n hx hb hd rfl (lk_at hl hx1) (kk H locs ls ha hP hD hS hl)
    · cases hr
  | aload q =>
    have hr : r_aload lv st h q = some (lv', st', h', L) := hr
    unfold r_aload at hr
    split at hr
    · rename_i x hx1
      cases hr
      exact lv_aload hx hb hd (lk_at hl hx1) (kk H locs ls ha hP hD hS hl)
    · cases hr
  | lload_n q =>
    have hr : r_lload lv st h q = some (lv', st', h', L) := hr
    unfold r_lload at hr
    split at hr
    · rename_i x hx1
      cases hr
      exact lv_lload_n hx hb hd rfl (lk_at hl hx1) (kk H locs ls ha hP hD hS hl)
    · cases hr
  | lload q =>
    have hr : r_lload lv st h q = some (lv', st', h', L) := hr
    unfold r_lload at hr
    split at hr
    · rename_i x hx1
      cases hr
      exact lv_lload hx hb hd (lk_at hl hx1) (kk H locs ls ha hP hD hS hl)
    · cases hr
  | dload_n q =>
    have hr : r_dload lv st h q = some (lv', st', h', L) := hr
    unfold r_dload at hr
    split at hr
    · rename_i x hx1
      cases hr
      exact lv_dload_n hx hb hd rfl (lk_at hl hx1) (kk H locs ls ha hP hD hS hl)
    · cases hr
  | dload q =>
    have hr : r_dload lv st h q = some (lv', st', h', L) := hr
    unfold r_dload at hr
    split at hr
    · rename_i x hx1
      cases hr
      exact lv_dload hx hb hd (lk_at hl hx1) (kk H locs ls ha hP hD hS hl)
    · cases hr
  | istore_n q =>
    have hr : r_istore M.2.2.1 lv st h q = some (lv', st', h', L) := hr
    unfold r_istore at hr
    split at hr
    · rename_i x r
      cases hb2 : Nat.blt (q : Nat) M.2.2.1 with
      | false => rw [hb2] at hr; cases hr
      | true =>
        rw [hb2] at hr
        cases hr
        exact lv_istore_n hx hb hd rfl hl (Nat.le_of_ble_eq_true hb2) (el_stl (ad := ad) (v := .int _)) (fun ls' hl' => kk H locs ls' ha hP hD hS hl')
    · cases hr
  | istore q =>
    have hr : r_istore M.2.2.1 lv st h q = some (lv', st', h', L) := hr
    unfold r_istore at hr
    split at hr
    · rename_i x r
      cases hb2 : Nat.blt q M.2.2.1 with
      | false => rw [hb2] at hr; cases hr
      | true =>
        rw [hb2] at hr
        cases hr
        exact lv_istore hx hb hd hl (Nat.le_of_ble_eq_true hb2) (el_stl (ad := ad) (v := .int _)) (fun ls' hl' => kk H locs ls' ha hP hD hS hl')
    · cases hr
  | astore_n q =>
    have hr : r_astore M.2.2.1 lv st h q = some (lv', st', h', L) := hr
    unfold r_astore at hr
    split at hr
    · rename_i x r
      cases hb2 : Nat.blt (q : Nat) M.2.2.1 with
      | false => rw [hb2] at hr; cases hr
      | true =>
        rw [hb2] at hr
        cases hr
        exact lv_astore_n hx hb hd rfl hl (Nat.le_of_ble_eq_true hb2) (el_stl (ad := ad) (v := .ref _)) (fun ls' hl' => kk H locs ls' ha hP hD hS hl')
    · cases hr
  | astore q =>
    have hr : r_astore M.2.2.1 lv st h q = some (lv', st', h', L) := hr
    unfold r_astore at hr
    split at hr
    · rename_i x r
      cases hb2 : Nat.blt q M.2.2.1 with
      | false => rw [hb2] at hr; cases hr
      | true =>
        rw [hb2] at hr
        cases hr
        exact lv_astore hx hb hd hl (Nat.le_of_ble_eq_true hb2) (el_stl (ad := ad) (v := .ref _)) (fun ls' hl' => kk H locs ls' ha hP hD hS hl')
    · cases hr
  | lstore_n q =>
    have hr : r_lstore M.2.2.1 lv st h q = some (lv', st', h', L) := hr
    unfold r_lstore at hr
    split at hr
    · rename_i x r
      cases hb2 : Nat.blt ((q : Nat) + 1) M.2.2.1 with
      | false => rw [hb2] at hr; cases hr
      | true =>
        rw [hb2] at hr
        cases hr
        exact lv_lstore_n hx hb hd rfl hl (Nat.le_of_ble_eq_true hb2) (el_stl2 (ad := ad) (v := .long _)) (fun ls' hl' => kk H locs ls' ha hP hD hS hl')
    · cases hr
  | lstore q =>
    have hr : r_lstore M.2.2.1 lv st h q = some (lv', st', h', L) := hr
    unfold r_lstore at hr
    split at hr
    · rename_i x r
      cases hb2 : Nat.blt (q + 1) M.2.2.1 with
      | false => rw [hb2] at hr; cases hr
      | true =>
        rw [hb2] at hr
        cases hr
        exact lv_lstore hx hb hd hl (Nat.le_of_ble_eq_true hb2) (el_stl2 (ad := ad) (v := .long _)) (fun ls' hl' => kk H locs ls' ha hP hD hS hl')
    · cases hr
  | dstore_n q =>
    have hr : r_dstore M.2.2.1 lv st h q = some (lv', st', h', L) := hr
    unfold r_dstore at hr
    split at hr
    · rename_i x r
      cases hb2 : Nat.blt ((q : Nat) + 1) M.2.2.1 with
      | false => rw [hb2] at hr; cases hr
      | true =>
        rw [hb2] at hr
        cases hr
        exact lv_dstore_n hx hb hd rfl hl (Nat.le_of_ble_eq_true hb2) (el_stl2 (ad := ad) (v := .double _)) (fun ls' hl' => kk H locs ls' ha hP hD hS hl')
    · cases hr
  | dstore q =>
    have hr : r_dstore M.2.2.1 lv st h q = some (lv', st', h', L) := hr
    unfold r_dstore at hr
    split at hr
    · rename_i x r
      cases hb2 : Nat.blt (q + 1) M.2.2.1 with
      | false => rw [hb2] at hr; cases hr
      | true =>
        rw [hb2] at hr
        cases hr
        exact lv_dstore hx hb hd hl (Nat.le_of_ble_eq_true hb2) (el_stl2 (ad := ad) (v := .double _)) (fun ls' hl' => kk H locs ls' ha hP hD hS hl')
    · cases hr
  | iinc q n =>
    have hr : r_iinc M.2.2.1 lv st h q n = some (lv', st', h', L) := hr
    unfold r_iinc at hr
    split at hr
    · rename_i x hx1
      cases hb2 : Nat.blt q M.2.2.1 with
      | false => rw [hb2] at hr; cases hr
      | true =>
        rw [hb2] at hr
        cases hr
        obtain ⟨j, hj⟩ := lk_idx (ad := ad) hx1
        exact lv_iinc hx hb hd hl (k := j) hj rfl (Nat.le_of_ble_eq_true hb2) (el_stl (ad := ad) (v := .int (x + Int32.ofInt n))) (fun ls' hl' => kk H locs ls' ha hP hD hS hl')
    · cases hr
  | iadd =>
    have hr : r_bin (fun x y => x + y) lv st h = some (lv', st', h', L) := hr
    unfold r_bin at hr
    split at hr
    · cases hr
      exact lv_iadd hx hb hd (kk H locs ls ha hP hD hS hl)
    · cases hr
  | isub =>
    have hr : r_bin (fun x y => x - y) lv st h = some (lv', st', h', L) := hr
    unfold r_bin at hr
    split at hr
    · cases hr
      exact lv_isub hx hb hd (kk H locs ls ha hP hD hS hl)
    · cases hr
  | imul =>
    have hr : r_bin (fun x y => x * y) lv st h = some (lv', st', h', L) := hr
    unfold r_bin at hr
    split at hr
    · cases hr
      exact lv_imul hx hb hd (kk H locs ls ha hP hD hS hl)
    · cases hr
  | iand =>
    have hr : r_bin (fun x y => x &&& y) lv st h = some (lv', st', h', L) := hr
    unfold r_bin at hr
    split at hr
    · cases hr
      exact lv_iand hx hb hd (kk H locs ls ha hP hD hS hl)
    · cases hr
  | idiv =>
    have hr : r_div (fun x y => x / y) lv st h = some (lv', st', h', L) := hr
    unfold r_div at hr
    split at hr
    · cases hr
      exact lv_idiv hx hb hd (hL _ List.mem_cons_self) (kk H locs ls ha hP hD hS hl)
    · cases hr
  | irem =>
    have hr : r_div (fun x y => x - x / y * y) lv st h = some (lv', st', h', L) := hr
    unfold r_div at hr
    split at hr
    · cases hr
      exact lv_irem hx hb hd (hL _ List.mem_cons_self) (kk H locs ls ha hP hD hS hl)
    · cases hr
  | ladd =>
    have hr : r_binl (fun x y => x + y) lv st h = some (lv', st', h', L) := hr
    unfold r_binl at hr
    split at hr
    · cases hr
      exact lv_ladd hx hb hd (kk H locs ls ha hP hD hS hl)
    · cases hr
  | lmul =>
    have hr : r_binl (fun x y => x * y) lv st h = some (lv', st', h', L) := hr
    unfold r_binl at hr
    split at hr
    · cases hr
      exact lv_lmul hx hb hd (kk H locs ls ha hP hD hS hl)
    · cases hr
  | i2l =>
    have hr : r_i2l lv st h = some (lv', st', h', L) := hr
    unfold r_i2l at hr
    split at hr
    · cases hr
      exact lv_i2l hx hb hd rfl (kk H locs ls ha hP hD hS hl)
    · cases hr
  | i2d =>
    have hr : r_i2d lv st h = some (lv', st', h', L) := hr
    unfold r_i2d at hr
    split at hr
    · cases hr
      exact lv_i2d hx hb hd (kk H locs ls ha hP hD hS hl)
    · cases hr
  | dup =>
    have hr : r_dup lv st h = some (lv', st', h', L) := hr
    obtain ⟨v, r, rfl, b1, e⟩ := r_dup_spec hr
    cases e
    exact lv_dup hx hb hd ((ev_cat ad v).trans b1) (kk H locs ls ha hP hD hS hl)
  | pop =>
    have hr : r_pop lv st h = some (lv', st', h', L) := hr
    obtain ⟨v, r, rfl, b1, e⟩ := r_pop_spec hr
    cases e
    exact lv_pop hx hb hd ((ev_cat ad v).trans b1) (kk H locs ls ha hP hD hS hl)
  | dup2 =>
    have hr : r_dup2 lv st h = some (lv', st', h', L) := hr
    obtain ⟨v, w, r, rfl, b1, b2, e⟩ := r_dup2_spec hr
    cases e
    exact lv_dup2_11 hx hb hd ((ev_cat ad v).trans b1) ((ev_cat ad w).trans b2) (kk H locs ls ha hP hD hS hl)
  | getfield idx =>
    have hr : r_get FT idx lv st h = some (lv', st', h', L) := hr
    obtain ⟨a, r, x, y, v, rfl, h1, h2, h3, h4, e⟩ := r_get_spec hr
    cases e
    obtain ⟨C, T, N, q1, q2, q3⟩ := hF _ (fnd_mem h2)
    have hts : ∀ w ∈ kwl, w.before args s = true := hkw.use
    have he := wl_get (cI := cI) (cL := cL) (ad := ad) h1
    have hv : (x.2.map (ev ad))[y.2]? = some (ev ad v) := by rw [List.getElem?_map, h4]; rfl
    rw [← h3] at q1
    rcases q3 with q3 | ⟨host, q3⟩
    · exact va_get (ci := x.1) (C := C) (T := T) (N := N) hx hb hts (vw_in q1) hown hK hP a he q1 y.2 q2 (hts _ q3) (fun _ h9 => h9) hv hd (kk H locs ls ha hP hD hS hl)
    · exact va_getN (ci := x.1) (C := C) (T := T) (N := N) hx hb hts (vw_in q1) hown hK hP a he q1 y.2 q2 (hts _ q3) (fun _ h9 => h9) hv hd (kk H locs ls ha hP hD hS hl)
  | putfield idx =>
    have hr : r_put PT idx lv st h = some (lv', st', h', L) := hr
    obtain ⟨v, a, r, x, y, rfl, h1, h2, h3, h4, e⟩ := r_put_spec hr
    cases e
    obtain ⟨C, T, N, q1, q2, q3, q4, q5⟩ := hPt _ (fnd_mem h2)
    have hts : ∀ w ∈ kwl, w.before args s = true := hkw.use
    have he := wl_get (cI := cI) (cL := cL) (ad := ad) h1
    rw [← h3] at q1
    obtain ⟨ty0, t1, t2⟩ := vw_ty q1
    have hlen : y.2 < (x.2.map (ev ad)).length := by rw [List.length_map]; exact h4
    have hw : wl cI cL ad (h.set a (aO x.1 (x.2.set y.2 (.int v)))) = (wl cI cL ad h).set a (ad a, .inr (x.1, (x.2.map (ev ad)).set y.2 (.int v))) := by rw [wl_set]; show _ = _; simp only [ee, List.map_set]; rfl
    rcases q3 with q3 | ⟨host, q3⟩
    · exact va_put (ci := x.1) (C := C) (T := T) (N := N) (ty := .int) (v := .int v) hx hb hts (vw_in q1) ty0 t1 t2 hown hK hP hD hS a he q1 y.2 q2 (hts _ q3) (fun _ h9 => h9) q4 q5 rfl rfl hlen hd (fun H1 locs1 hP hD hS => kk H1 locs1 ls ha (by rw [hw]; exact hP) (by rw [hw]; exact hD) hS hl)
    · exact va_putN (ci := x.1) (C := C) (T := T) (N := N) (ty := .int) (v := .int v) hx hb hts (vw_in q1) ty0 t1 t2 hown hK hP hD hS a he q1 y.2 q2 (hts _ q3) (fun _ h9 => h9) q4 q5 rfl rfl hlen hd (fun H1 locs1 hP hD hS => kk H1 locs1 ls ha (by rw [hw]; exact hP) (by rw [hw]; exact hD) hS hl)
  | iaload =>
    have hr : r_iald lv st h = some (lv', st', h', L) := hr
    obtain ⟨i, a, r, x, rfl, h1, e⟩ := r_iald_spec hr
    cases e
    exact va_iald hx hb hK hP a 0 (wl_get h1) rfl (hL _ List.mem_cons_self) hd (kk H locs ls ha hP hD hS hl)
  | iastore =>
    have hr : r_iast lv st h = some (lv', st', h', L) := hr
    obtain ⟨v, i, a, r, x, rfl, h1, e⟩ := r_iast_spec hr
    cases e
    have hw : wl cI cL ad (h.set a (aI x.1 (upd x.2 i.toNatClampNeg v))) = (wl cI cL ad h).set a (ad a, .inl (cI, x.1, .inl (upd x.2 i.toNatClampNeg v))) := wl_set
    exact va_iast hx hb hK hP hD hS a 0 (wl_get h1) rfl (hL _ List.mem_cons_self) hd (fun H1 locs1 hP hD hS => kk H1 locs1 ls ha (by rw [hw]; exact hP) (by rw [hw]; exact hD) hS hl)
  | laload =>
    have hr : r_lald lv st h = some (lv', st', h', L) := hr
    obtain ⟨i, a, r, x, rfl, h1, e⟩ := r_lald_spec hr
    cases e
    exact va_lald hx hb hK hP a 1 (wl_get h1) rfl (hL _ List.mem_cons_self) hd (kk H locs ls ha hP hD hS hl)
  | lastore =>
    have hr : r_last lv st h = some (lv', st', h', L) := hr
    obtain ⟨v, i, a, r, x, rfl, h1, e⟩ := r_last_spec hr
    cases e
    have hw : wl cI cL ad (h.set a (aL x.1 (vp_updL x.2 i.toNatClampNeg v))) = (wl cI cL ad h).set a (ad a, .inl (cL, x.1, .inr (.inl (vp_updL x.2 i.toNatClampNeg v)))) := wl_set
    exact va_last hx hb hK hP hD hS a 1 (wl_get h1) rfl (hL _ List.mem_cons_self) hd (fun H1 locs1 hP hD hS => kk H1 locs1 ls ha (by rw [hw]; exact hP) (by rw [hw]; exact hD) hS hl)
  | arraylength =>
    have hr : r_alen lv st h = some (lv', st', h', L) := hr
    obtain ⟨a, r, x, rfl, h1, e⟩ := r_alen_spec hr
    cases e
    exact va_alen hx hb hK hP a 0 (wl_get h1) rfl rfl hd (kk H locs ls ha hP hD hS hl)
  | _ => exact absurd (show (none : Rs) = some (lv', st', h', L) from hr) (fun z => by cases z)
-- a stretch of instructions, gotos too
def gto : Instr → Option Int
  | .goto off => some off
  | _ => none
def runB (FT PT : List (Nat × Nat × Nat)) (nL : Nat) : List (Nat × Instr) → Nat → aV → List Value → aH → Option (Nat × aV × List Value × aH × List Prop)
  | [], pc, lv, st, h => some (pc, lv, st, h, [])
  | (q, i) :: r, pc, lv, st, h => bif Nat.beq q pc then (match gto i with
    | some off => match (pc : Int) + off with
      | .ofNat t => runB FT PT nL r t lv st h
      | .negSucc _ => none
    | none => match run1 FT PT nL i lv st h with
      | some z => match runB FT PT nL r (pc + ilen i) z.1 z.2.1 z.2.2.1 with
        | some y => some (y.1, y.2.1, y.2.2.1, y.2.2.2.1, z.2.2.2 ++ y.2.2.2.2)
        | none => none
      | none => none) else none
def tbok (cc : ByteArray) (tb : List (Nat × Instr)) : Prop := ∀ x ∈ tb, decode cc x.1 = .ok (x.2, ilen x.2)
theorem gto_spec {i : Instr} {off : Int} (h : gto i = some off) : i = .goto off := by
  cases i with
  | goto o => cases h; rfl
  | _ => exact absurd (show (none : Option Int) = some off from h) (fun z => by cases z)
theorem AW.goto {G : aG} {M : aM} {h : aH} {kc ks pc tgt : Nat} {lv : aV} {st : List Value} {off : Int} (hd : decode M.2.1 pc = .ok (.goto off, 3)) (ht : (pc : Int) + off = (tgt : Int)) (k : AW G M h kc ks tgt lv st) : AW G M h kc ks pc lv st := by
  obtain ⟨p, l, e, R, s, m, args, below, meth, c, Q, D, cI, cL, A, ad0, X⟩ := G
  intro ok ad H locs ls ha hP hD hS hl
  exact lv_goto ok.1 ok.2.1 hd ht (k ok ad H locs ls ha hP hD hS hl)
theorem runB_ok {G : aG} {M : aM} {FT PT : List (Nat × Nat × Nat)} {kc ks : Nat} (hF : FTok M.1 FT) (hPt : PTok M.1 PT) : ∀ (tb : List (Nat × Instr)), tbok M.2.1 tb → ∀ {h h' : aH} {pc pc' : Nat} {lv lv' : aV} {st st' : List Value} {L : List Prop},
    runB FT PT M.2.2.1 tb pc lv st h = some (pc', lv', st', h', L) → (∀ P ∈ L, P) → AW G M h' kc ks pc' lv' st' → AW G M h kc ks pc lv st := by
  intro tb
  induction tb with
  | nil => intro _ h h' pc pc' lv lv' st st' L hr hL k; cases hr; exact k
  | cons x r ih =>
    intro htb h h' pc pc' lv lv' st st' L hr hL k
    obtain ⟨q, i⟩ := x
    have htr : tbok M.2.1 r := fun y hy => htb y (List.mem_cons_of_mem _ hy)
    have hd := htb (q, i) List.mem_cons_self
    unfold runB at hr
    cases hb : Nat.beq q pc with
    | false => rw [hb] at hr; cases hr
    | true =>
      rw [hb] at hr
      have hj : q = pc := Nat.eq_of_beq_eq_true hb
      subst hj
      simp only [cond_true] at hr
      split at hr
      · rename_i off hg
        have hi := gto_spec hg
        subst hi
        split at hr
        · rename_i t ht
          exact AW.goto hd ht (ih htr hr hL k)
        · cases hr
      · split at hr
        · rename_i z hz
          split at hr
          · rename_i y hy
            cases hr
            exact run1_ok hF hPt hd hz (fun P hp => hL P (List.mem_append_left _ hp)) (ih htr hy (fun P hp => hL P (List.mem_append_right _ hp)) k)
          · cases hr
        · cases hr
def cj : List Prop → Prop
  | [] => True
  | [p] => p
  | p :: q :: r => p ∧ cj (q :: r)
theorem cj_all : ∀ {L : List Prop}, cj L → ∀ P ∈ L, P := by
  intro L
  induction L with
  | nil => intro _ P hP; simp at hP
  | cons a r ih =>
    cases r with
    | nil => intro h P hP; rw [List.mem_singleton] at hP; rw [hP]; exact h
    | cons b t => intro h P hP; rcases List.mem_cons.mp hP with e | e
                  · subst e; exact h.1
                  · exact ih h.2 P e
def amok (M : aM) (tb : List (Nat × Instr)) (FT PT : List (Nat × Nat × Nat)) : Prop := tbok M.2.1 tb ∧ FTok M.1 FT ∧ PTok M.1 PT
theorem tbok_sub {cc : ByteArray} {tb : List (Nat × Instr)} (i n : Nat) (h : tbok cc tb) : tbok cc ((tb.drop i).take n) := fun x hx => h x (List.mem_of_mem_drop (List.mem_of_mem_take hx))
/-- THE ROW OF A BLOCK: instructions i .. i + n - 1 of the table -/
theorem AW.blk {G : aG} {M : aM} {tb : List (Nat × Instr)} {FT PT : List (Nat × Nat × Nat)} {kc ks : Nat} (hm : amok M tb FT PT) (i n : Nat) {h h' : aH} {pc pc' : Nat} {lv lv' : aV} {st st' : List Value} {L : List Prop}
    (hr : runB FT PT M.2.2.1 ((tb.drop i).take n) pc lv st h = some (pc', lv', st', h', L)) (hL : cj L) (k : AW G M h' kc ks pc' lv' st') : AW G M h kc ks pc lv st := runB_ok hm.2.1 hm.2.2 _ (tbok_sub i n hm.1) hr (cj_all hL) k
end
section
/-! ===== branches ===== -/
def cnd (i : Instr) (st : List Value) : Option (Prop × Prop × List Value × Int) := match i with
  | .if_icmp c off => match st with
    | .int y :: .int x :: r => match c with
      | .eq => some (x = y, ¬ x = y, r, off)
      | .ne => some (¬ x = y, x = y, r, off)
      | .lt => some (x < y, ¬ x < y, r, off)
      | .ge => some (y ≤ x, ¬ y ≤ x, r, off)
      | .gt => some (y < x, ¬ y < x, r, off)
      | .le => some (x ≤ y, ¬ x ≤ y, r, off)
    | _ => none
  | .ifCond c off => match st with
    | .int x :: r => match c with
      | .eq => some (x = 0, ¬ x = 0, r, off)
      | .ne => some (¬ x = 0, x = 0, r, off)
      | .lt => some (x < 0, ¬ x < 0, r, off)
      | .ge => some (0 ≤ x, ¬ 0 ≤ x, r, off)
      | .gt => some (0 < x, ¬ 0 < x, r, off)
      | .le => some (x ≤ 0, ¬ x ≤ 0, r, off)
    | _ => none
  | _ => none
theorem AW.brD {G : aG} {M : aM} {h : aH} {kc ks pc tgt : Nat} {lv : aV} {st st' : List Value} {i : Instr} {off : Int} {C C' : Prop} (hd : decode M.2.1 pc = .ok (i, ilen i)) (hc : cnd i st = some (C, C', st', off)) (ht : (pc : Int) + off = (tgt : Int))
    (kt : C → AW G M h kc ks tgt lv st') (kf : C' → AW G M h kc ks (pc + 3) lv st') : AW G M h kc ks pc lv st := by
  obtain ⟨p, l, e, R, s, m, args, below, meth, c, Q, D, cI, cL, A, ad0, X⟩ := G
  intro ok ad H locs ls ha hP hD hS hl
  obtain ⟨hx, hb, -⟩ := id ok
  cases i with
  | if_icmp q off2 =>
    match st, hc with
    | .int y :: .int x :: r, hc =>
      cases q with
      | eq => cases hc; exact lv_icmp_eq hx hb hd ht (fun z => kt z ok ad H locs ls ha hP hD hS hl) (fun z => kf z ok ad H locs ls ha hP hD hS hl)
      | ne => cases hc; exact lv_icmp_ne hx hb hd ht (fun z => kt z ok ad H locs ls ha hP hD hS hl) (fun z => kf z ok ad H locs ls ha hP hD hS hl)
      | lt => cases hc; exact lv_icmp_lt hx hb hd ht (fun z => kt z ok ad H locs ls ha hP hD hS hl) (fun z => kf z ok ad H locs ls ha hP hD hS hl)
      | ge => cases hc; exact lv_icmp_ge hx hb hd ht (fun z => kt z ok ad H locs ls ha hP hD hS hl) (fun z => kf z ok ad H locs ls ha hP hD hS hl)
      | gt => cases hc; exact lv_icmp_gt hx hb hd ht (fun z => kt z ok ad H locs ls ha hP hD hS hl) (fun z => kf z ok ad H locs ls ha hP hD hS hl)
      | le => cases hc; exact lv_icmp_le hx hb hd ht (fun z => kt z ok ad H locs ls ha hP hD hS hl) (fun z => kf z ok ad H locs ls ha hP hD hS hl)
  | ifCond q off2 =>
    match st, hc with
    | .int x :: r, hc =>
      cases q with
      | eq => cases hc; exact lv_if_eq hx hb hd ht (fun z => kt z ok ad H locs ls ha hP hD hS hl) (fun z => kf z ok ad H locs ls ha hP hD hS hl)
      | ne => cases hc; exact lv_if_ne hx hb hd ht (fun z => kt z ok ad H locs ls ha hP hD hS hl) (fun z => kf z ok ad H locs ls ha hP hD hS hl)
      | lt => cases hc; exact lv_if_lt hx hb hd ht (fun z => kt z ok ad H locs ls ha hP hD hS hl) (fun z => kf z ok ad H locs ls ha hP hD hS hl)
      | ge => cases hc; exact lv_if_ge hx hb hd ht (fun z => kt z ok ad H locs ls ha hP hD hS hl) (fun z => kf z ok ad H locs ls ha hP hD hS hl)
      | gt => cases hc; exact lv_if_gt hx hb hd ht (fun z => kt z ok ad H locs ls ha hP hD hS hl) (fun z => kf z ok ad H locs ls ha hP hD hS hl)
      | le => cases hc; exact lv_if_le hx hb hd ht (fun z => kt z ok ad H locs ls ha hP hD hS hl) (fun z => kf z ok ad H locs ls ha hP hD hS hl)
  | _ => exact absurd (show (none : Option (Prop × Prop × List Value × Int)) = some (C, C', st', off) from hc) (fun z => by cases z)
theorem tb_at {cc : ByteArray} {tb : List (Nat × Instr)} (h : tbok cc tb) (i : Nat) {pc : Nat} {ins : Instr} (hi : tb[i]? = some (pc, ins)) : decode cc pc = .ok (ins, ilen ins) := h (pc, ins) (List.mem_of_getElem? hi)
theorem AW.br {G : aG} {M : aM} {tb : List (Nat × Instr)} {FT PT : List (Nat × Nat × Nat)} (hm : amok M tb FT PT) (n : Nat) {h : aH} {kc ks pc tgt : Nat} {lv : aV} {st st' : List Value} {i : Instr} {off : Int} {C C' : Prop} (hi : tb[n]? = some (pc, i)) (hc : cnd i st = some (C, C', st', off)) (ht : (pc : Int) + off = (tgt : Int))
    (kt : C → AW G M h kc ks tgt lv st') (kf : C' → AW G M h kc ks (pc + 3) lv st') : AW G M h kc ks pc lv st := AW.brD (tb_at hm.1 n hi) hc ht kt kf
theorem AW.ifnonnull {G : aG} {M : aM} {tb : List (Nat × Instr)} {FT PT : List (Nat × Nat × Nat)} (hm : amok M tb FT PT) (n : Nat) {h : aH} {kc ks pc tgt x : Nat} {lv : aV} {st : List Value} {off : Int} (hi : tb[n]? = some (pc, .ifnonnull off)) (ht : (pc : Int) + off = (tgt : Int)) (k : AW G M h kc ks tgt lv st) : AW G M h kc ks pc lv (.ref x :: st) := by
  have hd := tb_at hm.1 n hi
  obtain ⟨p, l, e, R, s, m, args, below, meth, c, Q, D, cI, cL, A, ad0, X⟩ := G
  intro ok ad H locs ls ha hP hD hS hl
  exact lv_ifnonnull ok.1 ok.2.1 hd ht (k ok ad H locs ls ha hP hD hS hl)
theorem AW.ifnull {G : aG} {M : aM} {tb : List (Nat × Instr)} {FT PT : List (Nat × Nat × Nat)} (hm : amok M tb FT PT) (n : Nat) {h : aH} {kc ks pc x : Nat} {lv : aV} {st : List Value} {off : Int} (hi : tb[n]? = some (pc, .ifnull off)) (k : AW G M h kc ks (pc + 3) lv st) : AW G M h kc ks pc lv (.ref x :: st) := by
  have hd := tb_at hm.1 n hi
  obtain ⟨p, l, e, R, s, m, args, below, meth, c, Q, D, cI, cL, A, ad0, X⟩ := G
  intro ok ad H locs ls ha hP hD hS hl
  exact lv_ifnull ok.1 ok.2.1 hd (k ok ad H locs ls ha hP hD hS hl)
theorem AW.swIn {G : aG} {M : aM} {h : aH} {kc ks pc tgt len : Nat} {lv : aV} {st : List Value} {dflt lo hi off : Int} {offs : Array Int} {x : Int32} (hd : decode M.2.1 pc = .ok (.tableswitch dflt lo hi offs, len)) (h1 : ¬ x.toInt < lo) (h2 : ¬ hi < x.toInt) (ho : offs[(x.toInt - lo).toNat]? = some off) (ht : (pc : Int) + off = (tgt : Int)) (k : AW G M h kc ks tgt lv st) : AW G M h kc ks pc lv (.int x :: st) := by
  obtain ⟨p, l, e, R, s, m, args, below, meth, c, Q, D, cI, cL, A, ad0, X⟩ := G
  intro ok ad H locs ls ha hP hD hS hl
  exact lv_tableIn ok.1 ok.2.1 hd h1 h2 ho ht (k ok ad H locs ls ha hP hD hS hl)
theorem AW.swOut {G : aG} {M : aM} {h : aH} {kc ks pc tgt len : Nat} {lv : aV} {st : List Value} {dflt lo hi : Int} {offs : Array Int} {x : Int32} (hd : decode M.2.1 pc = .ok (.tableswitch dflt lo hi offs, len)) (h1 : x.toInt < lo ∨ hi < x.toInt) (ht : (pc : Int) + dflt = (tgt : Int)) (k : AW G M h kc ks tgt lv st) : AW G M h kc ks pc lv (.int x :: st) := by
  obtain ⟨p, l, e, R, s, m, args, below, meth, c, Q, D, cI, cL, A, ad0, X⟩ := G
  intro ok ad H locs ls ha hP hD hS hl
  exact lv_tableOut ok.1 ok.2.1 hd h1 ht (k ok ad H locs ls ha hP hD hS hl)
/-! ===== contracts ===== -/
def aPc (as : List Value) (h : aH) (D : va_G) (cI cL : ClassId) (ad0 : Nat → Nat) (sz : Nat) : Array Value → State → Prop := va_Pc (as.map (ev ad0)) (fun U => U.heap.size = sz ∧ va_P D vwCl (wl cI cL ad0 h) U.heap ∧ va_K D vwCl [(cI, .int), (cL, .long)] U ∧ va_D (fun _ => True) (wl cI cL ad0 h) ∧ kw U)
def aQc (r : Option Value) (h h' : aH) (D : va_G) (cI cL : ClassId) (ad0 : Nat → Nat) (sz : Nat) : Array Value → State → Outcome → State → Prop := fun _ st o t =>
  (∃ ad' : Nat → Nat, (∀ i, i < h.length ∨ 100 ≤ i → ad' i = ad0 i) ∧ o = .returned r ∧ va_P D vwCl (wl cI cL ad' h') t.heap ∧ va_D (va_A (wl cI cL ad0 h) sz) (wl cI cL ad' h')) ∧ va_F (va_A (wl cI cL ad0 h) sz) st t
/-- THE CONTRACT: over a heap that holds h (places 0 ..), with these arguments, the method y answers r and leaves h' -/
def AMet (y : MethodName) (b : ByteArray) (maxL : Nat) (ret : Option FieldType) (rm : Room) (as : List Value) (h : aH) (r : Option Value) (h' : aH) : Prop :=
  ∀ (l : Launch) (D : va_G) (cI cL : ClassId) (ad0 : Nat → Nat) (sz : Nat), Met l y [.code y b maxL ret] rm (aPc as h D cI cL ad0 sz) (aQc r h h' D cI cL ad0 sz) rm.cells rm.slots (va_A (wl cI cL ad0 h) sz)
/-- what a walk's end asks -/
def aEnd (ret : Option FieldType) (r : Option Value) (h0 h' : aH) (mc ms : Nat) : aG → Prop
  | (p, l, e, R, s, m, args, below, meth, c, Q, D, cI, cL, A, ad0, _) => meth.sig.returnType = ret ∧ meth.locks = false ∧ A = va_A (wl cI cL ad0 h0) s.heap.size ∧ ∀ (H : Heap) (locs : List Loc) (kc ks : Nat) (g : JFrame), W p l e R s m args below meth c H locs kc ks (MQ below (aQc r h0 h' D cI cL ad0 s.heap.size) args s mc ms A) g → W p l e R s m args below meth c H locs kc ks Q g
def aIn : aG → Prop
  | (_, _, _, _, _, _, _, _, meth, _) => meth.name = "<init>"
theorem lv_args_el (ad : Nat → Nat) : ∀ (vs : List Value) (i : Nat), lv_args i (vs.map (ev ad)) = el ad (lv_args i vs) := by
  intro vs
  induction vs with
  | nil => intro i; rfl
  | cons v r ih => intro i; simp only [List.map_cons, lv_args, el, ev_cat]; rw [ih]; rfl
theorem lg_sl_len (ad : Nat → Nat) : ∀ (vs : List Value), (lg_sl (vs.map (ev ad))).length = (lg_sl vs).length := by
  intro vs
  induction vs with
  | nil => rfl
  | cons v r ih =>
    simp only [lg_sl, List.map_cons, List.flatMap_cons, List.length_append, ev_cat] at ih ⊢
    rw [ih]
    by_cases h : v.category = 2 <;> simp [h]
set_option maxHeartbeats 1000000 in
theorem AMet.of {y : MethodName} {b : ByteArray} {maxL : Nat} {ret : Option FieldType} {rm : Room} {as : List Value} {h h' : aH} {r : Option Value} (hy : plainName y.cls = true) (hlen : Nat.ble (lg_sl as).length maxL = true)
    (body : ∀ G : aG, aRm G = rm → aEnd ret r h h' rm.cells rm.slots G → (y.name = "<init>" → aIn G) → AW G (y.cls, b, maxL, h.length) h 0 0 0 (lv_args 0 as) []) : AMet y b maxL ret rm as h r h' := by
  intro l D cI cL ad0 sz
  refine Met.ofW (cc := b) (maxL := maxL) (ret := ret) hy rfl ?_
  intro p e s m args below meth c s₁ B hml hv
  obtain ⟨rfl, hsz, hP, hK, hD0, hkw⟩ := hv
  have hown : s.vm.findClass y.cls = some m.cls := findClass_of_methodNamed B.named
  subst hsz
  have hl := lv_entry (as.map (ev ad0)) (n := maxL) (by rw [lg_sl_len]; exact Nat.le_of_ble_eq_true hlen)
  rw [lg_entry_eq]
  generalize (lg_sl (as.map (ev ad0)) ++ List.replicate (maxL - (lg_sl (as.map (ev ad0))).length) Slot.unset).toArray = ls at hl ⊢
  rw [lv_args_el] at hl
  have k := body (p, l, e, rm, s, m, (as.map (ev ad0)).toArray, below, meth, c, MQ below (aQc r h h' D cI cL ad0 s.heap.size) (as.map (ev ad0)).toArray s rm.cells rm.slots (va_A (wl cI cL ad0 h) s.heap.size), D, cI, cL, va_A (wl cI cL ad0 h) s.heap.size, ad0, none) rfl
    ⟨B.returns, B.notSynchronized, rfl, fun _ _ _ _ _ z => z⟩ (fun hin => (name_of_methodNamed B.named B.method).1.trans hin)
    ⟨B.exec, B.bytes, hml, hown, hkw, hK, fun q hq => Or.inr hq, fun _ _ _ z => by cases z⟩
  exact k ad0 s.heap [] ls (fun _ _ => rfl) hP hD0.self va_S.rf hl
/-! ===== returns ===== -/
theorem AW.iret {G : aG} {M : aM} {h0 h h' : aH} {mc ms kc ks pc : Nat} {lv : aV} {ty : FieldType} {x : Int32} (hE : aEnd (some ty) (some (.int x)) h0 h' mc ms G) (hd : decode M.2.1 pc = .ok (.ireturn, 1)) (hM : M.2.2.2 = h0.length) (hn : narrow ty (.int x) = .int x) (hc : kc ≤ mc) (hs : ks ≤ ms) (hh : h = h') : AW G M h kc ks pc lv [.int x] := by
  obtain ⟨p, l, e, R, s, m, args, below, meth, c, Q, D, cI, cL, A, ad0, X⟩ := G
  intro ok ad H locs ls ha hP hD hS hl
  obtain ⟨h1, h2, h3, h4⟩ := hE
  subst hh
  rw [hM] at ha
  refine h4 _ _ _ _ _ (W.widen hc hs ?_)
  exact W.zret ok.1 ok.2.1 h1 hn (fun t ht _ => ⟨⟨ad, ha, rfl, by rw [ht]; exact hP, by rw [← h3]; exact hD⟩, by rw [← h3]; exact hS.F ht⟩) hS.2.2 hd (hlocks := h2)
theorem AW.lret {G : aG} {M : aM} {h0 h h' : aH} {mc ms kc ks pc : Nat} {lv : aV} {x : Int64} (hE : aEnd (some .long) (some (.long x)) h0 h' mc ms G) (hd : decode M.2.1 pc = .ok (.lreturn, 1)) (hM : M.2.2.2 = h0.length) (hc : kc ≤ mc) (hs : ks ≤ ms) (hh : h = h') : AW G M h kc ks pc lv [.long x] := by
  obtain ⟨p, l, e, R, s, m, args, below, meth, c, Q, D, cI, cL, A, ad0, X⟩ := G
  intro ok ad H locs ls ha hP hD hS hl
  obtain ⟨h1, h2, h3, h4⟩ := hE
  subst hh
  rw [hM] at ha
  refine h4 _ _ _ _ _ (W.widen hc hs ?_)
  exact W.lret ok.1 ok.2.1 h1 (fun t ht _ => ⟨⟨ad, ha, rfl, by rw [ht]; exact hP, by rw [← h3]; exact hD⟩, by rw [← h3]; exact hS.F ht⟩) hS.2.2 hd (hlocks := h2)
theorem AW.dret {G : aG} {M : aM} {h0 h h' : aH} {mc ms kc ks pc : Nat} {lv : aV} {x : UInt64} (hE : aEnd (some .double) (some (.double x)) h0 h' mc ms G) (hd : decode M.2.1 pc = .ok (.dreturn, 1)) (hM : M.2.2.2 = h0.length) (hc : kc ≤ mc) (hs : ks ≤ ms) (hh : h = h') : AW G M h kc ks pc lv [.double x] := by
  obtain ⟨p, l, e, R, s, m, args, below, meth, c, Q, D, cI, cL, A, ad0, X⟩ := G
  intro ok ad H locs ls ha hP hD hS hl
  obtain ⟨h1, h2, h3, h4⟩ := hE
  subst hh
  rw [hM] at ha
  refine h4 _ _ _ _ _ (W.widen hc hs ?_)
  exact W.dret ok.1 ok.2.1 h1 (fun t ht _ => ⟨⟨ad, ha, rfl, by rw [ht]; exact hP, by rw [← h3]; exact hD⟩, by rw [← h3]; exact hS.F ht⟩) hS.2.2 hd (hlocks := h2)
theorem AW.vret {G : aG} {M : aM} {h0 h h' : aH} {mc ms kc ks pc : Nat} {lv : aV} (hE : aEnd none none h0 h' mc ms G) (hd : decode M.2.1 pc = .ok (.return_, 1)) (hM : M.2.2.2 = h0.length) (hc : kc ≤ mc) (hs : ks ≤ ms) (hh : h = h') : AW G M h kc ks pc lv [] := by
  obtain ⟨p, l, e, R, s, m, args, below, meth, c, Q, D, cI, cL, A, ad0, X⟩ := G
  intro ok ad H locs ls ha hP hD hS hl
  obtain ⟨h1, h2, h3, h4⟩ := hE
  subst hh
  rw [hM] at ha
  refine h4 _ _ _ _ _ (W.widen hc hs ?_)
  exact W.vret ok.1 ok.2.1 h1 (fun t ht _ => ⟨⟨ad, ha, rfl, by rw [ht]; exact hP, by rw [← h3]; exact hD⟩, by rw [← h3]; exact hS.F ht⟩) hS.2.2 hd (hlocks := h2)
end
section
/-! ===== calls: the callee's places σ among the caller's, its outer references δ ===== -/
def sg (σ δ : List Nat) (i : Nat) : Nat := bif Nat.blt i 100 then σ.getD i 0 else δ.getD (i - 100) 0
def rv (σ δ : List Nat) : Value → Value
  | .ref i => .ref (sg σ δ i)
  | v => v
def rE (σ δ : List Nat) : aE → aE
  | .inl x => .inl x
  | .inr (.inl x) => .inr (.inl x)
  | .inr (.inr x) => .inr (.inr (x.1, x.2.map (rv σ δ)))
theorem ev_rv (σ δ : List Nat) (ad : Nat → Nat) (v : Value) : ev ad (rv σ δ v) = ev (fun i => ad (sg σ δ i)) v := by cases v <;> rfl
theorem evs_rv (σ δ : List Nat) (ad : Nat → Nat) (vs : List Value) : (vs.map (rv σ δ)).map (ev ad) = vs.map (ev (fun i => ad (sg σ δ i))) := by
  rw [List.map_map]
  exact List.map_congr_left fun v _ => ev_rv σ δ ad v
theorem ee_rE (σ δ : List Nat) (cI cL : ClassId) (ad : Nat → Nat) (e : aE) : ee cI cL ad (rE σ δ e) = ee cI cL (fun i => ad (sg σ δ i)) e := by
  rcases e with x | x | x
  · rfl
  · rfl
  · show Sum.inr (x.1, (x.2.map (rv σ δ)).map (ev ad)) = Sum.inr (x.1, x.2.map (ev (fun i => ad (sg σ δ i))))
    rw [evs_rv]
def okv (n : Nat) : Value → Bool
  | .ref i => Nat.blt i n || Nat.ble 100 i
  | _ => true
def okE (n : Nat) : aE → Bool
  | .inr (.inr x) => x.2.all (okv n)
  | _ => true
theorem ev_agree {n : Nat} {ad ad' : Nat → Nat} (h : ∀ i, i < n ∨ 100 ≤ i → ad' i = ad i) {v : Value} (hk : okv n v = true) : ev ad' v = ev ad v := by
  cases v with
  | ref i =>
    have hk : (Nat.blt i n || Nat.ble 100 i) = true := hk
    show Value.ref (ad' i) = Value.ref (ad i)
    rw [h i]
    rcases (Bool.or_eq_true _ _).mp hk with z | z
    · exact Or.inl (Nat.le_of_ble_eq_true z)
    · exact Or.inr (Nat.le_of_ble_eq_true z)
  | _ => rfl
theorem ee_agree {n : Nat} {cI cL : ClassId} {ad ad' : Nat → Nat} (h : ∀ i, i < n ∨ 100 ≤ i → ad' i = ad i) {e : aE} (hk : okE n e = true) : ee cI cL ad' e = ee cI cL ad e := by
  rcases e with x | x | x
  · rfl
  · rfl
  · show Sum.inr (x.1, x.2.map (ev ad')) = Sum.inr (x.1, x.2.map (ev ad))
    rw [List.map_congr_left fun v hv => ev_agree h (List.all_eq_true.mp hk v hv)]
def putb : List Nat → aH → aH → aH
  | i :: σ, e :: es, h => putb σ es (h.set i e)
  | _, _, h => h
theorem putb_len : ∀ (σ : List Nat) (es h : aH), (putb σ es h).length = h.length := by
  intro σ
  induction σ with
  | nil => intro es h; rfl
  | cons i r ih => intro es h; cases es with
    | nil => rfl
    | cons e q => show (putb r q (h.set i e)).length = _; rw [ih, List.length_set]
theorem putb_out : ∀ (σ : List Nat) (es h : aH) {k : Nat}, k ∉ σ → (putb σ es h)[k]? = h[k]? := by
  intro σ
  induction σ with
  | nil => intro es h k _; rfl
  | cons i r ih => intro es h k hk; cases es with
    | nil => rfl
    | cons e q =>
      show (putb r q (h.set i e))[k]? = _
      rw [ih q (h.set i e) (fun z => hk (List.mem_cons_of_mem _ z)), List.getElem?_set_ne (fun z => hk (List.mem_cons.mpr (Or.inl z.symm)))]
theorem putb_in : ∀ (σ : List Nat) (es h : aH) {j k : Nat} {e : aE}, va_nd σ = true → σ[j]? = some k → es[j]? = some e → k < h.length → (putb σ es h)[k]? = some e := by
  intro σ
  induction σ with
  | nil => intro es h j k e _ hj; simp at hj
  | cons i r ih => intro es h j k e hn hj he hk; cases es with
    | nil => simp at he
    | cons e0 q =>
      simp only [va_nd, Bool.and_eq_true, decide_eq_true_eq] at hn
      show (putb r q (h.set i e0))[k]? = some e
      cases j with
      | zero =>
        simp at hj he
        subst hj; subst he
        rw [putb_out r q _ hn.1]
        simp [hk]
      | succ j =>
        exact ih q (h.set i e0) hn.2 (by simpa using hj) (by simpa using he) (by rw [List.length_set]; exact hk)
theorem wl_some {cI cL : ClassId} {ad : Nat → Nat} {h : aH} {k : Nat} {q : Nat × va_E} (hq : (wl cI cL ad h)[k]? = some q) : ∃ e, h[k]? = some e ∧ q = (ad k, ee cI cL ad e) := by
  simp only [wl, List.getElem?_mapIdx] at hq
  cases hb : h[k]? with
  | none => rw [hb] at hq; simp at hq
  | some b => rw [hb] at hq; simp at hq; exact ⟨b, rfl, hq.symm⟩
theorem sub_get {σ : List Nat} {δ : List Nat} {h hc : aH} (hsub : σ.map (fun i => h[i]?) = (hc.map (rE σ δ)).map some) {j : Nat} {e : aE} (he : hc[j]? = some e) : ∃ i, σ[j]? = some i ∧ h[i]? = some (rE σ δ e) := by
  have h1 : (σ.map (fun i => h[i]?))[j]? = some (some (rE σ δ e)) := by rw [hsub]; simp [he]
  rw [List.getElem?_map] at h1
  cases hi : σ[j]? with
  | none => rw [hi] at h1; simp at h1
  | some i => rw [hi] at h1; simp at h1; exact ⟨i, rfl, h1⟩
theorem sub_len {σ : List Nat} {δ : List Nat} {h hc : aH} (hsub : σ.map (fun i => h[i]?) = (hc.map (rE σ δ)).map some) : σ.length = hc.length := by
  have := congrArg List.length hsub
  simpa using this
theorem sg_at {σ δ : List Nat} {j i : Nat} (hj : j < 100) (hi : σ[j]? = some i) : sg σ δ j = i := by
  have hb : Nat.blt j 100 = true := Nat.ble_eq.mpr hj
  simp [sg, hb, List.getD_eq_getElem?_getD, hi]
section CC
variable {p : Program} {l : Launch} {e : Env} {R : Room} {s : State} {m : MethodId} {args : Array Value} {below : List Frame} {meth : Method} {c : Code} {H : Heap} {locs : List Loc} {kc ks : Nat} {Q : State → Prop}
variable {D : va_G} {cI cL : ClassId} {ad : Nat → Nat} {A : Nat → Prop} {H0 : Heap}
theorem call_core {mc ms pc : Nat} {ls : Array Slot} {st0 rest : List Value} {σ δ : List Nat} {h hc hc' : aH} {r : Option Value} {as : Array Value}
    (hr : va_Run p l e R s m args below meth c H locs kc ks mc ms (F0 m pc ls st0) rest (aQc r hc hc' D cI cL (fun i => ad (sg σ δ i)) H.size as) (va_A (wl cI cL (fun i => ad (sg σ δ i)) hc) H.size))
    (hP : va_P D vwCl (wl cI cL ad h) H) (hD : va_D A (wl cI cL ad h)) (hS : va_S A H0 H locs) (hA : ∀ q, H0.size ≤ q → A q)
    (hsub : σ.map (fun i => h[i]?) = (hc.map (rE σ δ)).map some) (hnd : va_nd σ = true) (hlen : hc'.length = hc.length) (h100 : hc.length ≤ 100) (hok : hc'.all (okE hc.length) = true)
    (kk : ∀ (H1 : Heap) (locs1 : List Loc), va_P D vwCl (wl cI cL ad (putb σ (hc'.map (rE σ δ)) h)) H1 → va_D A (wl cI cL ad (putb σ (hc'.map (rE σ δ)) h)) → va_S A H0 H1 locs1 → W p l e R s m args below meth c H1 locs1 (kc + mc) (ks + ms) Q (F0 m (pc + 3) ls (r.toList ++ rest))) :
    W p l e R s m args below meth c H locs kc ks Q (F0 m pc ls st0) := by
  intro T hT X
  obtain ⟨v, st₀, t, T', L, h0, X', hL, e1, e2, ⟨⟨ad', ha', hv, hP1, hD1⟩, hF⟩, st⟩ := hr T hT X
  cases hv
  have hAc : ∀ q, va_A (wl cI cL (fun i => ad (sg σ δ i)) hc) H.size q → A q := by
    intro q hq
    rcases hq with ⟨k, x, hk⟩ | hq
    · obtain ⟨e0, he0, hq2⟩ := wl_some hk
      have hjl : k < hc.length := (List.getElem?_eq_some_iff.mp he0).1
      obtain ⟨i, hi, hh⟩ := sub_get hsub he0
      have h3 := hD.2 i _ (wl_get hh)
      have h4 : q = ad i := by
        have := congrArg Prod.fst hq2
        simpa [sg_at (δ := δ) (by omega : k < 100) hi] using this
      rw [h4]; exact h3
    · exact hA q (Nat.le_trans hS.1 hq)
  have hz : H.size ≤ t.heap.size := by rw [← h0]; exact hF.1
  have hk : ∀ q : Nat, q < H.size → ¬ va_A (wl cI cL (fun i => ad (sg σ δ i)) hc) H.size q → t.heap[q]? = H[q]? := fun q h1 h2 => by
    have := hF.2 q (by rw [h0]; exact h1) h2
    rw [h0] at this
    exact this
  have hPn : va_P D vwCl (wl cI cL ad (putb σ (hc'.map (rE σ δ)) h)) T'.heap := by
    intro k q hq
    obtain ⟨e0, he0, rfl⟩ := wl_some hq
    by_cases hkσ : k ∈ σ
    · obtain ⟨j, hj⟩ := List.getElem?_of_mem hkσ
      have hjl : j < hc.length := by rw [← sub_len hsub]; exact (List.getElem?_eq_some_iff.mp hj).1
      have hjl' : j < hc'.length := by rw [hlen]; exact hjl
      have he' : hc'[j]? = some hc'[j] := List.getElem?_eq_getElem hjl'
      have hkl : k < h.length := by
        have := (List.getElem?_eq_some_iff.mp he0).1
        rwa [putb_len] at this
      have h1 := putb_in σ (hc'.map (rE σ δ)) h hnd hj (e := rE σ δ hc'[j]) (by rw [List.getElem?_map, he']; rfl) hkl
      have h2 : e0 = rE σ δ hc'[j] := Option.some.inj (he0.symm.trans h1)
      have h3 := hP1 j _ (wl_get he')
      have e7 : (fun i => ad (sg σ δ i)) j = ad k := by
        show ad (sg σ δ j) = ad k
        rw [sg_at (δ := δ) (by omega : j < 100) hj]
      rw [ha' j (Or.inl hjl), ee_agree ha' (List.all_eq_true.mp hok _ (List.getElem_mem hjl')), e7] at h3
      rw [h2, ee_rE, e1]
      exact h3
    · rw [putb_out σ _ h hkσ] at he0
      have h1 := hP k _ (wl_get (cI := cI) (cL := cL) (ad := ad) he0)
      have hlt : ad k < H.size := h1.lt
      refine h1.kept ?_
      rw [e1]
      refine hk (ad k) hlt ?_
      rintro (⟨k2, x, hx⟩ | hx)
      · obtain ⟨e2, he2, hq2⟩ := wl_some hx
        have hjl : k2 < hc.length := (List.getElem?_eq_some_iff.mp he2).1
        obtain ⟨i, hi, hh⟩ := sub_get hsub he2
        have h4 : ad k = ad i := by
          have := congrArg Prod.fst hq2
          simpa [sg_at (δ := δ) (by omega : k2 < 100) hi] using this
        have h5 := hD.1 k i _ _ (wl_get he0) (wl_get hh) h4
        exact hkσ (h5 ▸ List.mem_of_getElem? hi)
      · omega
  have hDn : va_D A (wl cI cL ad (putb σ (hc'.map (rE σ δ)) h)) := by
    have tt : ∀ (k : Nat) (q : Nat × va_E), (wl cI cL ad (putb σ (hc'.map (rE σ δ)) h))[k]? = some q → ∃ q', (wl cI cL ad h)[k]? = some q' ∧ q'.1 = q.1 := fun k q hq => by
      obtain ⟨e0, he0, rfl⟩ := wl_some hq
      have hkl : k < h.length := by
        have := (List.getElem?_eq_some_iff.mp he0).1
        rwa [putb_len] at this
      exact ⟨_, wl_get (List.getElem?_eq_getElem hkl), rfl⟩
    refine ⟨fun i j x y hi hj he => ?_, fun k q hk => ?_⟩
    · obtain ⟨x', hx, e3⟩ := tt i x hi
      obtain ⟨y', hy, e4⟩ := tt j y hj
      exact hD.1 i j x' y' hx hy (by rw [e3, e4, he])
    · obtain ⟨q', hq, e3⟩ := tt k q hk
      rw [← e3]; exact hD.2 k q' hq
  have hSn : va_S A H0 T'.heap (locs ++ L) := ⟨Nat.le_trans hS.1 (by rw [e1]; exact hz), fun q h1 h2 => by rw [e1, hk q (Nat.lt_of_lt_of_le h1 hS.1) (fun z => h2 (hAc q z))]; exact hS.2.1 q h1 h2, fun q hq => by
      rcases List.mem_append.mp hq with h | h
      · exact hS.2.2 q h
      · exact hAc _ (hL q h)⟩
  obtain ⟨t2, a1, b1⟩ := kk T'.heap (locs ++ L) hPn hDn hSn T' rfl X'
  exact ⟨t2, st t2 a1, b1⟩
end CC
def mlnk (own : String) (idx : Nat) (y : MethodName) : Prop := Cond.methodLink own idx y ∈ kwl ∨ ∃ host : String, Cond.methodLinkNest own idx y host ∈ kwl
def yok (y : MethodName) (b : ByteArray) (maxL : Nat) (ret : Option FieldType) (n : Nat) : Prop := Cond.code y b maxL ret ∈ kwl ∧ Cond.initialized y.cls ∈ kwl ∧ (y.cls ≠ "java/lang/invoke/MethodHandle" ∧ y.cls ≠ "java/lang/invoke/VarHandle") ∧ (parseMethodDescriptor y.desc).map (fun d => d.parameters.length) = some n
theorem yok_n {y : MethodName} {b : ByteArray} {maxL : Nat} {ret : Option FieldType} {n : Nat} (h : yok y b maxL ret n) : ∀ sig, parseMethodDescriptor y.desc = some sig → n = sig.parameters.length := fun sig hs => by
  have h2 := h.2.2.2
  rw [hs] at h2
  exact (Option.some.inj h2).symm
theorem aPc_blind (as : List Value) (h : aH) (D : va_G) (cI cL : ClassId) (ad0 : Nat → Nat) (sz : Nat) : FrameBlind (aPc as h D cI cL ad0 sz) := fun a U g mk q => by
  obtain ⟨q1, q2, q3, q4, q5, q6⟩ := q
  exact ⟨q1, q2, q3, va_K.moved (u := U) (U := U.calling g mk a) (Vm.Alike.refl U.vm) q4, q5, kw.moved (s := U) (U := U.calling g mk a) (State.WarmedH.refl U) q6⟩
theorem sub_PD {D : va_G} {cI cL : ClassId} {ad : Nat → Nat} {A : Nat → Prop} {H : Heap} {σ δ : List Nat} {h hc : aH} (hP : va_P D vwCl (wl cI cL ad h) H) (hD : va_D A (wl cI cL ad h)) (hsub : σ.map (fun i => h[i]?) = (hc.map (rE σ δ)).map some) (hnd : va_nd σ = true) (h100 : hc.length ≤ 100) :
    va_P D vwCl (wl cI cL (fun i => ad (sg σ δ i)) hc) H ∧ va_D (fun _ => True) (wl cI cL (fun i => ad (sg σ δ i)) hc) := by
  have tt : ∀ (k : Nat) (q : Nat × va_E), (wl cI cL (fun i => ad (sg σ δ i)) hc)[k]? = some q → ∃ i, σ[k]? = some i ∧ (wl cI cL ad h)[i]? = some q := fun k q hq => by
    obtain ⟨e0, he0, rfl⟩ := wl_some hq
    have hjl : k < hc.length := (List.getElem?_eq_some_iff.mp he0).1
    obtain ⟨i, hi, hh⟩ := sub_get hsub he0
    refine ⟨i, hi, ?_⟩
    rw [wl_get hh, ee_rE, sg_at (δ := δ) (by omega : k < 100) hi]
  refine ⟨fun k q hq => ?_, fun a b x y hx hy he => ?_, fun _ _ _ => trivial⟩
  · obtain ⟨i, -, hi⟩ := tt k q hq
    exact hP i q hi
  · obtain ⟨i, h1, h2⟩ := tt a x hx
    obtain ⟨j, h3, h4⟩ := tt b y hy
    have hij := hD.1 i j x y h2 h4 he
    subst hij
    exact va_nd_inj σ hnd a b i h1 h3
theorem cats (ad : Nat → Nat) (l : List Value) : ((l.map (ev ad)).map fun v => v.category) = l.map fun v => v.category := by
  rw [List.map_map]
  exact List.map_congr_left fun v _ => ev_cat ad v
theorem AW.callS {G : aG} {M : aM} {tb : List (Nat × Instr)} {FT PT : List (Nat × Nat × Nat)} (hm : amok M tb FT PT) (i : Nat) {h hc hc' h1 : aH} {kc ks pc idx maxL n : Nat} {lv : aV} {as rest st st' : List Value} {y : MethodName} {b : ByteArray} {ret : Option FieldType} {rm R : Room} {r : Option Value}
    (hc0 : AMet y b maxL ret rm as hc r hc') (σ δ : List Nat) (hy : yok y b maxL ret n) (hstat : Cond.static y ∈ kwl) (hlk : mlnk M.1 idx y) (hn : as.length = n)
    (hi : tb[i]? = some (pc, .invokestatic idx)) (hst : st = (as.map (rv σ δ)).reverse ++ rest) (hcat : Nat.ble (rest.map fun v => v.category).sum 8 = true)
    (hR : aRm G = R) (hRR : rm.frames + 1 ≤ R.frames ∧ 8 + (maxL + 11) + rm.locals ≤ R.locals ∧ kc + rm.cells ≤ R.cells ∧ ks + rm.slots ≤ R.slots)
    (hsub : σ.map (fun i => h[i]?) = (hc.map (rE σ δ)).map some) (hnd : va_nd σ = true) (hlen : hc'.length = hc.length) (h100 : Nat.ble hc.length 100 = true) (hok : hc'.all (okE hc.length) = true) (hr0 : ∀ ad, r.map (ev ad) = r)
    (hh1 : putb σ (hc'.map (rE σ δ)) h = h1) (hst' : r.toList ++ rest = st') (k : AW G M h1 (kc + rm.cells) (ks + rm.slots) (pc + 3) lv st') : AW G M h kc ks pc lv st := by
  have hd := tb_at hm.1 i hi
  obtain ⟨p, l, e, R0, s, m, args, below, meth, c, Q, D, cI, cL, A, ad0, X⟩ := G
  have hR : R0 = R := hR
  subst hR; subst hh1; subst hst'; subst hst
  intro ok ad H locs ls ha hP hD hS hl
  obtain ⟨hx, hb, hml, hown, hkw, hK, hA, hX⟩ := id ok
  have h100 := Nat.le_of_ble_eq_true h100
  obtain ⟨hPc, hDc⟩ := sub_PD (δ := δ) hP hD hsub hnd h100
  have hws : ∀ w ∈ ([.code y b maxL ret] : List Cond), ∀ (a' : Array Value) (U : State), s.WarmedH U.vm → w.before a' U = true := fun w hw a' U hW => (kw.moved hW hkw).use w (by rw [List.mem_singleton.mp hw]; exact hy.1)
  have hpre : PreS s H (aPc as hc D cI cL (fun i => ad (sg σ δ i)) H.size) (as.map (ev (fun i => ad (sg σ δ i)))) := ⟨aPc_blind _ _ _ _ _ _ _, fun U hU hW => ⟨rfl, by rw [hU], by rw [hU]; exact hPc, va_K.moved hW.alike hK, hDc, kw.moved hW hkw⟩⟩
  have hstk : ((as.map (rv σ δ)).reverse ++ rest).map (ev ad) = (as.map (ev (fun i => ad (sg σ δ i)))).reverse ++ rest.map (ev ad) := by
    rw [List.map_append, List.map_reverse, evs_rv]
  have hcat2 : 2 * (F0 m pc ls (((as.map (rv σ δ)).reverse ++ rest).map (ev ad))).monitorRoom + ((rest.map (ev ad)).map fun v => v.category).sum ≤ 8 := lv_room (by rw [cats]; exact Nat.le_of_ble_eq_true hcat)
  have run : va_Run p l e R0 s m args below meth c H locs kc ks rm.cells rm.slots (F0 m pc ls (((as.map (rv σ δ)).reverse ++ rest).map (ev ad))) (rest.map (ev ad)) (aQc r hc hc' D cI cL (fun i => ad (sg σ δ i)) H.size (as.map (ev (fun i => ad (sg σ δ i)))).toArray) (va_A (wl cI cL (fun i => ad (sg σ δ i)) hc) H.size) := by
    rcases hlk with hlk | ⟨host, hlk⟩
    · exact va_runS (Ts := kwl) (own := M.1) ⟨hx, hb, hml, hown, hkw.use⟩ (hc0 l D cI cL _ H.size) ⟨⟨rfl, rfl, hRR.1, hRR.2.1, hws, List.mem_singleton.mpr rfl, hkw.use _ hy.1, hkw.use _ hy.2.1, hy.2.2.1, yok_n hy, hkw.use _ hlk⟩, hkw.use _ hstat⟩ hpre rfl (by rw [List.length_map]; exact hn) hl.1 hstk hcat2 hd ⟨hRR.2.2.1, hRR.2.2.2⟩
    · exact va_runSN (Ts := kwl) (own := M.1) ⟨hx, hb, hml, hown, hkw.use⟩ (hc0 l D cI cL _ H.size) ⟨⟨⟨rfl, rfl, hRR.1, hRR.2.1, hws, List.mem_singleton.mpr rfl⟩, hkw.use _ hy.1, hkw.use _ hy.2.1, hy.2.2.1, yok_n hy, hkw.use _ hlk⟩, hkw.use _ hstat, trivial⟩ hpre rfl (by rw [List.length_map]; exact hn) hl.1 hstk hcat2 hd ⟨hRR.2.2.1, hRR.2.2.2⟩
  refine call_core run hP hD hS hA hsub hnd hlen h100 hok (fun H1 locs1 hP hD hS => ?_)
  have k2 := k ok ad H1 locs1 ls ha hP hD hS hl
  rw [List.map_append] at k2
  have hr1 : r.toList.map (ev ad) = r.toList := by
    have := hr0 ad
    cases r with
    | none => rfl
    | some v => simpa using this
  rw [hr1] at k2
  exact k2
theorem AW.callV {G : aG} {M : aM} {tb : List (Nat × Instr)} {FT PT : List (Nat × Nat × Nat)} (hm : amok M tb FT PT) (i : Nat) {h hc hc' h1 : aH} {kc ks pc idx maxL n : Nat} {lv : aV} {as rest st st' : List Value} {ci : Nat} {fs : List Value} {hcr : aH} {y : MethodName} {b : ByteArray} {ret : Option FieldType} {rm R : Room} {r : Option Value}
    (hc0 : AMet y b maxL ret rm (.ref 0 :: as) hc r hc') (hrec : hc = aO ci fs :: hcr) (hcl : (vwCl[ci]?).map (fun q => q.1) = some y.cls) (σ δ : List Nat) (hy : yok y b maxL ret n) (hinst : Cond.instanceMethod y ∈ kwl) (hsel : Cond.selects y.cls y y ∈ kwl) (hlk : mlnk M.1 idx y) (hn : as.length = n)
    (hi : tb[i]? = some (pc, .invokevirtual idx)) (hst : st = (as.map (rv σ δ)).reverse ++ .ref (sg σ δ 0) :: rest) (hcat : Nat.ble (rest.map fun v => v.category).sum 8 = true)
    (hR : aRm G = R) (hRR : rm.frames + 1 ≤ R.frames ∧ 8 + (maxL + 11) + rm.locals ≤ R.locals ∧ kc + rm.cells ≤ R.cells ∧ ks + rm.slots ≤ R.slots)
    (hsub : σ.map (fun i => h[i]?) = (hc.map (rE σ δ)).map some) (hnd : va_nd σ = true) (hlen : hc'.length = hc.length) (h100 : Nat.ble hc.length 100 = true) (hok : hc'.all (okE hc.length) = true) (hr0 : ∀ ad, r.map (ev ad) = r)
    (hh1 : putb σ (hc'.map (rE σ δ)) h = h1) (hst' : r.toList ++ rest = st') (k : AW G M h1 (kc + rm.cells) (ks + rm.slots) (pc + 3) lv st') : AW G M h kc ks pc lv st := by
  have hd := tb_at hm.1 i hi
  obtain ⟨p, l, e, R0, s, m, args, below, meth, c, Q, D, cI, cL, A, ad0, X⟩ := G
  have hR : R0 = R := hR
  subst hR; subst hh1; subst hst'; subst hst
  intro ok ad H locs ls ha hP hD hS hl
  obtain ⟨hx, hb, hml, hown, hkw, hK, hA, hX⟩ := id ok
  have h100 := Nat.le_of_ble_eq_true h100
  obtain ⟨hPc, hDc⟩ := sub_PD (δ := δ) hP hD hsub hnd h100
  have hws : ∀ w ∈ ([.code y b maxL ret] : List Cond), ∀ (a' : Array Value) (U : State), s.WarmedH U.vm → w.before a' U = true := fun w hw a' U hW => (kw.moved hW hkw).use w (by rw [List.mem_singleton.mp hw]; exact hy.1)
  obtain ⟨q, hq, hqc⟩ : ∃ q, vwCl[ci]? = some q ∧ q.1 = y.cls := by
    cases hh : vwCl[ci]? with
    | none => rw [hh] at hcl; cases hcl
    | some q => rw [hh] at hcl; exact ⟨q, rfl, Option.some.inj hcl⟩
  have hcell : ∃ cellB : Cell, H[ad (sg σ δ 0)]? = some cellB ∧ cellB.vm.isStatics = false ∧ s.vm.findClass y.cls = some cellB.cls := by
    have h0 : hc[0]? = some (aO ci fs) := by rw [hrec]; rfl
    have := va_recv (q0 := 0) hK hPc hq (by rw [wl_get h0]; rfl)
    rw [hqc] at this
    exact this
  have hpre : PreV s H y.cls (ad (sg σ δ 0)) (aPc (.ref 0 :: as) hc D cI cL (fun i => ad (sg σ δ i)) H.size) (as.map (ev (fun i => ad (sg σ δ i)))) := ⟨aPc_blind _ _ _ _ _ _ _, hcell, fun U hU hW => ⟨rfl, by rw [hU], by rw [hU]; exact hPc, va_K.moved hW.alike hK, hDc, kw.moved hW hkw⟩⟩
  have hstk : ((as.map (rv σ δ)).reverse ++ .ref (sg σ δ 0) :: rest).map (ev ad) = (as.map (ev (fun i => ad (sg σ δ i)))).reverse ++ .ref (ad (sg σ δ 0)) :: rest.map (ev ad) := by
    rw [List.map_append, List.map_reverse, evs_rv]
    rfl
  have hcat2 : 2 * (F0 m pc ls (((as.map (rv σ δ)).reverse ++ .ref (sg σ δ 0) :: rest).map (ev ad))).monitorRoom + ((rest.map (ev ad)).map fun v => v.category).sum ≤ 8 := lv_room (by rw [cats]; exact Nat.le_of_ble_eq_true hcat)
  have run : va_Run p l e R0 s m args below meth c H locs kc ks rm.cells rm.slots (F0 m pc ls (((as.map (rv σ δ)).reverse ++ .ref (sg σ δ 0) :: rest).map (ev ad))) (rest.map (ev ad)) (aQc r hc hc' D cI cL (fun i => ad (sg σ δ i)) H.size (Value.ref (ad (sg σ δ 0)) :: as.map (ev (fun i => ad (sg σ δ i)))).toArray) (va_A (wl cI cL (fun i => ad (sg σ δ i)) hc) H.size) := by
    rcases hlk with hlk | ⟨host, hlk⟩
    · exact va_runV (Ts := kwl) (own := M.1) (C := y.cls) ⟨hx, hb, hml, hown, hkw.use⟩ (hc0 l D cI cL _ H.size) ⟨⟨rfl, rfl, hRR.1, hRR.2.1, hws, List.mem_singleton.mpr rfl, hkw.use _ hy.1, hkw.use _ hy.2.1, hy.2.2.1, yok_n hy, hkw.use _ hlk⟩, hkw.use _ hinst, hkw.use _ hsel⟩ hpre rfl (by rw [List.length_map]; exact hn) hl.1 hstk hcat2 hd ⟨hRR.2.2.1, hRR.2.2.2⟩
    · exact va_runVN (Ts := kwl) (own := M.1) (C := y.cls) ⟨hx, hb, hml, hown, hkw.use⟩ (hc0 l D cI cL _ H.size) ⟨⟨⟨rfl, rfl, hRR.1, hRR.2.1, hws, List.mem_singleton.mpr rfl⟩, hkw.use _ hy.1, hkw.use _ hy.2.1, hy.2.2.1, yok_n hy, hkw.use _ hlk⟩, hkw.use _ hinst, hkw.use _ hsel⟩ hpre rfl (by rw [List.length_map]; exact hn) hl.1 hstk hcat2 hd ⟨hRR.2.2.1, hRR.2.2.2⟩
  refine call_core run hP hD hS hA hsub hnd hlen h100 hok (fun H1 locs1 hP hD hS => ?_)
  have k2 := k ok ad H1 locs1 ls ha hP hD hS hl
  rw [List.map_append] at k2
  have hr1 : r.toList.map (ev ad) = r.toList := by
    have := hr0 ad
    cases r with
    | none => rfl
    | some v => simpa using this
  rw [hr1] at k2
  exact k2
end
section
/-! ===== tables, by program ===== -/
def ftb (own : String) (x : Nat × Nat × Nat) : Bool := match vwCl[x.2.1]? with
  | some q => decide (x.2.2 < q.2.2) && kwl.any (fun w => match w with
    | .fieldLink o i a b d => o == own && i == x.1 && a == (q.2.1 x.2.2).1 && b == (q.2.1 x.2.2).2.1 && d == (q.2.1 x.2.2).2.2.1
    | .fieldLinkNest o i a b d _ => o == own && i == x.1 && a == (q.2.1 x.2.2).1 && b == (q.2.1 x.2.2).2.1 && d == (q.2.1 x.2.2).2.2.1
    | _ => false)
  | none => false
theorem ftb_ok {own : String} {x : Nat × Nat × Nat} (h : ftb own x = true) : ∃ (C : String) (T : u_T) (N : Nat), vwCl[x.2.1]? = some (C, T, N) ∧ x.2.2 < N ∧ lnk own x.1 (T x.2.2).1 (T x.2.2).2.1 (T x.2.2).2.2.1 := by
  unfold ftb at h
  split at h
  · rename_i q hq
    obtain ⟨C, T, N⟩ := q
    obtain ⟨h1, h2⟩ := (Bool.and_eq_true _ _).mp h
    obtain ⟨w, hw, hb⟩ := List.any_eq_true.mp h2
    refine ⟨C, T, N, hq, of_decide_eq_true h1, ?_⟩
    split at hb
    · simp only [Bool.and_eq_true, beq_iff_eq] at hb
      obtain ⟨⟨⟨⟨e1, e2⟩, e3⟩, e4⟩, e5⟩ := hb
      subst e1; subst e2; subst e3; subst e4; subst e5
      exact Or.inl hw
    · rename_i host
      simp only [Bool.and_eq_true, beq_iff_eq] at hb
      obtain ⟨⟨⟨⟨e1, e2⟩, e3⟩, e4⟩, e5⟩ := hb
      subst e1; subst e2; subst e3; subst e4; subst e5
      exact Or.inr ⟨_, hw⟩
    · cases hb
  · cases h
theorem FTok_of {own : String} {FT : List (Nat × Nat × Nat)} (h : FT.all (ftb own) = true) : FTok own FT := fun x hx => ftb_ok (List.all_eq_true.mp h x hx)
def ptb (x : Nat × Nat × Nat) : Bool := match vwCl[x.2.1]? with
  | some q => !(q.2.1 x.2.2).2.2.2 && decide (parseFieldDescriptor (q.2.1 x.2.2).2.2.1 = some .int)
  | none => false
theorem PTok_of {own : String} {PT : List (Nat × Nat × Nat)} (h : PT.all (fun x => ftb own x && ptb x) = true) : PTok own PT := fun x hx => by
  obtain ⟨h1, h2⟩ := (Bool.and_eq_true _ _).mp (List.all_eq_true.mp h x hx)
  obtain ⟨C, T, N, q1, q2, q3⟩ := ftb_ok h1
  unfold ptb at h2
  rw [q1] at h2
  obtain ⟨h3, h4⟩ := (Bool.and_eq_true _ _).mp h2
  exact ⟨C, T, N, q1, q2, q3, by simpa using h3, of_decide_eq_true h4⟩
theorem tbok_of {cc : ByteArray} {tb : List (Nat × Instr)} (h : tb.all (fun x => decide (decode cc x.1 = .ok (x.2, ilen x.2))) = true) : tbok cc tb := fun x hx => of_decide_eq_true (List.all_eq_true.mp h x hx)
def FTX0 : List (Nat × Nat × Nat) := [(9, 0, 0), (15, 0, 1), (18, 0, 2), (21, 0, 3), (24, 0, 4), (27, 0, 5), (30, 0, 6), (33, 0, 7), (36, 0, 8), (39, 0, 9), (42, 0, 10), (45, 0, 11), (54, 0, 12), (58, 0, 13)]
theorem ftX0 : FTok RX0 FTX0 := FTok_of (by decide +kernel)
def PTX0 : List (Nat × Nat × Nat) := [(54, 0, 12), (58, 0, 13)]
theorem ptX0 : PTok RX0 PTX0 := PTok_of (by decide +kernel)
def FTX1 : List (Nat × Nat × Nat) := [(10, 1, 0), (16, 1, 1), (19, 1, 2), (36, 0, 1), (39, 0, 2), (49, 0, 5), (58, 0, 0), (63, 0, 12), (79, 0, 6), (85, 0, 9), (90, 0, 8)]
theorem ftX1 : FTok RX1 FTX1 := FTok_of (by decide +kernel)
def PTX1 : List (Nat × Nat × Nat) := [(63, 0, 12)]
theorem ptX1 : PTok RX1 PTX1 := PTok_of (by decide +kernel)
def FTX2 : List (Nat × Nat × Nat) := [(3, 2, 9), (15, 2, 1), (19, 2, 2), (22, 2, 3), (25, 2, 4), (28, 2, 5), (31, 2, 6), (34, 2, 7), (37, 2, 8), (46, 2, 0), (54, 3, 5), (70, 3, 2), (76, 3, 3), (79, 3, 1), (82, 3, 4)]
theorem ftX2 : FTok RX2 FTX2 := FTok_of (by decide +kernel)
def PTX2 : List (Nat × Nat × Nat) := [(46, 2, 0), (82, 3, 4)]
theorem ptX2 : PTok RX2 PTX2 := PTok_of (by decide +kernel)
def FTX3 : List (Nat × Nat × Nat) := [(9, 3, 1), (13, 3, 2), (16, 3, 3), (19, 3, 5), (22, 3, 6), (30, 3, 7), (34, 3, 8), (37, 2, 2), (40, 3, 0), (48, 3, 4), (63, 2, 1), (71, 2, 4), (74, 2, 5), (83, 2, 6), (89, 2, 7), (92, 2, 8), (101, 2, 3), (107, 2, 0)]
theorem ftX3 : FTok RX3 FTX3 := FTok_of (by decide +kernel)
def PTX3 : List (Nat × Nat × Nat) := [(40, 3, 0), (48, 3, 4), (107, 2, 0)]
theorem ptX3 : PTok RX3 PTX3 := PTok_of (by decide +kernel)
def FTL : List (Nat × Nat × Nat) := []
theorem ftL : FTok RL FTL := FTok_of (by decide +kernel)
def PTL : List (Nat × Nat × Nat) := []
theorem ptL : PTok RL PTL := PTok_of (by decide +kernel)
def tbX0_init : List (Nat × Instr) := [(0, .aload_n 0), (1, .invokespecial 3), (4, .aload_n 0), (5, .bipush 9), (7, .newarray .int), (9, .putfield 9), (12, .aload_n 0), (13, .bipush 9), (15, .newarray .int), (17, .putfield 15), (20, .aload_n 0), (21, .bipush 9), (23, .newarray .int), (25, .putfield 18), (28, .aload_n 0), (29, .bipush 9), (31, .newarray .int), (33, .putfield 21), (36, .aload_n 0), (37, .bipush 9), (39, .newarray .int), (41, .putfield 24), (44, .aload_n 0), (45, .bipush 8), (47, .newarray .int), (49, .putfield 27), (52, .aload_n 0), (53, .bipush 8), (55, .newarray .int), (57, .putfield 30), (60, .aload_n 0), (61, .bipush 8), (63, .newarray .int), (65, .putfield 33), (68, .aload_n 0), (69, .bipush 8), (71, .newarray .int), (73, .putfield 36), (76, .aload_n 0), (77, .bipush 8), (79, .newarray .int), (81, .putfield 39), (84, .aload_n 0), (85, .bipush 8), (87, .newarray .int), (89, .putfield 42), (92, .aload_n 0), (93, .bipush 8), (95, .newarray .int), (97, .putfield 45), (100, .iconst 0), (101, .istore_n 1), (102, .iload_n 1), (103, .bipush 9), (105, .if_icmp .ge 31), (108, .aload_n 0), (109, .getfield 15), (112, .iload_n 1), (113, .iconst 2), (114, .iastore), (115, .aload_n 0), (116, .getfield 18), (119, .iload_n 1), (120, .bipush 10), (122, .iastore), (123, .aload_n 0), (124, .getfield 21), (127, .iload_n 1), (128, .iconst (-1)), (129, .iastore), (130, .iinc 1 1), (133, .goto (-31)), (136, .return_)]
theorem amX0_init (n : Nat) : amok (yX0_init.cls, cX0_init, 2, n) tbX0_init FTX0 PTX0 := ⟨tbok_of (cc := cX0_init) (by decide +kernel), ftX0, ptX0⟩
def tbX0_copyFrom : List (Nat × Instr) := [(0, .aload_n 1), (1, .ifnonnull 4), (4, .return_), (5, .aload_n 1), (6, .getfield 9), (9, .iconst 0), (10, .aload_n 0), (11, .getfield 9), (14, .iconst 0), (15, .bipush 9), (17, .invokestatic 48), (20, .aload_n 1), (21, .getfield 15), (24, .iconst 0), (25, .aload_n 0), (26, .getfield 15), (29, .iconst 0), (30, .bipush 9), (32, .invokestatic 48), (35, .aload_n 1), (36, .getfield 18), (39, .iconst 0), (40, .aload_n 0), (41, .getfield 18), (44, .iconst 0), (45, .bipush 9), (47, .invokestatic 48), (50, .aload_n 1), (51, .getfield 21), (54, .iconst 0), (55, .aload_n 0), (56, .getfield 21), (59, .iconst 0), (60, .bipush 9), (62, .invokestatic 48), (65, .aload_n 1), (66, .getfield 24), (69, .iconst 0), (70, .aload_n 0), (71, .getfield 24), (74, .iconst 0), (75, .bipush 9), (77, .invokestatic 48), (80, .aload_n 1), (81, .getfield 27), (84, .iconst 0), (85, .aload_n 0), (86, .getfield 27), (89, .iconst 0), (90, .bipush 8), (92, .invokestatic 48), (95, .aload_n 1), (96, .getfield 30), (99, .iconst 0), (100, .aload_n 0), (101, .getfield 30), (104, .iconst 0), (105, .bipush 8), (107, .invokestatic 48), (110, .aload_n 1), (111, .getfield 33), (114, .iconst 0), (115, .aload_n 0), (116, .getfield 33), (119, .iconst 0), (120, .bipush 8), (122, .invokestatic 48), (125, .aload_n 1), (126, .getfield 36), (129, .iconst 0), (130, .aload_n 0), (131, .getfield 36), (134, .iconst 0), (135, .bipush 8), (137, .invokestatic 48), (140, .aload_n 1), (141, .getfield 39), (144, .iconst 0), (145, .aload_n 0), (146, .getfield 39), (149, .iconst 0), (150, .bipush 8), (152, .invokestatic 48), (155, .aload_n 1), (156, .getfield 42), (159, .iconst 0), (160, .aload_n 0), (161, .getfield 42), (164, .iconst 0), (165, .bipush 8), (167, .invokestatic 48), (170, .aload_n 1), (171, .getfield 45), (174, .iconst 0), (175, .aload_n 0), (176, .getfield 45), (179, .iconst 0), (180, .bipush 8), (182, .invokestatic 48), (185, .aload_n 0), (186, .aload_n 1), (187, .getfield 54), (190, .putfield 54), (193, .aload_n 0), (194, .aload_n 1), (195, .getfield 58), (198, .putfield 58), (201, .return_)]
theorem amX0_copyFrom (n : Nat) : amok (yX0_copyFrom.cls, cX0_copyFrom, 2, n) tbX0_copyFrom FTX0 PTX0 := ⟨tbok_of (cc := cX0_copyFrom) (by decide +kernel), ftX0, ptX0⟩
def tbX0_isSweeper : List (Nat × Instr) := [(0, .iload_n 1), (1, .ifCond .lt 21), (4, .iload_n 1), (5, .bipush 8), (7, .if_icmp .ge 15), (10, .iload_n 1), (11, .aload_n 0), (12, .getfield 54), (15, .if_icmp .ge 7), (18, .iconst 1), (19, .goto 4), (22, .iconst 0), (23, .ireturn)]
theorem amX0_isSweeper (n : Nat) : amok (yX0_isSweeper.cls, cX0_isSweeper, 2, n) tbX0_isSweeper FTX0 PTX0 := ⟨tbok_of (cc := cX0_isSweeper) (by decide +kernel), ftX0, ptX0⟩
def tbX0_holdsPitch : List (Nat × Instr) := [(0, .aload_n 0), (1, .iload_n 1), (2, .invokevirtual 61), (5, .ifCond .eq 34), (8, .aload_n 0), (9, .getfield 30), (12, .iload_n 1), (13, .iaload), (14, .invokestatic 65), (17, .ifCond .eq 22), (20, .aload_n 0), (21, .getfield 21), (24, .aload_n 0), (25, .getfield 30), (28, .iload_n 1), (29, .iaload), (30, .iaload), (31, .iload_n 1), (32, .if_icmp .ne 7), (35, .iconst 1), (36, .goto 4), (39, .iconst 0), (40, .ireturn)]
theorem amX0_holdsPitch (n : Nat) : amok (yX0_holdsPitch.cls, cX0_holdsPitch, 2, n) tbX0_holdsPitch FTX0 PTX0 := ⟨tbok_of (cc := cX0_holdsPitch) (by decide +kernel), ftX0, ptX0⟩
def tbX0_reach : List (Nat × Instr) := [(0, .aload_n 0), (1, .iload_n 1), (2, .invokevirtual 61), (5, .ifCond .eq 22), (8, .aload_n 0), (9, .getfield 33), (12, .iload_n 1), (13, .iaload), (14, .aload_n 0), (15, .getfield 36), (18, .iload_n 1), (19, .iaload), (20, .bipush 8), (22, .idiv), (23, .iadd), (24, .goto 4), (27, .iconst 0), (28, .ireturn)]
theorem amX0_reach (n : Nat) : amok (yX0_reach.cls, cX0_reach, 2, n) tbX0_reach FTX0 PTX0 := ⟨tbok_of (cc := cX0_reach) (by decide +kernel), ftX0, ptX0⟩
def tbX0_addMud : List (Nat × Instr) := [(0, .iload_n 1), (1, .invokestatic 65), (4, .ifCond .eq 22), (7, .aload_n 0), (8, .getfield 9), (11, .iload_n 1), (12, .bipush 50), (14, .aload_n 0), (15, .getfield 9), (18, .iload_n 1), (19, .iaload), (20, .iload_n 2), (21, .iadd), (22, .invokestatic 68), (25, .iastore), (26, .return_)]
theorem amX0_addMud (n : Nat) : amok (yX0_addMud.cls, cX0_addMud, 3, n) tbX0_addMud FTX0 PTX0 := ⟨tbok_of (cc := cX0_addMud) (by decide +kernel), ftX0, ptX0⟩
def tbX0_admit : List (Nat × Instr) := [(0, .aload_n 0), (1, .getfield 54), (4, .istore_n 3), (5, .iload_n 3), (6, .ifCond .lt 9), (9, .iload_n 3), (10, .bipush 8), (12, .if_icmp .lt 5), (15, .iconst (-1)), (16, .ireturn), (17, .aload_n 0), (18, .getfield 30), (21, .iload_n 3), (22, .iload_n 1), (23, .iastore), (24, .aload_n 0), (25, .getfield 33), (28, .iload_n 3), (29, .iload_n 2), (30, .iastore), (31, .aload_n 0), (32, .getfield 36), (35, .iload_n 3), (36, .bipush 40), (38, .iastore), (39, .aload_n 0), (40, .iload_n 3), (41, .iconst 1), (42, .iadd), (43, .putfield 54), (46, .iload_n 3), (47, .ireturn)]
theorem amX0_admit (n : Nat) : amok (yX0_admit.cls, cX0_admit, 4, n) tbX0_admit FTX0 PTX0 := ⟨tbok_of (cc := cX0_admit) (by decide +kernel), ftX0, ptX0⟩
def tbX0_moveTo : List (Nat × Instr) := [(0, .aload_n 0), (1, .iload_n 1), (2, .invokevirtual 61), (5, .ifCond .ne 4), (8, .return_), (9, .aload_n 0), (10, .getfield 30), (13, .iload_n 1), (14, .iaload), (15, .istore_n 3), (16, .iload_n 3), (17, .invokestatic 65), (20, .ifCond .eq 20), (23, .aload_n 0), (24, .getfield 21), (27, .iload_n 3), (28, .iaload), (29, .iload_n 1), (30, .if_icmp .ne 10), (33, .aload_n 0), (34, .getfield 21), (37, .iload_n 3), (38, .iconst (-1)), (39, .iastore), (40, .aload_n 0), (41, .getfield 30), (44, .iload_n 1), (45, .iload_n 2), (46, .iastore), (47, .return_)]
theorem amX0_moveTo (n : Nat) : amok (yX0_moveTo.cls, cX0_moveTo, 4, n) tbX0_moveTo FTX0 PTX0 := ⟨tbok_of (cc := cX0_moveTo) (by decide +kernel), ftX0, ptX0⟩
def tbX0_live : List (Nat × Instr) := [(0, .iconst 0), (1, .istore_n 2), (2, .iconst 0), (3, .istore_n 3), (4, .iload_n 3), (5, .bipush 96), (7, .if_icmp .ge 21), (10, .iload_n 3), (11, .iload_n 1), (12, .if_icmp .ge 16), (15, .iload_n 2), (16, .aload_n 0), (17, .invokevirtual 74), (20, .iadd), (21, .istore_n 2), (22, .iinc 3 1), (25, .goto (-21)), (28, .iload_n 2), (29, .ireturn)]
theorem amX0_live (n : Nat) : amok (yX0_live.cls, cX0_live, 4, n) tbX0_live FTX0 PTX0 := ⟨tbok_of (cc := cX0_live) (by decide +kernel), ftX0, ptX0⟩
def tbX0_liveQuarter : List (Nat × Instr) := [(0, .aload_n 0), (1, .getfield 58), (4, .bipush 8), (6, .irem), (7, .istore_n 1), (8, .iload_n 1), (9, .ifCond .lt 18), (12, .iload_n 1), (13, .bipush 8), (15, .if_icmp .ge 12), (18, .aload_n 0), (19, .getfield 27), (22, .iload_n 1), (23, .iaload), (24, .goto 4), (27, .iconst 0), (28, .istore_n 2), (29, .iconst 0), (30, .istore_n 3), (31, .iload_n 3), (32, .bipush 9), (34, .if_icmp .ge 22), (37, .aload_n 0), (38, .iload_n 3), (39, .aload_n 0), (40, .getfield 15), (43, .iload_n 3), (44, .iaload), (45, .iload_n 2), (46, .iadd), (47, .invokevirtual 78), (50, .iinc 3 1), (53, .goto (-22)), (56, .iconst 0), (57, .istore_n 3), (58, .iload_n 2), (59, .bipush 6), (61, .if_icmp .ge 12), (64, .aload_n 0), (65, .invokevirtual 82), (68, .aload_n 0), (69, .invokevirtual 85), (72, .istore_n 3), (73, .iconst 0), (74, .istore 4), (76, .iload 4), (78, .bipush 8), (80, .if_icmp .ge 33), (83, .iload 4), (85, .aload_n 0), (86, .getfield 54), (89, .if_icmp .ge 24), (92, .aload_n 0), (93, .iload 4), (95, .invokevirtual 88), (98, .ifCond .ne 9), (101, .aload_n 0), (102, .iload 4), (104, .invokevirtual 91), (107, .iinc 4 1), (110, .goto (-34)), (113, .aload_n 0), (114, .dup), (115, .getfield 58), (118, .iconst 1), (119, .iadd), (120, .putfield 58), (123, .iload_n 3), (124, .ireturn)]
theorem amX0_liveQuarter (n : Nat) : amok (yX0_liveQuarter.cls, cX0_liveQuarter, 5, n) tbX0_liveQuarter FTX0 PTX0 := ⟨tbok_of (cc := cX0_liveQuarter) (by decide +kernel), ftX0, ptX0⟩
def tbX0_sweepAll : List (Nat × Instr) := [(0, .iconst 0), (1, .istore_n 1), (2, .iload_n 1), (3, .bipush 8), (5, .if_icmp .ge 94), (8, .iload_n 1), (9, .aload_n 0), (10, .getfield 54), (13, .if_icmp .ge 86), (16, .aload_n 0), (17, .getfield 30), (20, .iload_n 1), (21, .iaload), (22, .istore_n 2), (23, .iload_n 2), (24, .invokestatic 65), (27, .ifCond .eq 66), (30, .aload_n 0), (31, .getfield 21), (34, .iload_n 2), (35, .iaload), (36, .iload_n 1), (37, .if_icmp .ne 56), (40, .aload_n 0), (41, .getfield 9), (44, .iload_n 2), (45, .iaload), (46, .aload_n 0), (47, .iload_n 1), (48, .invokevirtual 95), (51, .invokestatic 68), (54, .istore_n 3), (55, .aload_n 0), (56, .getfield 9), (59, .iload_n 2), (60, .dup2), (61, .iaload), (62, .iload_n 3), (63, .isub), (64, .iastore), (65, .aload_n 0), (66, .getfield 42), (69, .iload_n 1), (70, .dup2), (71, .iaload), (72, .iload_n 3), (73, .iadd), (74, .iastore), (75, .aload_n 0), (76, .getfield 36), (79, .iload_n 1), (80, .iconst 0), (81, .aload_n 0), (82, .getfield 36), (85, .iload_n 1), (86, .iaload), (87, .iconst 1), (88, .isub), (89, .invokestatic 99), (92, .iastore), (93, .iinc 1 1), (96, .goto (-94)), (99, .return_)]
theorem amX0_sweepAll (n : Nat) : amok (yX0_sweepAll.cls, cX0_sweepAll, 4, n) tbX0_sweepAll FTX0 PTX0 := ⟨tbok_of (cc := cX0_sweepAll) (by decide +kernel), ftX0, ptX0⟩
def tbX0_payAll : List (Nat × Instr) := [(0, .iconst 0), (1, .istore_n 1), (2, .iconst 0), (3, .istore_n 2), (4, .iload_n 2), (5, .bipush 9), (7, .if_icmp .ge 58), (10, .aload_n 0), (11, .getfield 21), (14, .iload_n 2), (15, .iaload), (16, .istore_n 3), (17, .aload_n 0), (18, .iload_n 3), (19, .invokevirtual 61), (22, .ifCond .eq 37), (25, .aload_n 0), (26, .iload_n 2), (27, .invokevirtual 102), (30, .istore 4), (32, .aload_n 0), (33, .getfield 39), (36, .iload_n 3), (37, .dup2), (38, .iaload), (39, .iload 4), (41, .iadd), (42, .iastore), (43, .aload_n 0), (44, .getfield 24), (47, .iload_n 2), (48, .dup2), (49, .iaload), (50, .iload 4), (52, .iadd), (53, .iastore), (54, .iload_n 1), (55, .iload 4), (57, .iadd), (58, .istore_n 1), (59, .iinc 2 1), (62, .goto (-58)), (65, .iload_n 1), (66, .ireturn)]
theorem amX0_payAll (n : Nat) : amok (yX0_payAll.cls, cX0_payAll, 5, n) tbX0_payAll FTX0 PTX0 := ⟨tbok_of (cc := cX0_payAll) (by decide +kernel), ftX0, ptX0⟩
def tbX0_wage : List (Nat × Instr) := [(0, .iload_n 1), (1, .invokestatic 65), (4, .ifCond .eq 14), (7, .aload_n 0), (8, .getfield 9), (11, .iload_n 1), (12, .iaload), (13, .bipush 15), (15, .if_icmp .le 5), (18, .iconst 0), (19, .ireturn), (20, .aload_n 0), (21, .getfield 9), (24, .iload_n 1), (25, .iaload), (26, .iconst 5), (27, .if_icmp .gt 14), (30, .aload_n 0), (31, .getfield 18), (34, .iload_n 1), (35, .iaload), (36, .iconst 2), (37, .idiv), (38, .goto 11), (41, .aload_n 0), (42, .getfield 18), (45, .iload_n 1), (46, .iaload), (47, .iconst 5), (48, .idiv), (49, .ireturn)]
theorem amX0_wage (n : Nat) : amok (yX0_wage.cls, cX0_wage, 2, n) tbX0_wage FTX0 PTX0 := ⟨tbok_of (cc := cX0_wage) (by decide +kernel), ftX0, ptX0⟩
def tbX0_seekPitch : List (Nat × Instr) := [(0, .aload_n 0), (1, .iload_n 1), (2, .invokevirtual 61), (5, .ifCond .eq 15), (8, .aload_n 0), (9, .getfield 30), (12, .iload_n 1), (13, .iaload), (14, .invokestatic 65), (17, .ifCond .ne 4), (20, .return_), (21, .aload_n 0), (22, .getfield 30), (25, .iload_n 1), (26, .iaload), (27, .istore_n 2), (28, .aload_n 0), (29, .getfield 21), (32, .iload_n 2), (33, .iaload), (34, .istore_n 3), (35, .aload_n 0), (36, .iload_n 3), (37, .invokevirtual 61), (40, .ifCond .ne 13), (43, .aload_n 0), (44, .getfield 21), (47, .iload_n 2), (48, .iload_n 1), (49, .iastore), (50, .goto 49), (53, .aload_n 0), (54, .getfield 33), (57, .iload_n 3), (58, .iaload), (59, .aload_n 0), (60, .getfield 33), (63, .iload_n 1), (64, .iaload), (65, .if_icmp .ge 23), (68, .aload_n 0), (69, .getfield 45), (72, .iload_n 3), (73, .dup2), (74, .iaload), (75, .iconst 1), (76, .iadd), (77, .iastore), (78, .aload_n 0), (79, .getfield 21), (82, .iload_n 2), (83, .iload_n 1), (84, .iastore), (85, .goto 14), (88, .aload_n 0), (89, .getfield 30), (92, .iload_n 1), (93, .aload_n 0), (94, .iload_n 2), (95, .invokevirtual 105), (98, .iastore), (99, .return_)]
theorem amX0_seekPitch (n : Nat) : amok (yX0_seekPitch.cls, cX0_seekPitch, 4, n) tbX0_seekPitch FTX0 PTX0 := ⟨tbok_of (cc := cX0_seekPitch) (by decide +kernel), ftX0, ptX0⟩
def tbX0_busiestNeighbour : List (Nat × Instr) := [(0, .iload_n 1), (1, .istore_n 2), (2, .iconst (-1)), (3, .istore_n 3), (4, .iconst 0), (5, .istore 4), (7, .iload 4), (9, .iconst 4), (10, .if_icmp .ge 47), (13, .iload_n 1), (14, .iload 4), (16, .invokestatic 108), (19, .istore 5), (21, .iload 5), (23, .invokestatic 65), (26, .ifCond .eq 25), (29, .aload_n 0), (30, .getfield 18), (33, .iload 5), (35, .iaload), (36, .iload_n 3), (37, .if_icmp .le 14), (40, .aload_n 0), (41, .getfield 18), (44, .iload 5), (46, .iaload), (47, .istore_n 3), (48, .iload 5), (50, .istore_n 2), (51, .iinc 4 1), (54, .goto (-47)), (57, .iload_n 2), (58, .ireturn)]
theorem amX0_busiestNeighbour (n : Nat) : amok (yX0_busiestNeighbour.cls, cX0_busiestNeighbour, 6, n) tbX0_busiestNeighbour FTX0 PTX0 := ⟨tbok_of (cc := cX0_busiestNeighbour) (by decide +kernel), ftX0, ptX0⟩
def tbX0_sweeperFact : List (Nat × Instr) := [(0, .aload_n 0), (1, .iload_n 1), (2, .invokevirtual 61), (5, .ifCond .ne 5), (8, .iconst 0), (9, .ireturn), (10, .iload_n 2), (52, .aload_n 0), (53, .getfield 30), (56, .iload_n 1), (57, .iaload), (58, .ireturn), (59, .aload_n 0), (60, .getfield 33), (63, .iload_n 1), (64, .iaload), (65, .ireturn), (66, .aload_n 0), (67, .getfield 36), (70, .iload_n 1), (71, .iaload), (72, .ireturn), (73, .aload_n 0), (74, .getfield 39), (77, .iload_n 1), (78, .iaload), (79, .ireturn), (80, .aload_n 0), (81, .iload_n 1), (82, .invokevirtual 88), (85, .ifCond .eq 7), (88, .iconst 1), (89, .goto 4), (92, .iconst 0), (93, .ireturn), (94, .aload_n 0), (95, .getfield 42), (98, .iload_n 1), (99, .iaload), (100, .ireturn), (101, .aload_n 0), (102, .getfield 45), (105, .iload_n 1), (106, .iaload), (107, .ireturn), (108, .aload_n 0), (109, .iload_n 1), (110, .invokevirtual 95), (113, .ireturn)]
theorem amX0_sweeperFact (n : Nat) : amok (yX0_sweeperFact.cls, cX0_sweeperFact, 3, n) tbX0_sweeperFact FTX0 PTX0 := ⟨tbok_of (cc := cX0_sweeperFact) (by decide +kernel), ftX0, ptX0⟩
theorem swX0_sweeperFact_11 : decode cX0_sweeperFact 11 = .ok (.tableswitch 97 0 6 #[41, 48, 55, 62, 69, 83, 90], 41) := by decide +kernel
def tbX0_crossingFact : List (Nat × Instr) := [(0, .iload_n 1), (1, .invokestatic 65), (4, .ifCond .ne 5), (7, .iconst 0), (8, .ireturn), (9, .iload_n 2), (44, .aload_n 0), (45, .getfield 9), (48, .iload_n 1), (49, .iaload), (50, .ireturn), (51, .aload_n 0), (52, .getfield 15), (55, .iload_n 1), (56, .iaload), (57, .ireturn), (58, .aload_n 0), (59, .getfield 18), (62, .iload_n 1), (63, .iaload), (64, .ireturn), (65, .aload_n 0), (66, .getfield 21), (69, .iload_n 1), (70, .iaload), (71, .ireturn), (72, .aload_n 0), (73, .iload_n 1), (74, .invokevirtual 111), (77, .ireturn), (78, .aload_n 0), (79, .getfield 24), (82, .iload_n 1), (83, .iaload), (84, .ireturn)]
theorem amX0_crossingFact (n : Nat) : amok (yX0_crossingFact.cls, cX0_crossingFact, 3, n) tbX0_crossingFact FTX0 PTX0 := ⟨tbok_of (cc := cX0_crossingFact) (by decide +kernel), ftX0, ptX0⟩
theorem swX0_crossingFact_10 : decode cX0_crossingFact 10 = .ok (.tableswitch 68 0 4 #[34, 41, 48, 55, 62], 34) := by decide +kernel
def tbX0_cityFact : List (Nat × Instr) := [(0, .iload_n 1), (44, .aload_n 0), (45, .getfield 58), (48, .ireturn), (49, .aload_n 0), (50, .getfield 54), (53, .ireturn), (54, .aload_n 0), (55, .invokevirtual 114), (58, .ireturn), (59, .aload_n 0), (60, .invokevirtual 117), (63, .ireturn), (64, .aload_n 0), (65, .getfield 39), (68, .invokestatic 120), (71, .ireturn), (72, .aload_n 0), (73, .invokevirtual 124), (76, .ireturn), (77, .aload_n 0), (78, .getfield 42), (81, .invokestatic 120), (84, .ireturn), (85, .aload_n 0), (86, .getfield 45), (89, .invokestatic 120), (92, .ireturn)]
theorem amX0_cityFact (n : Nat) : amok (yX0_cityFact.cls, cX0_cityFact, 2, n) tbX0_cityFact FTX0 PTX0 := ⟨tbok_of (cc := cX0_cityFact) (by decide +kernel), ftX0, ptX0⟩
theorem swX0_cityFact_1 : decode cX0_cityFact 1 = .ok (.tableswitch 84 0 6 #[43, 48, 53, 58, 63, 71, 76], 43) := by decide +kernel
def tbX0_allMud : List (Nat × Instr) := [(0, .aload_n 0), (1, .getfield 9), (4, .invokestatic 120), (7, .ireturn)]
theorem amX0_allMud (n : Nat) : amok (yX0_allMud.cls, cX0_allMud, 1, n) tbX0_allMud FTX0 PTX0 := ⟨tbok_of (cc := cX0_allMud) (by decide +kernel), ftX0, ptX0⟩
def tbX0_heldPitches : List (Nat × Instr) := [(0, .iconst 0), (1, .istore_n 1), (2, .iconst 0), (3, .istore_n 2), (4, .iload_n 2), (5, .bipush 9), (7, .if_icmp .ge 25), (10, .aload_n 0), (11, .aload_n 0), (12, .getfield 21), (15, .iload_n 2), (16, .iaload), (17, .invokevirtual 61), (20, .ifCond .eq 6), (23, .iinc 1 1), (26, .iinc 2 1), (29, .goto (-25)), (32, .iload_n 1), (33, .ireturn)]
theorem amX0_heldPitches (n : Nat) : amok (yX0_heldPitches.cls, cX0_heldPitches, 3, n) tbX0_heldPitches FTX0 PTX0 := ⟨tbok_of (cc := cX0_heldPitches) (by decide +kernel), ftX0, ptX0⟩
def tbX0_sweepersAt : List (Nat × Instr) := [(0, .iconst 0), (1, .istore_n 2), (2, .iconst 0), (3, .istore_n 3), (4, .iload_n 3), (5, .bipush 8), (7, .if_icmp .ge 30), (10, .iload_n 3), (11, .aload_n 0), (12, .getfield 54), (15, .if_icmp .ge 22), (18, .aload_n 0), (19, .getfield 30), (22, .iload_n 3), (23, .iaload), (24, .iload_n 1), (25, .if_icmp .ne 6), (28, .iinc 2 1), (31, .iinc 3 1), (34, .goto (-30)), (37, .iload_n 2), (38, .ireturn)]
theorem amX0_sweepersAt (n : Nat) : amok (yX0_sweepersAt.cls, cX0_sweepersAt, 4, n) tbX0_sweepersAt FTX0 PTX0 := ⟨tbok_of (cc := cX0_sweepersAt) (by decide +kernel), ftX0, ptX0⟩
def tbX0_cleanCrossings : List (Nat × Instr) := [(0, .iconst 0), (1, .istore_n 1), (2, .iconst 0), (3, .istore_n 2), (4, .iload_n 2), (5, .bipush 9), (7, .if_icmp .ge 22), (10, .aload_n 0), (11, .getfield 9), (14, .iload_n 2), (15, .iaload), (16, .iconst 5), (17, .if_icmp .gt 6), (20, .iinc 1 1), (23, .iinc 2 1), (26, .goto (-22)), (29, .iload_n 1), (30, .ireturn)]
theorem amX0_cleanCrossings (n : Nat) : amok (yX0_cleanCrossings.cls, cX0_cleanCrossings, 3, n) tbX0_cleanCrossings FTX0 PTX0 := ⟨tbok_of (cc := cX0_cleanCrossings) (by decide +kernel), ftX0, ptX0⟩
def tbX0_sum : List (Nat × Instr) := [(0, .iconst 0), (1, .istore_n 1), (2, .aload_n 0), (3, .ifnull 23), (6, .iconst 0), (7, .istore_n 2), (8, .iload_n 2), (9, .aload_n 0), (10, .arraylength), (11, .if_icmp .ge 15), (14, .iload_n 1), (15, .aload_n 0), (16, .iload_n 2), (17, .iaload), (18, .iadd), (19, .istore_n 1), (20, .iinc 2 1), (23, .goto (-15)), (26, .iload_n 1), (27, .ireturn)]
theorem amX0_sum (n : Nat) : amok (yX0_sum.cls, cX0_sum, 3, n) tbX0_sum FTX0 PTX0 := ⟨tbok_of (cc := cX0_sum) (by decide +kernel), ftX0, ptX0⟩
def tbX1_init : List (Nat × Instr) := [(0, .aload_n 0), (1, .invokespecial 1), (4, .aload_n 0), (5, .new 7), (8, .dup), (9, .invokespecial 9), (12, .putfield 10), (15, .aload_n 0), (16, .new 7), (19, .dup), (20, .invokespecial 9), (23, .putfield 16), (26, .aload_n 0), (27, .bipush 9), (29, .newarray .int), (31, .putfield 19), (34, .return_)]
theorem amX1_init (n : Nat) : amok (yX1_init.cls, cX1_init, 1, n) tbX1_init FTX1 PTX1 := ⟨tbok_of (cc := cX1_init) (by decide +kernel), ftX1, ptX1⟩
def tbX1_set : List (Nat × Instr) := [(0, .iload_n 1), (1, .invokestatic 23), (4, .iload_n 2), (5, .ifCond .lt 9), (8, .iload_n 2), (9, .bipush 9), (11, .if_icmp .le 13), (14, .new 27), (17, .dup), (18, .ldc 29), (20, .invokespecial 31), (23, .athrow), (24, .iload_n 3), (25, .ifCond .lt 9), (28, .iload_n 3), (29, .bipush 30), (31, .if_icmp .le 13), (34, .new 27), (37, .dup), (38, .ldc 34), (40, .invokespecial 31), (43, .athrow), (44, .bipush 100), (46, .aload_n 0), (47, .getfield 10), (50, .getfield 36), (53, .iload_n 1), (54, .iaload), (55, .imul), (56, .aload_n 0), (57, .getfield 10), (60, .getfield 39), (63, .iload_n 1), (64, .iaload), (65, .iadd), (66, .istore 4), (68, .aload_n 0), (69, .getfield 10), (72, .getfield 36), (75, .iload_n 1), (76, .iload_n 2), (77, .iastore), (78, .aload_n 0), (79, .getfield 10), (82, .getfield 39), (85, .iload_n 1), (86, .iload_n 3), (87, .iastore), (88, .iload 4), (90, .ireturn)]
theorem amX1_set (n : Nat) : amok (yX1_set.cls, cX1_set, 5, n) tbX1_set FTX1 PTX1 := ⟨tbok_of (cc := cX1_set) (by decide +kernel), ftX1, ptX1⟩
def tbX1_setRain : List (Nat × Instr) := [(0, .iload_n 1), (1, .ifCond .lt 9), (4, .iload_n 1), (5, .bipush 8), (7, .if_icmp .lt 13), (10, .new 42), (13, .dup), (14, .ldc 44), (16, .invokespecial 46), (19, .athrow), (20, .iload_n 2), (21, .ifCond .lt 9), (24, .iload_n 2), (25, .bipush 9), (27, .if_icmp .le 13), (30, .new 27), (33, .dup), (34, .ldc 47), (36, .invokespecial 31), (39, .athrow), (40, .aload_n 0), (41, .getfield 10), (44, .getfield 49), (47, .iload_n 1), (48, .iaload), (49, .istore_n 3), (50, .aload_n 0), (51, .getfield 10), (54, .getfield 49), (57, .iload_n 1), (58, .iload_n 2), (59, .iastore), (60, .iload_n 3), (61, .ireturn)]
theorem amX1_setRain (n : Nat) : amok (yX1_setRain.cls, cX1_setRain, 4, n) tbX1_setRain FTX1 PTX1 := ⟨tbok_of (cc := cX1_setRain) (by decide +kernel), ftX1, ptX1⟩
def tbX1_spill : List (Nat × Instr) := [(0, .iload_n 1), (1, .invokestatic 23), (4, .iload_n 2), (5, .iconst 1), (6, .if_icmp .lt 9), (9, .iload_n 2), (10, .bipush 50), (12, .if_icmp .le 13), (15, .new 27), (18, .dup), (19, .ldc 52), (21, .invokespecial 31), (24, .athrow), (25, .aload_n 0), (26, .getfield 10), (29, .iload_n 1), (30, .iload_n 2), (31, .invokevirtual 54), (34, .aload_n 0), (35, .getfield 10), (38, .getfield 58), (41, .iload_n 1), (42, .iaload), (43, .ireturn)]
theorem amX1_spill (n : Nat) : amok (yX1_spill.cls, cX1_spill, 3, n) tbX1_spill FTX1 PTX1 := ⟨tbok_of (cc := cX1_spill) (by decide +kernel), ftX1, ptX1⟩
def tbX1_come : List (Nat × Instr) := [(0, .iload_n 1), (1, .invokestatic 23), (4, .iload_n 2), (5, .iconst 1), (6, .if_icmp .lt 9), (9, .iload_n 2), (10, .bipush 9), (12, .if_icmp .le 13), (15, .new 27), (18, .dup), (19, .ldc 61), (21, .invokespecial 31), (24, .athrow), (25, .aload_n 0), (26, .getfield 10), (29, .getfield 63), (32, .ifCond .lt 15), (35, .aload_n 0), (36, .getfield 10), (39, .getfield 63), (42, .bipush 8), (44, .if_icmp .lt 13), (47, .new 67), (50, .dup), (51, .ldc 69), (53, .invokespecial 71), (56, .athrow), (57, .aload_n 0), (58, .getfield 10), (61, .iload_n 1), (62, .iload_n 2), (63, .invokevirtual 72), (66, .ireturn)]
theorem amX1_come (n : Nat) : amok (yX1_come.cls, cX1_come, 3, n) tbX1_come FTX1 PTX1 := ⟨tbok_of (cc := cX1_come) (by decide +kernel), ftX1, ptX1⟩
def tbX1_send : List (Nat × Instr) := [(0, .aload_n 0), (1, .iload_n 1), (2, .invokevirtual 76), (5, .iload_n 2), (6, .invokestatic 23), (9, .aload_n 0), (10, .getfield 10), (13, .getfield 79), (16, .iload_n 1), (17, .iaload), (18, .istore_n 3), (19, .aload_n 0), (20, .getfield 10), (23, .iload_n 1), (24, .iload_n 2), (25, .invokevirtual 82), (28, .iload_n 3), (29, .ireturn)]
theorem amX1_send (n : Nat) : amok (yX1_send.cls, cX1_send, 4, n) tbX1_send FTX1 PTX1 := ⟨tbok_of (cc := cX1_send) (by decide +kernel), ftX1, ptX1⟩
def tbX1_buy : List (Nat × Instr) := [(0, .aload_n 0), (1, .iload_n 1), (2, .invokevirtual 76), (5, .aload_n 0), (6, .getfield 10), (9, .getfield 85), (12, .iload_n 1), (13, .iaload), (14, .iconst 5), (15, .if_icmp .ge 13), (18, .new 67), (21, .dup), (22, .ldc 88), (24, .invokespecial 71), (27, .athrow), (28, .aload_n 0), (29, .getfield 10), (32, .getfield 85), (35, .iload_n 1), (36, .dup2), (37, .iaload), (38, .iconst 5), (39, .isub), (40, .iastore), (41, .aload_n 0), (42, .getfield 10), (45, .getfield 90), (48, .iload_n 1), (49, .bipush 40), (51, .iastore), (52, .aload_n 0), (53, .getfield 10), (56, .getfield 85), (59, .iload_n 1), (60, .iaload), (61, .ireturn)]
theorem amX1_buy (n : Nat) : amok (yX1_buy.cls, cX1_buy, 2, n) tbX1_buy FTX1 PTX1 := ⟨tbok_of (cc := cX1_buy) (by decide +kernel), ftX1, ptX1⟩
def tbX1_sweeper : List (Nat × Instr) := [(0, .aload_n 0), (1, .iload_n 1), (2, .invokevirtual 76), (5, .iload_n 2), (6, .bipush 8), (8, .invokestatic 93), (11, .aload_n 0), (12, .getfield 10), (15, .iload_n 1), (16, .iload_n 2), (17, .invokevirtual 96), (20, .ireturn)]
theorem amX1_sweeper (n : Nat) : amok (yX1_sweeper.cls, cX1_sweeper, 3, n) tbX1_sweeper FTX1 PTX1 := ⟨tbok_of (cc := cX1_sweeper) (by decide +kernel), ftX1, ptX1⟩
def tbX1_crossing : List (Nat × Instr) := [(0, .iload_n 1), (1, .invokestatic 23), (4, .iload_n 2), (5, .bipush 6), (7, .invokestatic 93), (10, .aload_n 0), (11, .getfield 10), (14, .iload_n 1), (15, .iload_n 2), (16, .invokevirtual 99), (19, .ireturn)]
theorem amX1_crossing (n : Nat) : amok (yX1_crossing.cls, cX1_crossing, 3, n) tbX1_crossing FTX1 PTX1 := ⟨tbok_of (cc := cX1_crossing) (by decide +kernel), ftX1, ptX1⟩
def tbX1_count : List (Nat × Instr) := [(0, .iload_n 1), (1, .bipush 8), (3, .invokestatic 93), (6, .aload_n 0), (7, .getfield 10), (10, .iload_n 1), (11, .invokevirtual 102), (14, .ireturn)]
theorem amX1_count (n : Nat) : amok (yX1_count.cls, cX1_count, 2, n) tbX1_count FTX1 PTX1 := ⟨tbok_of (cc := cX1_count) (by decide +kernel), ftX1, ptX1⟩
def tbX1_pass : List (Nat × Instr) := [(0, .iload_n 1), (1, .invokestatic 106), (4, .aload_n 0), (5, .getfield 10), (8, .iload_n 1), (9, .invokevirtual 109), (12, .ireturn)]
theorem amX1_pass (n : Nat) : amok (yX1_pass.cls, cX1_pass, 2, n) tbX1_pass FTX1 PTX1 := ⟨tbok_of (cc := cX1_pass) (by decide +kernel), ftX1, ptX1⟩
def tbX1_way : List (Nat × Instr) := [(0, .iload_n 1), (1, .invokestatic 23), (4, .iload_n 2), (5, .invokestatic 23), (8, .iconst 0), (9, .istore_n 3), (10, .iload_n 3), (11, .bipush 9), (13, .if_icmp .ge 17), (16, .aload_n 0), (17, .getfield 19), (20, .iload_n 3), (21, .ldc 112), (23, .iastore), (24, .iinc 3 1), (27, .goto (-17)), (30, .aload_n 0), (31, .getfield 19), (34, .iload_n 1), (35, .aload_n 0), (36, .getfield 10), (39, .getfield 58), (42, .iload_n 1), (43, .iaload), (44, .iastore), (45, .iconst 1), (46, .istore_n 3), (47, .iload_n 3), (48, .bipush 9), (50, .if_icmp .ge 13), (53, .aload_n 0), (54, .invokevirtual 113), (57, .iinc 3 1), (60, .goto (-13)), (63, .aload_n 0), (64, .getfield 19), (67, .iload_n 2), (68, .iaload), (69, .ireturn)]
theorem amX1_way (n : Nat) : amok (yX1_way.cls, cX1_way, 4, n) tbX1_way FTX1 PTX1 := ⟨tbok_of (cc := cX1_way) (by decide +kernel), ftX1, ptX1⟩
def tbX1_earns : List (Nat × Instr) := [(0, .aload_n 0), (1, .iload_n 1), (2, .invokevirtual 76), (5, .iload_n 2), (6, .invokestatic 106), (9, .aload_n 0), (10, .iload_n 1), (11, .iconst (-1)), (12, .iload_n 2), (13, .invokevirtual 116), (16, .ireturn)]
theorem amX1_earns (n : Nat) : amok (yX1_earns.cls, cX1_earns, 3, n) tbX1_earns FTX1 PTX1 := ⟨tbok_of (cc := cX1_earns) (by decide +kernel), ftX1, ptX1⟩
def tbX1_advise : List (Nat × Instr) := [(0, .aload_n 0), (1, .iload_n 1), (2, .invokevirtual 76), (5, .iload_n 2), (6, .invokestatic 106), (9, .iconst (-1)), (10, .istore_n 3), (11, .aload_n 0), (12, .iload_n 1), (13, .iconst (-1)), (14, .iload_n 2), (15, .invokevirtual 116), (18, .istore 4), (20, .iconst 0), (21, .istore 5), (23, .iload 5), (25, .bipush 9), (27, .if_icmp .ge 33), (30, .aload_n 0), (31, .iload_n 1), (32, .iload 5), (34, .iload_n 2), (35, .invokevirtual 116), (38, .istore 6), (40, .iload 6), (42, .iload 4), (44, .if_icmp .le 10), (47, .iload 6), (49, .istore 4), (51, .iload 5), (53, .istore_n 3), (54, .iinc 5 1), (57, .goto (-34)), (60, .iload_n 3), (61, .ireturn)]
theorem amX1_advise (n : Nat) : amok (yX1_advise.cls, cX1_advise, 7, n) tbX1_advise FTX1 PTX1 := ⟨tbok_of (cc := cX1_advise) (by decide +kernel), ftX1, ptX1⟩
def tbX1_foresee : List (Nat × Instr) := [(0, .iload_n 1), (1, .invokestatic 106), (4, .iload_n 2), (5, .iconst 3), (6, .invokestatic 93), (9, .aload_n 0), (10, .getfield 16), (13, .aload_n 0), (14, .getfield 10), (17, .invokevirtual 120), (20, .aload_n 0), (21, .getfield 16), (24, .iload_n 1), (25, .invokevirtual 109), (28, .istore_n 3), (29, .iload_n 2), (30, .ifCond .ne 5), (33, .iload_n 3), (34, .ireturn), (35, .iload_n 2), (36, .iconst 1), (37, .if_icmp .ne 13), (40, .aload_n 0), (41, .getfield 16), (44, .invokevirtual 124), (47, .goto 10), (50, .aload_n 0), (51, .getfield 16), (54, .invokevirtual 128), (57, .ireturn)]
theorem amX1_foresee (n : Nat) : amok (yX1_foresee.cls, cX1_foresee, 4, n) tbX1_foresee FTX1 PTX1 := ⟨tbok_of (cc := cX1_foresee) (by decide +kernel), ftX1, ptX1⟩
def tbX1_mean : List (Nat × Instr) := [(0, .aload_n 0), (1, .getfield 10), (4, .invokevirtual 124), (7, .i2d), (8, .ldc2_w 131), (11, .ddiv), (12, .dreturn)]
theorem amX1_mean (n : Nat) : amok (yX1_mean.cls, cX1_mean, 1, n) tbX1_mean FTX1 PTX1 := ⟨tbok_of (cc := cX1_mean) (by decide +kernel), ftX1, ptX1⟩
def tbX1_digest : List (Nat × Instr) := [(0, .ldc2_w 133), (3, .lstore_n 1), (4, .iconst 0), (5, .istore_n 3), (6, .iload_n 3), (7, .bipush 8), (9, .if_icmp .ge 25), (12, .lload_n 1), (13, .ldc2_w 135), (16, .lmul), (17, .aload_n 0), (18, .getfield 10), (21, .iload_n 3), (22, .invokevirtual 102), (25, .i2l), (26, .ladd), (27, .lstore_n 1), (28, .iinc 3 1), (31, .goto (-25)), (34, .iconst 0), (35, .istore_n 3), (36, .iload_n 3), (37, .bipush 9), (39, .if_icmp .ge 43), (42, .iconst 0), (43, .istore 4), (45, .iload 4), (47, .bipush 6), (49, .if_icmp .ge 27), (52, .lload_n 1), (53, .ldc2_w 135), (56, .lmul), (57, .aload_n 0), (58, .getfield 10), (61, .iload_n 3), (62, .iload 4), (64, .invokevirtual 99), (67, .i2l), (68, .ladd), (69, .lstore_n 1), (70, .iinc 4 1), (73, .goto (-28)), (76, .iinc 3 1), (79, .goto (-43)), (82, .iconst 0), (83, .istore_n 3), (84, .iload_n 3), (85, .bipush 8), (87, .if_icmp .ge 26), (90, .lload_n 1), (91, .ldc2_w 135), (94, .lmul), (95, .aload_n 0), (96, .getfield 10), (99, .getfield 49), (102, .iload_n 3), (103, .iaload), (104, .i2l), (105, .ladd), (106, .lstore_n 1), (107, .iinc 3 1), (110, .goto (-26)), (113, .iconst 0), (114, .istore_n 3), (115, .iload_n 3), (116, .bipush 8), (118, .if_icmp .ge 54), (121, .iload_n 3), (122, .aload_n 0), (123, .getfield 10), (126, .getfield 63), (129, .if_icmp .ge 43), (132, .iconst 0), (133, .istore 4), (135, .iload 4), (137, .bipush 8), (139, .if_icmp .ge 27), (142, .lload_n 1), (143, .ldc2_w 135), (146, .lmul), (147, .aload_n 0), (148, .getfield 10), (151, .iload_n 3), (152, .iload 4), (154, .invokevirtual 96), (157, .i2l), (158, .ladd), (159, .lstore_n 1), (160, .iinc 4 1), (163, .goto (-28)), (166, .iinc 3 1), (169, .goto (-54)), (172, .lload_n 1), (173, .lreturn)]
theorem amX1_digest (n : Nat) : amok (yX1_digest.cls, cX1_digest, 5, n) tbX1_digest FTX1 PTX1 := ⟨tbok_of (cc := cX1_digest) (by decide +kernel), ftX1, ptX1⟩
def tbX1_isCrossing : List (Nat × Instr) := [(0, .iload_n 0), (1, .ifCond .lt 13), (4, .iload_n 0), (5, .bipush 9), (7, .if_icmp .ge 7), (10, .iconst 1), (11, .goto 4), (14, .iconst 0), (15, .ireturn)]
theorem amX1_isCrossing (n : Nat) : amok (yX1_isCrossing.cls, cX1_isCrossing, 1, n) tbX1_isCrossing FTX1 PTX1 := ⟨tbok_of (cc := cX1_isCrossing) (by decide +kernel), ftX1, ptX1⟩
def tbX1_needCrossing : List (Nat × Instr) := [(0, .iload_n 0), (1, .invokestatic 137), (4, .ifCond .ne 13), (7, .new 42), (10, .dup), (11, .ldc 141), (13, .invokespecial 46), (16, .athrow), (17, .return_)]
theorem amX1_needCrossing (n : Nat) : amok (yX1_needCrossing.cls, cX1_needCrossing, 1, n) tbX1_needCrossing FTX1 PTX1 := ⟨tbok_of (cc := cX1_needCrossing) (by decide +kernel), ftX1, ptX1⟩
def tbX1_needSweeper : List (Nat × Instr) := [(0, .aload_n 0), (1, .getfield 10), (4, .iload_n 1), (5, .invokevirtual 143), (8, .ifCond .ne 13), (11, .new 42), (14, .dup), (15, .ldc 146), (17, .invokespecial 46), (20, .athrow), (21, .return_)]
theorem amX1_needSweeper (n : Nat) : amok (yX1_needSweeper.cls, cX1_needSweeper, 2, n) tbX1_needSweeper FTX1 PTX1 := ⟨tbok_of (cc := cX1_needSweeper) (by decide +kernel), ftX1, ptX1⟩
def tbX1_needFact : List (Nat × Instr) := [(0, .iload_n 0), (1, .ifCond .lt 8), (4, .iload_n 0), (5, .iload_n 1), (6, .if_icmp .lt 13), (9, .new 42), (12, .dup), (13, .ldc 148), (15, .invokespecial 46), (18, .athrow), (19, .return_)]
theorem amX1_needFact (n : Nat) : amok (yX1_needFact.cls, cX1_needFact, 2, n) tbX1_needFact FTX1 PTX1 := ⟨tbok_of (cc := cX1_needFact) (by decide +kernel), ftX1, ptX1⟩
def tbX1_needQuarters : List (Nat × Instr) := [(0, .iload_n 0), (1, .iconst 1), (2, .if_icmp .lt 9), (5, .iload_n 0), (6, .bipush 96), (8, .if_icmp .le 13), (11, .new 27), (14, .dup), (15, .ldc 150), (17, .invokespecial 31), (20, .athrow), (21, .return_)]
theorem amX1_needQuarters (n : Nat) : amok (yX1_needQuarters.cls, cX1_needQuarters, 1, n) tbX1_needQuarters FTX1 PTX1 := ⟨tbok_of (cc := cX1_needQuarters) (by decide +kernel), ftX1, ptX1⟩
def tbX1_neighbour : List (Nat × Instr) := [(0, .iload_n 1), (28, .iload_n 0), (29, .iconst 3), (30, .irem), (31, .ifCond .le 9), (34, .iload_n 0), (35, .iconst 1), (36, .isub), (37, .goto 4), (40, .iconst (-1)), (41, .ireturn), (42, .iload_n 0), (43, .iconst 3), (44, .irem), (45, .iconst 2), (46, .if_icmp .ge 9), (49, .iload_n 0), (50, .iconst 1), (51, .iadd), (52, .goto 4), (55, .iconst (-1)), (56, .ireturn), (57, .iload_n 0), (58, .iconst 3), (59, .if_icmp .lt 9), (62, .iload_n 0), (63, .iconst 3), (64, .isub), (65, .goto 4), (68, .iconst (-1)), (69, .ireturn), (70, .iload_n 0), (71, .bipush 6), (73, .if_icmp .ge 9), (76, .iload_n 0), (77, .iconst 3), (78, .iadd), (79, .goto 4), (82, .iconst (-1)), (83, .ireturn)]
theorem amX1_neighbour (n : Nat) : amok (yX1_neighbour.cls, cX1_neighbour, 2, n) tbX1_neighbour FTX1 PTX1 := ⟨tbok_of (cc := cX1_neighbour) (by decide +kernel), ftX1, ptX1⟩
theorem swX1_neighbour_1 : decode cX1_neighbour 1 = .ok (.tableswitch 69 0 2 #[27, 41, 56], 27) := by decide +kernel
def tbX1_shortenWays : List (Nat × Instr) := [(0, .iconst 0), (1, .istore_n 1), (2, .iload_n 1), (3, .bipush 9), (5, .if_icmp .ge 82), (8, .iconst 0), (9, .istore_n 2), (10, .iload_n 2), (11, .iconst 4), (12, .if_icmp .ge 69), (15, .iload_n 1), (16, .iload_n 2), (17, .invokestatic 152), (20, .istore_n 3), (21, .iload_n 3), (22, .invokestatic 137), (25, .ifCond .eq 50), (28, .aload_n 0), (29, .getfield 19), (32, .iload_n 3), (33, .iaload), (34, .aload_n 0), (35, .getfield 10), (38, .getfield 58), (41, .iload_n 1), (42, .iaload), (43, .iadd), (44, .aload_n 0), (45, .getfield 19), (48, .iload_n 1), (49, .iaload), (50, .if_icmp .ge 25), (53, .aload_n 0), (54, .getfield 19), (57, .iload_n 1), (58, .aload_n 0), (59, .getfield 19), (62, .iload_n 3), (63, .iaload), (64, .aload_n 0), (65, .getfield 10), (68, .getfield 58), (71, .iload_n 1), (72, .iaload), (73, .iadd), (74, .iastore), (75, .iinc 2 1), (78, .goto (-68)), (81, .iinc 1 1), (84, .goto (-82)), (87, .return_)]
theorem amX1_shortenWays (n : Nat) : amok (yX1_shortenWays.cls, cX1_shortenWays, 4, n) tbX1_shortenWays FTX1 PTX1 := ⟨tbok_of (cc := cX1_shortenWays) (by decide +kernel), ftX1, ptX1⟩
def tbX1_earned : List (Nat × Instr) := [(0, .aload_n 0), (1, .getfield 10), (4, .iload_n 1), (5, .invokevirtual 143), (8, .ifCond .ne 5), (11, .iconst 0), (12, .ireturn), (13, .aload_n 0), (14, .getfield 16), (17, .aload_n 0), (18, .getfield 10), (21, .invokevirtual 120), (24, .iload_n 2), (25, .invokestatic 137), (28, .ifCond .eq 12), (31, .aload_n 0), (32, .getfield 16), (35, .iload_n 1), (36, .iload_n 2), (37, .invokevirtual 82), (40, .aload_n 0), (41, .getfield 16), (44, .getfield 85), (47, .iload_n 1), (48, .iaload), (49, .istore 4), (51, .aload_n 0), (52, .getfield 16), (55, .iload_n 3), (56, .invokevirtual 109), (59, .pop), (60, .aload_n 0), (61, .getfield 16), (64, .getfield 85), (67, .iload_n 1), (68, .iaload), (69, .iload 4), (71, .isub), (72, .ireturn)]
theorem amX1_earned (n : Nat) : amok (yX1_earned.cls, cX1_earned, 5, n) tbX1_earned FTX1 PTX1 := ⟨tbok_of (cc := cX1_earned) (by decide +kernel), ftX1, ptX1⟩
def tbX2_init : List (Nat × Instr) := [(0, .aload_n 0), (1, .aload_n 1), (2, .putfield 3), (5, .aload_n 0), (6, .invokespecial 9), (9, .aload_n 0), (10, .bipush 9), (12, .newarray .int), (14, .putfield 15), (17, .aload_n 0), (18, .bipush 9), (20, .newarray .int), (22, .putfield 19), (25, .aload_n 0), (26, .bipush 9), (28, .newarray .int), (30, .putfield 22), (33, .aload_n 0), (34, .bipush 8), (36, .newarray .int), (38, .putfield 25), (41, .aload_n 0), (42, .bipush 8), (44, .newarray .int), (46, .putfield 28), (49, .aload_n 0), (50, .bipush 8), (52, .newarray .int), (54, .putfield 31), (57, .aload_n 0), (58, .bipush 8), (60, .newarray .int), (62, .putfield 34), (65, .aload_n 0), (66, .bipush 8), (68, .newarray .int), (70, .putfield 37), (73, .return_)]
theorem amX2_init (n : Nat) : amok (yX2_init.cls, cX2_init, 2, n) tbX2_init FTX2 PTX2 := ⟨tbok_of (cc := cX2_init) (by decide +kernel), ftX2, ptX2⟩
def tbX2_copy : List (Nat × Instr) := [(0, .aload_n 1), (1, .iconst 0), (2, .aload_n 2), (3, .iconst 0), (4, .aload_n 1), (5, .arraylength), (6, .invokestatic 40), (9, .return_)]
theorem amX2_copy (n : Nat) : amok (yX2_copy.cls, cX2_copy, 3, n) tbX2_copy FTX2 PTX2 := ⟨tbok_of (cc := cX2_copy) (by decide +kernel), ftX2, ptX2⟩
def tbX2_become : List (Nat × Instr) := [(0, .aload_n 0), (1, .aload_n 1), (2, .getfield 46), (5, .putfield 46), (8, .aload_n 0), (9, .aload_n 1), (10, .getfield 15), (13, .aload_n 0), (14, .getfield 15), (17, .invokevirtual 50), (20, .aload_n 0), (21, .aload_n 1), (22, .getfield 19), (25, .aload_n 0), (26, .getfield 19), (29, .invokevirtual 50), (32, .aload_n 0), (33, .aload_n 1), (34, .getfield 22), (37, .aload_n 0), (38, .getfield 22), (41, .invokevirtual 50), (44, .aload_n 0), (45, .aload_n 1), (46, .getfield 25), (49, .aload_n 0), (50, .getfield 25), (53, .invokevirtual 50), (56, .aload_n 0), (57, .aload_n 1), (58, .getfield 28), (61, .aload_n 0), (62, .getfield 28), (65, .invokevirtual 50), (68, .aload_n 0), (69, .aload_n 1), (70, .getfield 31), (73, .aload_n 0), (74, .getfield 31), (77, .invokevirtual 50), (80, .aload_n 0), (81, .aload_n 1), (82, .getfield 34), (85, .aload_n 0), (86, .getfield 34), (89, .invokevirtual 50), (92, .aload_n 0), (93, .aload_n 1), (94, .getfield 37), (97, .aload_n 0), (98, .getfield 37), (101, .invokevirtual 50), (104, .return_)]
theorem amX2_become (n : Nat) : amok (yX2_become.cls, cX2_become, 2, n) tbX2_become FTX2 PTX2 := ⟨tbok_of (cc := cX2_become) (by decide +kernel), ftX2, ptX2⟩
def tbX2_holds : List (Nat × Instr) := [(0, .aload_n 0), (1, .getfield 19), (4, .aload_n 0), (5, .getfield 25), (8, .iload_n 1), (9, .iaload), (10, .iaload), (11, .iload_n 1), (12, .if_icmp .ne 7), (15, .iconst 1), (16, .goto 4), (19, .iconst 0), (20, .ireturn)]
theorem amX2_holds (n : Nat) : amok (yX2_holds.cls, cX2_holds, 2, n) tbX2_holds FTX2 PTX2 := ⟨tbok_of (cc := cX2_holds) (by decide +kernel), ftX2, ptX2⟩
def tbX2_sweeps : List (Nat × Instr) := [(0, .aload_n 0), (1, .getfield 3), (4, .getfield 54), (7, .iload_n 1), (8, .iaload), (9, .aload_n 0), (10, .getfield 28), (13, .iload_n 1), (14, .iaload), (15, .bipush 8), (17, .idiv), (18, .iadd), (19, .ireturn)]
theorem amX2_sweeps (n : Nat) : amok (yX2_sweeps.cls, cX2_sweeps, 2, n) tbX2_sweeps FTX2 PTX2 := ⟨tbok_of (cc := cX2_sweeps) (by decide +kernel), ftX2, ptX2⟩
def tbX2_sweep : List (Nat × Instr) := [(0, .aload_n 0), (1, .getfield 15), (4, .aload_n 0), (5, .getfield 25), (8, .iload_n 1), (9, .iaload), (10, .iaload), (11, .aload_n 0), (12, .iload_n 1), (13, .invokevirtual 57), (16, .invokestatic 61), (19, .istore_n 2), (20, .aload_n 0), (21, .getfield 15), (24, .aload_n 0), (25, .getfield 25), (28, .iload_n 1), (29, .iaload), (30, .dup2), (31, .iaload), (32, .iload_n 2), (33, .isub), (34, .iastore), (35, .aload_n 0), (36, .getfield 34), (39, .iload_n 1), (40, .dup2), (41, .iaload), (42, .iload_n 2), (43, .iadd), (44, .iastore), (45, .aload_n 0), (46, .getfield 28), (49, .iload_n 1), (50, .iconst 0), (51, .aload_n 0), (52, .getfield 28), (55, .iload_n 1), (56, .iaload), (57, .iconst 1), (58, .isub), (59, .invokestatic 67), (62, .iastore), (63, .return_)]
theorem amX2_sweep (n : Nat) : amok (yX2_sweep.cls, cX2_sweep, 3, n) tbX2_sweep FTX2 PTX2 := ⟨tbok_of (cc := cX2_sweep) (by decide +kernel), ftX2, ptX2⟩
def tbX2_pay : List (Nat × Instr) := [(0, .aload_n 0), (1, .getfield 15), (4, .iload_n 1), (5, .iaload), (6, .iconst 5), (7, .if_icmp .gt 17), (10, .aload_n 0), (11, .getfield 3), (14, .getfield 70), (17, .iload_n 1), (18, .iaload), (19, .iconst 2), (20, .idiv), (21, .goto 29), (24, .aload_n 0), (25, .getfield 15), (28, .iload_n 1), (29, .iaload), (30, .bipush 15), (32, .if_icmp .gt 17), (35, .aload_n 0), (36, .getfield 3), (39, .getfield 70), (42, .iload_n 1), (43, .iaload), (44, .iconst 5), (45, .idiv), (46, .goto 4), (49, .iconst 0), (50, .istore_n 2), (51, .aload_n 0), (52, .getfield 22), (55, .iload_n 1), (56, .dup2), (57, .iaload), (58, .iload_n 2), (59, .iadd), (60, .iastore), (61, .aload_n 0), (62, .getfield 31), (65, .aload_n 0), (66, .getfield 19), (69, .iload_n 1), (70, .iaload), (71, .dup2), (72, .iaload), (73, .iload_n 2), (74, .iadd), (75, .iastore), (76, .iload_n 2), (77, .ireturn)]
theorem amX2_pay (n : Nat) : amok (yX2_pay.cls, cX2_pay, 3, n) tbX2_pay FTX2 PTX2 := ⟨tbok_of (cc := cX2_pay) (by decide +kernel), ftX2, ptX2⟩
def tbX2_look : List (Nat × Instr) := [(0, .aload_n 0), (1, .getfield 25), (4, .iload_n 1), (5, .iaload), (6, .istore_n 2), (7, .aload_n 0), (8, .getfield 19), (11, .iload_n 2), (12, .iaload), (13, .istore_n 3), (14, .iload_n 3), (15, .iconst (-1)), (16, .if_icmp .eq 39), (19, .aload_n 0), (20, .getfield 3), (23, .getfield 54), (26, .iload_n 3), (27, .iaload), (28, .aload_n 0), (29, .getfield 3), (32, .getfield 54), (35, .iload_n 1), (36, .iaload), (37, .if_icmp .lt 18), (40, .aload_n 0), (41, .getfield 25), (44, .iload_n 1), (45, .aload_n 0), (46, .getfield 3), (49, .iload_n 2), (50, .invokevirtual 73), (53, .iastore), (54, .return_), (55, .iload_n 3), (56, .iconst (-1)), (57, .if_icmp .eq 13), (60, .aload_n 0), (61, .getfield 37), (64, .iload_n 3), (65, .dup2), (66, .iaload), (67, .iconst 1), (68, .iadd), (69, .iastore), (70, .aload_n 0), (71, .getfield 19), (74, .iload_n 2), (75, .iload_n 1), (76, .iastore), (77, .return_)]
theorem amX2_look (n : Nat) : amok (yX2_look.cls, cX2_look, 4, n) tbX2_look FTX2 PTX2 := ⟨tbok_of (cc := cX2_look) (by decide +kernel), ftX2, ptX2⟩
def tbX2_pass : List (Nat × Instr) := [(0, .aload_n 0), (1, .getfield 3), (4, .getfield 76), (7, .aload_n 0), (8, .getfield 46), (11, .bipush 8), (13, .irem), (14, .iaload), (15, .istore_n 1), (16, .iconst 0), (17, .istore_n 2), (18, .iload_n 2), (19, .bipush 9), (21, .if_icmp .ge 38), (24, .aload_n 0), (25, .getfield 15), (28, .iload_n 2), (29, .bipush 50), (31, .aload_n 0), (32, .getfield 15), (35, .iload_n 2), (36, .iaload), (37, .aload_n 0), (38, .getfield 3), (41, .getfield 79), (44, .iload_n 2), (45, .iaload), (46, .iadd), (47, .iload_n 1), (48, .iadd), (49, .invokestatic 61), (52, .iastore), (53, .iinc 2 1), (56, .goto (-38)), (59, .iconst 0), (60, .istore_n 2), (61, .iload_n 1), (62, .bipush 6), (64, .if_icmp .ge 67), (67, .iconst 0), (68, .istore_n 3), (69, .iload_n 3), (70, .aload_n 0), (71, .getfield 3), (74, .getfield 82), (77, .if_icmp .ge 22), (80, .aload_n 0), (81, .iload_n 3), (82, .invokevirtual 85), (85, .ifCond .eq 8), (88, .aload_n 0), (89, .iload_n 3), (90, .invokevirtual 89), (93, .iinc 3 1), (96, .goto (-27)), (99, .iconst 0), (100, .istore_n 3), (101, .iload_n 3), (102, .bipush 9), (104, .if_icmp .ge 27), (107, .aload_n 0), (108, .getfield 19), (111, .iload_n 3), (112, .iaload), (113, .iconst (-1)), (114, .if_icmp .eq 11), (117, .iload_n 2), (118, .aload_n 0), (119, .iload_n 3), (120, .invokevirtual 93), (123, .iadd), (124, .istore_n 2), (125, .iinc 3 1), (128, .goto (-27)), (131, .iconst 0), (132, .istore_n 3), (133, .iload_n 3), (134, .aload_n 0), (135, .getfield 3), (138, .getfield 82), (141, .if_icmp .ge 22), (144, .aload_n 0), (145, .iload_n 3), (146, .invokevirtual 85), (149, .ifCond .ne 8), (152, .aload_n 0), (153, .iload_n 3), (154, .invokevirtual 96), (157, .iinc 3 1), (160, .goto (-27)), (163, .aload_n 0), (164, .dup), (165, .getfield 46), (168, .iconst 1), (169, .iadd), (170, .putfield 46), (173, .iload_n 2), (174, .ireturn)]
theorem amX2_pass (n : Nat) : amok (yX2_pass.cls, cX2_pass, 4, n) tbX2_pass FTX2 PTX2 := ⟨tbok_of (cc := cX2_pass) (by decide +kernel), ftX2, ptX2⟩
def tbX2_pass_ : List (Nat × Instr) := [(0, .iconst 0), (1, .istore_n 2), (2, .iconst 0), (3, .istore_n 3), (4, .iload_n 3), (5, .iload_n 1), (6, .if_icmp .ge 16), (9, .iload_n 2), (10, .aload_n 0), (11, .invokevirtual 99), (14, .iadd), (15, .istore_n 2), (16, .iinc 3 1), (19, .goto (-15)), (22, .iload_n 2), (23, .ireturn)]
theorem amX2_pass_ (n : Nat) : amok (yX2_pass_.cls, cX2_pass_, 4, n) tbX2_pass_ FTX2 PTX2 := ⟨tbok_of (cc := cX2_pass_) (by decide +kernel), ftX2, ptX2⟩
def tbX2_send : List (Nat × Instr) := [(0, .aload_n 0), (1, .getfield 25), (4, .iload_n 1), (5, .iaload), (6, .istore_n 3), (7, .aload_n 0), (8, .iload_n 1), (9, .invokevirtual 85), (12, .ifCond .eq 10), (15, .aload_n 0), (16, .getfield 19), (19, .iload_n 3), (20, .iconst (-1)), (21, .iastore), (22, .aload_n 0), (23, .getfield 25), (26, .iload_n 1), (27, .iload_n 2), (28, .iastore), (29, .iload_n 3), (30, .ireturn)]
theorem amX2_send (n : Nat) : amok (yX2_send.cls, cX2_send, 4, n) tbX2_send FTX2 PTX2 := ⟨tbok_of (cc := cX2_send) (by decide +kernel), ftX2, ptX2⟩
def tbX2_held : List (Nat × Instr) := [(0, .iconst 0), (1, .istore_n 1), (2, .aload_n 0), (3, .getfield 19), (6, .astore_n 2), (7, .aload_n 2), (8, .arraylength), (9, .istore_n 3), (10, .iconst 0), (11, .istore 4), (13, .iload 4), (15, .iload_n 3), (16, .if_icmp .ge 29), (19, .aload_n 2), (20, .iload 4), (22, .iaload), (23, .istore 5), (25, .iload_n 1), (26, .iload 5), (28, .iconst (-1)), (29, .if_icmp .ne 7), (32, .iconst 0), (33, .goto 4), (36, .iconst 1), (37, .iadd), (38, .istore_n 1), (39, .iinc 4 1), (42, .goto (-29)), (45, .iload_n 1), (46, .ireturn)]
theorem amX2_held (n : Nat) : amok (yX2_held.cls, cX2_held, 6, n) tbX2_held FTX2 PTX2 := ⟨tbok_of (cc := cX2_held) (by decide +kernel), ftX2, ptX2⟩
def tbX2_allMud : List (Nat × Instr) := [(0, .aload_n 0), (1, .aload_n 0), (2, .getfield 15), (5, .invokevirtual 103), (8, .ireturn)]
theorem amX2_allMud (n : Nat) : amok (yX2_allMud.cls, cX2_allMud, 1, n) tbX2_allMud FTX2 PTX2 := ⟨tbok_of (cc := cX2_allMud) (by decide +kernel), ftX2, ptX2⟩
def tbX2_sum : List (Nat × Instr) := [(0, .iconst 0), (1, .istore_n 2), (2, .aload_n 1), (3, .astore_n 3), (4, .aload_n 3), (5, .arraylength), (6, .istore 4), (8, .iconst 0), (9, .istore 5), (11, .iload 5), (13, .iload 4), (15, .if_icmp .ge 20), (18, .aload_n 3), (19, .iload 5), (21, .iaload), (22, .istore 6), (24, .iload_n 2), (25, .iload 6), (27, .iadd), (28, .istore_n 2), (29, .iinc 5 1), (32, .goto (-21)), (35, .iload_n 2), (36, .ireturn)]
theorem amX2_sum (n : Nat) : amok (yX2_sum.cls, cX2_sum, 7, n) tbX2_sum FTX2 PTX2 := ⟨tbok_of (cc := cX2_sum) (by decide +kernel), ftX2, ptX2⟩
def tbX3_init : List (Nat × Instr) := [(0, .aload_n 0), (1, .invokespecial 1), (4, .aload_n 0), (5, .bipush 9), (7, .newarray .int), (9, .putfield 9), (12, .aload_n 0), (13, .bipush 9), (15, .newarray .int), (17, .putfield 13), (20, .aload_n 0), (21, .bipush 8), (23, .newarray .int), (25, .putfield 16), (28, .aload_n 0), (29, .bipush 8), (31, .newarray .int), (33, .putfield 19), (36, .aload_n 0), (37, .bipush 9), (39, .newarray .int), (41, .putfield 22), (44, .aload_n 0), (45, .new 25), (48, .dup), (49, .aload_n 0), (50, .invokespecial 27), (53, .putfield 30), (56, .aload_n 0), (57, .new 25), (60, .dup), (61, .aload_n 0), (62, .invokespecial 27), (65, .putfield 34), (68, .iconst 0), (69, .istore_n 1), (70, .iload_n 1), (71, .bipush 9), (73, .if_icmp .ge 34), (76, .aload_n 0), (77, .getfield 9), (80, .iload_n 1), (81, .iconst 2), (82, .iastore), (83, .aload_n 0), (84, .getfield 13), (87, .iload_n 1), (88, .bipush 10), (90, .iastore), (91, .aload_n 0), (92, .getfield 30), (95, .getfield 37), (98, .iload_n 1), (99, .iconst (-1)), (100, .iastore), (101, .iinc 1 1), (104, .goto (-34)), (107, .return_)]
theorem amX3_init (n : Nat) : amok (yX3_init.cls, cX3_init, 2, n) tbX3_init FTX3 PTX3 := ⟨tbok_of (cc := cX3_init) (by decide +kernel), ftX3, ptX3⟩
def tbX3_thrown : List (Nat × Instr) := [(0, .aload_n 0), (1, .getfield 40), (4, .ireturn)]
theorem amX3_thrown (n : Nat) : amok (yX3_thrown.cls, cX3_thrown, 1, n) tbX3_thrown FTX3 PTX3 := ⟨tbok_of (cc := cX3_thrown) (by decide +kernel), ftX3, ptX3⟩
def tbX3_no : List (Nat × Instr) := [(0, .aload_n 0), (1, .iload_n 1), (2, .putfield 40), (5, .iconst 0), (6, .ireturn)]
theorem amX3_no (n : Nat) : amok (yX3_no.cls, cX3_no, 2, n) tbX3_no FTX3 PTX3 := ⟨tbok_of (cc := cX3_no) (by decide +kernel), ftX3, ptX3⟩
def tbX3_isIn : List (Nat × Instr) := [(0, .iload_n 0), (1, .iload_n 1), (2, .if_icmp .lt 12), (5, .iload_n 0), (6, .iload_n 2), (7, .if_icmp .gt 7), (10, .iconst 1), (11, .goto 4), (14, .iconst 0), (15, .ireturn)]
theorem amX3_isIn (n : Nat) : amok (yX3_isIn.cls, cX3_isIn, 3, n) tbX3_isIn FTX3 PTX3 := ⟨tbok_of (cc := cX3_isIn) (by decide +kernel), ftX3, ptX3⟩
def tbX3_isCrossing : List (Nat × Instr) := [(0, .iload_n 0), (1, .iconst 0), (2, .bipush 8), (4, .invokestatic 44), (7, .ireturn)]
theorem amX3_isCrossing (n : Nat) : amok (yX3_isCrossing.cls, cX3_isCrossing, 1, n) tbX3_isCrossing FTX3 PTX3 := ⟨tbok_of (cc := cX3_isCrossing) (by decide +kernel), ftX3, ptX3⟩
def tbX3_isSweeper : List (Nat × Instr) := [(0, .iload_n 1), (1, .iconst 0), (2, .aload_n 0), (3, .getfield 48), (6, .iconst 1), (7, .isub), (8, .invokestatic 44), (11, .ireturn)]
theorem amX3_isSweeper (n : Nat) : amok (yX3_isSweeper.cls, cX3_isSweeper, 2, n) tbX3_isSweeper FTX3 PTX3 := ⟨tbok_of (cc := cX3_isSweeper) (by decide +kernel), ftX3, ptX3⟩
def tbX3_isTime : List (Nat × Instr) := [(0, .iload_n 0), (1, .iconst 1), (2, .bipush 96), (4, .invokestatic 44), (7, .ireturn)]
theorem amX3_isTime (n : Nat) : amok (yX3_isTime.cls, cX3_isTime, 1, n) tbX3_isTime FTX3 PTX3 := ⟨tbok_of (cc := cX3_isTime) (by decide +kernel), ftX3, ptX3⟩
def tbX3_beside : List (Nat × Instr) := [(0, .iload_n 1), (1, .ifCond .ne 17), (4, .iload_n 0), (5, .iconst 3), (6, .irem), (7, .ifCond .le 9), (10, .iload_n 0), (11, .iconst 1), (12, .isub), (13, .goto 4), (16, .iconst (-1)), (17, .ireturn), (18, .iload_n 1), (19, .iconst 1), (20, .if_icmp .ne 18), (23, .iload_n 0), (24, .iconst 3), (25, .irem), (26, .iconst 2), (27, .if_icmp .ge 9), (30, .iload_n 0), (31, .iconst 1), (32, .iadd), (33, .goto 4), (36, .iconst (-1)), (37, .ireturn), (38, .iload_n 1), (39, .iconst 2), (40, .if_icmp .ne 18), (43, .iload_n 0), (44, .iconst 3), (45, .if_icmp .lt 9), (48, .iload_n 0), (49, .iconst 3), (50, .isub), (51, .goto 20), (54, .iconst (-1)), (55, .goto 16), (58, .iload_n 0), (59, .bipush 6), (61, .if_icmp .ge 9), (64, .iload_n 0), (65, .iconst 3), (66, .iadd), (67, .goto 4), (70, .iconst (-1)), (71, .ireturn)]
theorem amX3_beside (n : Nat) : amok (yX3_beside.cls, cX3_beside, 2, n) tbX3_beside FTX3 PTX3 := ⟨tbok_of (cc := cX3_beside) (by decide +kernel), ftX3, ptX3⟩
def tbX3_goesTo : List (Nat × Instr) := [(0, .iconst (-1)), (1, .istore_n 2), (2, .iconst 0), (3, .istore_n 3), (4, .iload_n 3), (5, .iconst 4), (6, .if_icmp .ge 46), (9, .iload_n 1), (10, .iload_n 3), (11, .invokestatic 51), (14, .istore 4), (16, .iload 4), (18, .iconst (-1)), (19, .if_icmp .eq 27), (22, .iload_n 2), (23, .iconst (-1)), (24, .if_icmp .eq 19), (27, .aload_n 0), (28, .getfield 13), (31, .iload 4), (33, .iaload), (34, .aload_n 0), (35, .getfield 13), (38, .iload_n 2), (39, .iaload), (40, .if_icmp .le 6), (43, .iload 4), (45, .istore_n 2), (46, .iinc 3 1), (49, .goto (-45)), (52, .iload_n 2), (53, .ireturn)]
theorem amX3_goesTo (n : Nat) : amok (yX3_goesTo.cls, cX3_goesTo, 5, n) tbX3_goesTo FTX3 PTX3 := ⟨tbok_of (cc := cX3_goesTo) (by decide +kernel), ftX3, ptX3⟩
def tbX3_set : List (Nat × Instr) := [(0, .aload_n 0), (1, .iconst 0), (2, .putfield 40), (5, .iload_n 1), (6, .invokestatic 55), (9, .ifCond .ne 9), (12, .aload_n 0), (13, .iconst 1), (14, .invokevirtual 59), (17, .ireturn), (18, .iload_n 2), (19, .iconst 0), (20, .bipush 9), (22, .invokestatic 44), (25, .ifCond .eq 13), (28, .iload_n 3), (29, .iconst 0), (30, .bipush 30), (32, .invokestatic 44), (35, .ifCond .ne 9), (38, .aload_n 0), (39, .iconst 2), (40, .invokevirtual 59), (43, .ireturn), (44, .bipush 100), (46, .aload_n 0), (47, .getfield 9), (50, .iload_n 1), (51, .iaload), (52, .imul), (53, .aload_n 0), (54, .getfield 13), (57, .iload_n 1), (58, .iaload), (59, .iadd), (60, .istore 4), (62, .aload_n 0), (63, .getfield 9), (66, .iload_n 1), (67, .iload_n 2), (68, .iastore), (69, .aload_n 0), (70, .getfield 13), (73, .iload_n 1), (74, .iload_n 3), (75, .iastore), (76, .iload 4), (78, .ireturn)]
theorem amX3_set (n : Nat) : amok (yX3_set.cls, cX3_set, 5, n) tbX3_set FTX3 PTX3 := ⟨tbok_of (cc := cX3_set) (by decide +kernel), ftX3, ptX3⟩
def tbX3_setRain : List (Nat × Instr) := [(0, .aload_n 0), (1, .iconst 0), (2, .putfield 40), (5, .iload_n 1), (6, .iconst 0), (7, .bipush 7), (9, .invokestatic 44), (12, .ifCond .ne 9), (15, .aload_n 0), (16, .iconst 1), (17, .invokevirtual 59), (20, .ireturn), (21, .iload_n 2), (22, .iconst 0), (23, .bipush 9), (25, .invokestatic 44), (28, .ifCond .ne 9), (31, .aload_n 0), (32, .iconst 2), (33, .invokevirtual 59), (36, .ireturn), (37, .aload_n 0), (38, .getfield 16), (41, .iload_n 1), (42, .iaload), (43, .istore_n 3), (44, .aload_n 0), (45, .getfield 16), (48, .iload_n 1), (49, .iload_n 2), (50, .iastore), (51, .iload_n 3), (52, .ireturn)]
theorem amX3_setRain (n : Nat) : amok (yX3_setRain.cls, cX3_setRain, 4, n) tbX3_setRain FTX3 PTX3 := ⟨tbok_of (cc := cX3_setRain) (by decide +kernel), ftX3, ptX3⟩
def tbX3_spill : List (Nat × Instr) := [(0, .aload_n 0), (1, .iconst 0), (2, .putfield 40), (5, .iload_n 1), (6, .invokestatic 55), (9, .ifCond .ne 9), (12, .aload_n 0), (13, .iconst 1), (14, .invokevirtual 59), (17, .ireturn), (18, .iload_n 2), (19, .iconst 1), (20, .bipush 50), (22, .invokestatic 44), (25, .ifCond .ne 9), (28, .aload_n 0), (29, .iconst 2), (30, .invokevirtual 59), (33, .ireturn), (34, .aload_n 0), (35, .getfield 30), (38, .getfield 63), (41, .iload_n 1), (42, .bipush 50), (44, .aload_n 0), (45, .getfield 30), (48, .getfield 63), (51, .iload_n 1), (52, .iaload), (53, .iload_n 2), (54, .iadd), (55, .invokestatic 66), (58, .iastore), (59, .aload_n 0), (60, .getfield 30), (63, .getfield 63), (66, .iload_n 1), (67, .iaload), (68, .ireturn)]
theorem amX3_spill (n : Nat) : amok (yX3_spill.cls, cX3_spill, 3, n) tbX3_spill FTX3 PTX3 := ⟨tbok_of (cc := cX3_spill) (by decide +kernel), ftX3, ptX3⟩
def tbX3_come : List (Nat × Instr) := [(0, .aload_n 0), (1, .iconst 0), (2, .putfield 40), (5, .iload_n 1), (6, .invokestatic 55), (9, .ifCond .ne 9), (12, .aload_n 0), (13, .iconst 1), (14, .invokevirtual 59), (17, .ireturn), (18, .iload_n 2), (19, .iconst 1), (20, .bipush 9), (22, .invokestatic 44), (25, .ifCond .ne 9), (28, .aload_n 0), (29, .iconst 2), (30, .invokevirtual 59), (33, .ireturn), (34, .aload_n 0), (35, .getfield 48), (38, .bipush 8), (40, .if_icmp .ne 9), (43, .aload_n 0), (44, .iconst 3), (45, .invokevirtual 59), (48, .ireturn), (49, .aload_n 0), (50, .getfield 30), (53, .getfield 71), (56, .aload_n 0), (57, .getfield 48), (60, .iload_n 1), (61, .iastore), (62, .aload_n 0), (63, .getfield 30), (66, .getfield 74), (69, .aload_n 0), (70, .getfield 48), (73, .bipush 40), (75, .iastore), (76, .aload_n 0), (77, .getfield 19), (80, .aload_n 0), (81, .getfield 48), (84, .iload_n 2), (85, .iastore), (86, .aload_n 0), (87, .dup), (88, .getfield 48), (91, .iconst 1), (92, .iadd), (93, .putfield 48), (96, .aload_n 0), (97, .getfield 48), (100, .iconst 1), (101, .isub), (102, .ireturn)]
theorem amX3_come (n : Nat) : amok (yX3_come.cls, cX3_come, 3, n) tbX3_come FTX3 PTX3 := ⟨tbok_of (cc := cX3_come) (by decide +kernel), ftX3, ptX3⟩
def tbX3_send : List (Nat × Instr) := [(0, .aload_n 0), (1, .iconst 0), (2, .putfield 40), (5, .aload_n 0), (6, .iload_n 1), (7, .invokevirtual 77), (10, .ifCond .eq 22), (13, .iload_n 2), (14, .invokestatic 55), (17, .ifCond .eq 15), (20, .aload_n 0), (21, .getfield 30), (24, .iload_n 1), (25, .iload_n 2), (26, .invokevirtual 80), (29, .goto 8), (32, .aload_n 0), (33, .iconst 1), (34, .invokevirtual 59), (37, .ireturn)]
theorem amX3_send (n : Nat) : amok (yX3_send.cls, cX3_send, 3, n) tbX3_send FTX3 PTX3 := ⟨tbok_of (cc := cX3_send) (by decide +kernel), ftX3, ptX3⟩
def tbX3_buy : List (Nat × Instr) := [(0, .aload_n 0), (1, .iconst 0), (2, .putfield 40), (5, .aload_n 0), (6, .iload_n 1), (7, .invokevirtual 77), (10, .ifCond .ne 9), (13, .aload_n 0), (14, .iconst 1), (15, .invokevirtual 59), (18, .ireturn), (19, .aload_n 0), (20, .getfield 30), (23, .getfield 83), (26, .iload_n 1), (27, .iaload), (28, .iconst 5), (29, .if_icmp .ge 9), (32, .aload_n 0), (33, .iconst 2), (34, .invokevirtual 59), (37, .ireturn), (38, .aload_n 0), (39, .getfield 30), (42, .getfield 83), (45, .iload_n 1), (46, .dup2), (47, .iaload), (48, .iconst 5), (49, .isub), (50, .iastore), (51, .aload_n 0), (52, .getfield 30), (55, .getfield 74), (58, .iload_n 1), (59, .bipush 40), (61, .iastore), (62, .aload_n 0), (63, .getfield 30), (66, .getfield 83), (69, .iload_n 1), (70, .iaload), (71, .ireturn)]
theorem amX3_buy (n : Nat) : amok (yX3_buy.cls, cX3_buy, 2, n) tbX3_buy FTX3 PTX3 := ⟨tbok_of (cc := cX3_buy) (by decide +kernel), ftX3, ptX3⟩
def tbX3_sweeperTold : List (Nat × Instr) := [(0, .bipush 8), (2, .newarray .int), (4, .dup), (5, .iconst 0), (6, .aload_n 0), (7, .getfield 30), (10, .getfield 71), (13, .iload_n 1), (14, .iaload), (15, .iastore), (16, .dup), (17, .iconst 1), (18, .aload_n 0), (19, .getfield 19), (22, .iload_n 1), (23, .iaload), (24, .iastore), (25, .dup), (26, .iconst 2), (27, .aload_n 0), (28, .getfield 30), (31, .getfield 74), (34, .iload_n 1), (35, .iaload), (36, .iastore), (37, .dup), (38, .iconst 3), (39, .aload_n 0), (40, .getfield 30), (43, .getfield 83), (46, .iload_n 1), (47, .iaload), (48, .iastore), (49, .dup), (50, .iconst 4), (51, .aload_n 0), (52, .getfield 30), (55, .iload_n 1), (56, .invokevirtual 86), (59, .ifCond .eq 7), (62, .iconst 1), (63, .goto 4), (66, .iconst 0), (67, .iastore), (68, .dup), (69, .iconst 5), (70, .aload_n 0), (71, .getfield 30), (74, .getfield 89), (77, .iload_n 1), (78, .iaload), (79, .iastore), (80, .dup), (81, .bipush 6), (83, .aload_n 0), (84, .getfield 30), (87, .getfield 92), (90, .iload_n 1), (91, .iaload), (92, .iastore), (93, .dup), (94, .bipush 7), (96, .aload_n 0), (97, .getfield 30), (100, .iload_n 1), (101, .invokevirtual 95), (104, .iastore), (105, .astore_n 3), (106, .aload_n 3), (107, .iload_n 2), (108, .iaload), (109, .ireturn)]
theorem amX3_sweeperTold (n : Nat) : amok (yX3_sweeperTold.cls, cX3_sweeperTold, 4, n) tbX3_sweeperTold FTX3 PTX3 := ⟨tbok_of (cc := cX3_sweeperTold) (by decide +kernel), ftX3, ptX3⟩
def tbX3_sweeper : List (Nat × Instr) := [(0, .aload_n 0), (1, .iconst 0), (2, .putfield 40), (5, .aload_n 0), (6, .iload_n 1), (7, .invokevirtual 77), (10, .ifCond .eq 22), (13, .iload_n 2), (14, .iconst 0), (15, .bipush 7), (17, .invokestatic 44), (20, .ifCond .eq 12), (23, .aload_n 0), (24, .iload_n 1), (25, .iload_n 2), (26, .invokevirtual 98), (29, .goto 8), (32, .aload_n 0), (33, .iconst 1), (34, .invokevirtual 59), (37, .ireturn)]
theorem amX3_sweeper (n : Nat) : amok (yX3_sweeper.cls, cX3_sweeper, 3, n) tbX3_sweeper FTX3 PTX3 := ⟨tbok_of (cc := cX3_sweeper) (by decide +kernel), ftX3, ptX3⟩
def tbX3_crossingTold : List (Nat × Instr) := [(0, .iconst 0), (1, .istore_n 3), (2, .iconst 0), (3, .istore 4), (5, .iload 4), (7, .aload_n 0), (8, .getfield 48), (11, .if_icmp .ge 31), (14, .iload_n 3), (15, .aload_n 0), (16, .getfield 30), (19, .getfield 71), (22, .iload 4), (24, .iaload), (25, .iload_n 1), (26, .if_icmp .ne 7), (29, .iconst 1), (30, .goto 4), (33, .iconst 0), (34, .iadd), (35, .istore_n 3), (36, .iinc 4 1), (39, .goto (-34)), (42, .bipush 6), (44, .newarray .int), (46, .dup), (47, .iconst 0), (48, .aload_n 0), (49, .getfield 30), (52, .getfield 63), (55, .iload_n 1), (56, .iaload), (57, .iastore), (58, .dup), (59, .iconst 1), (60, .aload_n 0), (61, .getfield 9), (64, .iload_n 1), (65, .iaload), (66, .iastore), (67, .dup), (68, .iconst 2), (69, .aload_n 0), (70, .getfield 13), (73, .iload_n 1), (74, .iaload), (75, .iastore), (76, .dup), (77, .iconst 3), (78, .aload_n 0), (79, .getfield 30), (82, .getfield 37), (85, .iload_n 1), (86, .iaload), (87, .iastore), (88, .dup), (89, .iconst 4), (90, .iload_n 3), (91, .iastore), (92, .dup), (93, .iconst 5), (94, .aload_n 0), (95, .getfield 30), (98, .getfield 101), (101, .iload_n 1), (102, .iaload), (103, .iastore), (104, .astore 4), (106, .aload 4), (108, .iload_n 2), (109, .iaload), (110, .ireturn)]
theorem amX3_crossingTold (n : Nat) : amok (yX3_crossingTold.cls, cX3_crossingTold, 5, n) tbX3_crossingTold FTX3 PTX3 := ⟨tbok_of (cc := cX3_crossingTold) (by decide +kernel), ftX3, ptX3⟩
def tbX3_crossing : List (Nat × Instr) := [(0, .aload_n 0), (1, .iconst 0), (2, .putfield 40), (5, .iload_n 1), (6, .invokestatic 55), (9, .ifCond .eq 21), (12, .iload_n 2), (13, .iconst 0), (14, .iconst 5), (15, .invokestatic 44), (18, .ifCond .eq 12), (21, .aload_n 0), (22, .iload_n 1), (23, .iload_n 2), (24, .invokevirtual 104), (27, .goto 8), (30, .aload_n 0), (31, .iconst 1), (32, .invokevirtual 59), (35, .ireturn)]
theorem amX3_crossing (n : Nat) : amok (yX3_crossing.cls, cX3_crossing, 3, n) tbX3_crossing FTX3 PTX3 := ⟨tbok_of (cc := cX3_crossing) (by decide +kernel), ftX3, ptX3⟩
def tbX3_counted : List (Nat × Instr) := [(0, .iconst 0), (1, .istore_n 2), (2, .aload_n 0), (3, .getfield 30), (6, .getfield 63), (9, .astore_n 3), (10, .aload_n 3), (11, .arraylength), (12, .istore 4), (14, .iconst 0), (15, .istore 5), (17, .iload 5), (19, .iload 4), (21, .if_icmp .ge 29), (24, .aload_n 3), (25, .iload 5), (27, .iaload), (28, .istore 6), (30, .iload_n 2), (31, .iload 6), (33, .iconst 5), (34, .if_icmp .gt 7), (37, .iconst 1), (38, .goto 4), (41, .iconst 0), (42, .iadd), (43, .istore_n 2), (44, .iinc 5 1), (47, .goto (-30)), (50, .bipush 8), (52, .newarray .int), (54, .dup), (55, .iconst 0), (56, .aload_n 0), (57, .getfield 30), (60, .getfield 107), (63, .iastore), (64, .dup), (65, .iconst 1), (66, .aload_n 0), (67, .getfield 48), (70, .iastore), (71, .dup), (72, .iconst 2), (73, .aload_n 0), (74, .getfield 30), (77, .invokevirtual 110), (80, .iastore), (81, .dup), (82, .iconst 3), (83, .aload_n 0), (84, .getfield 30), (87, .invokevirtual 114), (90, .iastore), (91, .dup), (92, .iconst 4), (93, .aload_n 0), (94, .getfield 30), (97, .aload_n 0), (98, .getfield 30), (101, .getfield 83), (104, .invokevirtual 117), (107, .iastore), (108, .dup), (109, .iconst 5), (110, .iload_n 2), (111, .iastore), (112, .dup), (113, .bipush 6), (115, .aload_n 0), (116, .getfield 30), (119, .aload_n 0), (120, .getfield 30), (123, .getfield 89), (126, .invokevirtual 117), (129, .iastore), (130, .dup), (131, .bipush 7), (133, .aload_n 0), (134, .getfield 30), (137, .aload_n 0), (138, .getfield 30), (141, .getfield 92), (144, .invokevirtual 117), (147, .iastore), (148, .astore_n 3), (149, .aload_n 3), (150, .iload_n 1), (151, .iaload), (152, .ireturn)]
theorem amX3_counted (n : Nat) : amok (yX3_counted.cls, cX3_counted, 7, n) tbX3_counted FTX3 PTX3 := ⟨tbok_of (cc := cX3_counted) (by decide +kernel), ftX3, ptX3⟩
def tbX3_count : List (Nat × Instr) := [(0, .aload_n 0), (1, .iconst 0), (2, .putfield 40), (5, .iload_n 1), (6, .iconst 0), (7, .bipush 7), (9, .invokestatic 44), (12, .ifCond .eq 11), (15, .aload_n 0), (16, .iload_n 1), (17, .invokevirtual 121), (20, .goto 8), (23, .aload_n 0), (24, .iconst 1), (25, .invokevirtual 59), (28, .ireturn)]
theorem amX3_count (n : Nat) : amok (yX3_count.cls, cX3_count, 2, n) tbX3_count FTX3 PTX3 := ⟨tbok_of (cc := cX3_count) (by decide +kernel), ftX3, ptX3⟩
def tbX3_pass : List (Nat × Instr) := [(0, .aload_n 0), (1, .iconst 0), (2, .putfield 40), (5, .iload_n 1), (6, .invokestatic 124), (9, .ifCond .eq 14), (12, .aload_n 0), (13, .getfield 30), (16, .iload_n 1), (17, .invokevirtual 127), (20, .goto 8), (23, .aload_n 0), (24, .iconst 1), (25, .invokevirtual 59), (28, .ireturn)]
theorem amX3_pass (n : Nat) : amok (yX3_pass.cls, cX3_pass, 2, n) tbX3_pass FTX3 PTX3 := ⟨tbok_of (cc := cX3_pass) (by decide +kernel), ftX3, ptX3⟩
def tbX3_way : List (Nat × Instr) := [(0, .aload_n 0), (1, .iconst 0), (2, .putfield 40), (5, .iload_n 1), (6, .invokestatic 55), (9, .ifCond .eq 10), (12, .iload_n 2), (13, .invokestatic 55), (16, .ifCond .ne 9), (19, .aload_n 0), (20, .iconst 1), (21, .invokevirtual 59), (24, .ireturn), (25, .iconst 0), (26, .istore_n 3), (27, .iload_n 3), (28, .bipush 9), (30, .if_icmp .ge 34), (33, .aload_n 0), (34, .getfield 22), (37, .iload_n 3), (38, .iload_n 3), (39, .iload_n 1), (40, .if_icmp .ne 15), (43, .aload_n 0), (44, .getfield 30), (47, .getfield 63), (50, .iload_n 3), (51, .iaload), (52, .goto 5), (55, .ldc 132), (57, .iastore), (58, .iinc 3 1), (61, .goto (-34)), (64, .iconst 0), (65, .istore_n 3), (66, .iload_n 3), (67, .bipush 9), (69, .if_icmp .ge 43), (72, .iconst 0), (73, .istore 4), (75, .iload 4), (77, .bipush 9), (79, .if_icmp .ge 27), (82, .aload_n 0), (83, .getfield 22), (86, .iload 4), (88, .iaload), (89, .ldc 132), (91, .if_icmp .ge 9), (94, .aload_n 0), (95, .iload 4), (97, .invokevirtual 133), (100, .iinc 4 1), (103, .goto (-28)), (106, .iinc 3 1), (109, .goto (-43)), (112, .aload_n 0), (113, .getfield 22), (116, .iload_n 2), (117, .iaload), (118, .ireturn)]
theorem amX3_way (n : Nat) : amok (yX3_way.cls, cX3_way, 5, n) tbX3_way FTX3 PTX3 := ⟨tbok_of (cc := cX3_way) (by decide +kernel), ftX3, ptX3⟩
def tbX3_spread : List (Nat × Instr) := [(0, .iconst 0), (1, .istore_n 2), (2, .iload_n 2), (3, .iconst 4), (4, .if_icmp .ge 51), (7, .iload_n 1), (8, .iload_n 2), (9, .invokestatic 51), (12, .istore_n 3), (13, .iload_n 3), (14, .iconst (-1)), (15, .if_icmp .eq 34), (18, .aload_n 0), (19, .getfield 22), (22, .iload_n 3), (23, .aload_n 0), (24, .getfield 22), (27, .iload_n 3), (28, .iaload), (29, .aload_n 0), (30, .getfield 22), (33, .iload_n 1), (34, .iaload), (35, .aload_n 0), (36, .getfield 30), (39, .getfield 63), (42, .iload_n 3), (43, .iaload), (44, .iadd), (45, .invokestatic 66), (48, .iastore), (49, .iinc 2 1), (52, .goto (-50)), (55, .return_)]
theorem amX3_spread (n : Nat) : amok (yX3_spread.cls, cX3_spread, 4, n) tbX3_spread FTX3 PTX3 := ⟨tbok_of (cc := cX3_spread) (by decide +kernel), ftX3, ptX3⟩
def tbX3_earnsAhead : List (Nat × Instr) := [(0, .aload_n 0), (1, .getfield 34), (4, .iload_n 2), (5, .invokevirtual 127), (8, .pop), (9, .aload_n 0), (10, .getfield 34), (13, .getfield 83), (16, .iload_n 1), (17, .iaload), (18, .aload_n 0), (19, .getfield 30), (22, .getfield 83), (25, .iload_n 1), (26, .iaload), (27, .isub), (28, .ireturn)]
theorem amX3_earnsAhead (n : Nat) : amok (yX3_earnsAhead.cls, cX3_earnsAhead, 3, n) tbX3_earnsAhead FTX3 PTX3 := ⟨tbok_of (cc := cX3_earnsAhead) (by decide +kernel), ftX3, ptX3⟩
def tbX3_earns : List (Nat × Instr) := [(0, .aload_n 0), (1, .iconst 0), (2, .putfield 40), (5, .aload_n 0), (6, .iload_n 1), (7, .invokevirtual 77), (10, .ifCond .ne 9), (13, .aload_n 0), (14, .iconst 1), (15, .invokevirtual 59), (18, .ireturn), (19, .iload_n 2), (20, .invokestatic 124), (23, .ifCond .ne 9), (26, .aload_n 0), (27, .iconst 2), (28, .invokevirtual 59), (31, .ireturn), (32, .aload_n 0), (33, .getfield 34), (36, .aload_n 0), (37, .getfield 30), (40, .invokevirtual 137), (43, .aload_n 0), (44, .iload_n 1), (45, .iload_n 2), (46, .invokevirtual 141), (49, .ireturn)]
theorem amX3_earns (n : Nat) : amok (yX3_earns.cls, cX3_earns, 3, n) tbX3_earns FTX3 PTX3 := ⟨tbok_of (cc := cX3_earns) (by decide +kernel), ftX3, ptX3⟩
def tbX3_advise : List (Nat × Instr) := [(0, .aload_n 0), (1, .iconst 0), (2, .putfield 40), (5, .aload_n 0), (6, .iload_n 1), (7, .invokevirtual 77), (10, .ifCond .ne 9), (13, .aload_n 0), (14, .iconst 1), (15, .invokevirtual 59), (18, .ireturn), (19, .iload_n 2), (20, .invokestatic 124), (23, .ifCond .ne 9), (26, .aload_n 0), (27, .iconst 2), (28, .invokevirtual 59), (31, .ireturn), (32, .aload_n 0), (33, .getfield 34), (36, .aload_n 0), (37, .getfield 30), (40, .invokevirtual 137), (43, .aload_n 0), (44, .iload_n 1), (45, .iload_n 2), (46, .invokevirtual 141), (49, .istore_n 3), (50, .iconst (-1)), (51, .istore 4), (53, .iconst 0), (54, .istore 5), (56, .iload 5), (58, .bipush 9), (60, .if_icmp .ge 55), (63, .aload_n 0), (64, .getfield 34), (67, .aload_n 0), (68, .getfield 30), (71, .invokevirtual 137), (74, .aload_n 0), (75, .getfield 34), (78, .iload_n 1), (79, .iload 5), (81, .invokevirtual 80), (84, .pop), (85, .aload_n 0), (86, .iload_n 1), (87, .iload_n 2), (88, .invokevirtual 141), (91, .istore 6), (93, .iload 6), (95, .iload_n 3), (96, .if_icmp .gt 6), (99, .goto 10), (102, .iload 6), (104, .istore_n 3), (105, .iload 5), (107, .istore 4), (109, .iinc 5 1), (112, .goto (-56)), (115, .iload 4), (117, .ireturn)]
theorem amX3_advise (n : Nat) : amok (yX3_advise.cls, cX3_advise, 7, n) tbX3_advise FTX3 PTX3 := ⟨tbok_of (cc := cX3_advise) (by decide +kernel), ftX3, ptX3⟩
def tbX3_foresee : List (Nat × Instr) := [(0, .aload_n 0), (1, .iconst 0), (2, .putfield 40), (5, .iload_n 1), (6, .invokestatic 124), (9, .ifCond .ne 9), (12, .aload_n 0), (13, .iconst 1), (14, .invokevirtual 59), (17, .ireturn), (18, .iload_n 2), (19, .iconst 0), (20, .iconst 2), (21, .invokestatic 44), (24, .ifCond .ne 9), (27, .aload_n 0), (28, .iconst 2), (29, .invokevirtual 59), (32, .ireturn), (33, .aload_n 0), (34, .getfield 34), (37, .aload_n 0), (38, .getfield 30), (41, .invokevirtual 137), (44, .aload_n 0), (45, .getfield 34), (48, .iload_n 1), (49, .invokevirtual 127), (52, .istore_n 3), (53, .iload_n 2), (54, .ifCond .ne 7), (57, .iload_n 3), (58, .goto 25), (61, .iload_n 2), (62, .iconst 1), (63, .if_icmp .ne 13), (66, .aload_n 0), (67, .getfield 34), (70, .invokevirtual 114), (73, .goto 10), (76, .aload_n 0), (77, .getfield 34), (80, .invokevirtual 110), (83, .ireturn)]
theorem amX3_foresee (n : Nat) : amok (yX3_foresee.cls, cX3_foresee, 4, n) tbX3_foresee FTX3 PTX3 := ⟨tbok_of (cc := cX3_foresee) (by decide +kernel), ftX3, ptX3⟩
def tbX3_mean : List (Nat × Instr) := [(0, .aload_n 0), (1, .iconst 0), (2, .putfield 40), (5, .aload_n 0), (6, .getfield 30), (9, .invokevirtual 114), (12, .i2d), (13, .ldc2_w 144), (16, .ddiv), (17, .dreturn)]
theorem amX3_mean (n : Nat) : amok (yX3_mean.cls, cX3_mean, 1, n) tbX3_mean FTX3 PTX3 := ⟨tbok_of (cc := cX3_mean) (by decide +kernel), ftX3, ptX3⟩
def tbX3_digest : List (Nat × Instr) := [(0, .aload_n 0), (1, .iconst 0), (2, .putfield 40), (5, .ldc2_w 146), (8, .lstore_n 1), (9, .iconst 0), (10, .istore_n 3), (11, .iload_n 3), (12, .bipush 8), (14, .if_icmp .ge 22), (17, .lload_n 1), (18, .ldc2_w 148), (21, .lmul), (22, .aload_n 0), (23, .iload_n 3), (24, .invokevirtual 121), (27, .i2l), (28, .ladd), (29, .lstore_n 1), (30, .iinc 3 1), (33, .goto (-22)), (36, .iconst 0), (37, .istore_n 3), (38, .iload_n 3), (39, .bipush 9), (41, .if_icmp .ge 40), (44, .iconst 0), (45, .istore 4), (47, .iload 4), (49, .bipush 6), (51, .if_icmp .ge 24), (54, .lload_n 1), (55, .ldc2_w 148), (58, .lmul), (59, .aload_n 0), (60, .iload_n 3), (61, .iload 4), (63, .invokevirtual 104), (66, .i2l), (67, .ladd), (68, .lstore_n 1), (69, .iinc 4 1), (72, .goto (-25)), (75, .iinc 3 1), (78, .goto (-40)), (81, .iconst 0), (82, .istore_n 3), (83, .iload_n 3), (84, .bipush 8), (86, .if_icmp .ge 23), (89, .lload_n 1), (90, .ldc2_w 148), (93, .lmul), (94, .aload_n 0), (95, .getfield 16), (98, .iload_n 3), (99, .iaload), (100, .i2l), (101, .ladd), (102, .lstore_n 1), (103, .iinc 3 1), (106, .goto (-23)), (109, .iconst 0), (110, .istore_n 3), (111, .iload_n 3), (112, .aload_n 0), (113, .getfield 48), (116, .if_icmp .ge 40), (119, .iconst 0), (120, .istore 4), (122, .iload 4), (124, .bipush 8), (126, .if_icmp .ge 24), (129, .lload_n 1), (130, .ldc2_w 148), (133, .lmul), (134, .aload_n 0), (135, .iload_n 3), (136, .iload 4), (138, .invokevirtual 98), (141, .i2l), (142, .ladd), (143, .lstore_n 1), (144, .iinc 4 1), (147, .goto (-25)), (150, .iinc 3 1), (153, .goto (-42)), (156, .lload_n 1), (157, .lreturn)]
theorem amX3_digest (n : Nat) : amok (yX3_digest.cls, cX3_digest, 5, n) tbX3_digest FTX3 PTX3 := ⟨tbok_of (cc := cX3_digest) (by decide +kernel), ftX3, ptX3⟩
def tbL_set : List (Nat × Instr) := [(0, .aload 4), (2, .iconst 0), (3, .aload_n 0), (4, .iload_n 1), (5, .iload_n 2), (6, .iload_n 3), (7, .invokevirtual 7), (10, .i2l), (11, .lastore), (12, .goto 11), (15, .astore 5), (17, .iconst 1), (18, .ireturn), (19, .astore 5), (21, .iconst 2), (22, .ireturn), (23, .iconst 0), (24, .ireturn)]
theorem amL_set (n : Nat) : amok (yL_set.cls, cL_set, 6, n) tbL_set FTL PTL := ⟨tbok_of (cc := cL_set) (by decide +kernel), ftL, ptL⟩
def tbL_setRain : List (Nat × Instr) := [(0, .aload_n 3), (1, .iconst 0), (2, .aload_n 0), (3, .iload_n 1), (4, .iload_n 2), (5, .invokevirtual 17), (8, .i2l), (9, .lastore), (10, .goto 11), (13, .astore 4), (15, .iconst 1), (16, .ireturn), (17, .astore 4), (19, .iconst 2), (20, .ireturn), (21, .iconst 0), (22, .ireturn)]
theorem amL_setRain (n : Nat) : amok (yL_setRain.cls, cL_setRain, 5, n) tbL_setRain FTL PTL := ⟨tbok_of (cc := cL_setRain) (by decide +kernel), ftL, ptL⟩
def tbL_spill : List (Nat × Instr) := [(0, .aload_n 3), (1, .iconst 0), (2, .aload_n 0), (3, .iload_n 1), (4, .iload_n 2), (5, .invokevirtual 21), (8, .i2l), (9, .lastore), (10, .goto 11), (13, .astore 4), (15, .iconst 1), (16, .ireturn), (17, .astore 4), (19, .iconst 2), (20, .ireturn), (21, .iconst 0), (22, .ireturn)]
theorem amL_spill (n : Nat) : amok (yL_spill.cls, cL_spill, 5, n) tbL_spill FTL PTL := ⟨tbok_of (cc := cL_spill) (by decide +kernel), ftL, ptL⟩
def tbL_come : List (Nat × Instr) := [(0, .aload_n 3), (1, .iconst 0), (2, .aload_n 0), (3, .iload_n 1), (4, .iload_n 2), (5, .invokevirtual 24), (8, .i2l), (9, .lastore), (10, .goto 15), (13, .astore 4), (15, .iconst 1), (16, .ireturn), (17, .astore 4), (19, .iconst 2), (20, .ireturn), (21, .astore 4), (23, .iconst 3), (24, .ireturn), (25, .iconst 0), (26, .ireturn)]
theorem amL_come (n : Nat) : amok (yL_come.cls, cL_come, 5, n) tbL_come FTL PTL := ⟨tbok_of (cc := cL_come) (by decide +kernel), ftL, ptL⟩
def tbL_send : List (Nat × Instr) := [(0, .aload_n 3), (1, .iconst 0), (2, .aload_n 0), (3, .iload_n 1), (4, .iload_n 2), (5, .invokevirtual 29), (8, .i2l), (9, .lastore), (10, .goto 7), (13, .astore 4), (15, .iconst 1), (16, .ireturn), (17, .iconst 0), (18, .ireturn)]
theorem amL_send (n : Nat) : amok (yL_send.cls, cL_send, 5, n) tbL_send FTL PTL := ⟨tbok_of (cc := cL_send) (by decide +kernel), ftL, ptL⟩
def tbL_buy : List (Nat × Instr) := [(0, .aload_n 2), (1, .iconst 0), (2, .aload_n 0), (3, .iload_n 1), (4, .invokevirtual 32), (7, .i2l), (8, .lastore), (9, .goto 9), (12, .astore_n 3), (13, .iconst 1), (14, .ireturn), (15, .astore_n 3), (16, .iconst 2), (17, .ireturn), (18, .iconst 0), (19, .ireturn)]
theorem amL_buy (n : Nat) : amok (yL_buy.cls, cL_buy, 4, n) tbL_buy FTL PTL := ⟨tbok_of (cc := cL_buy) (by decide +kernel), ftL, ptL⟩
def tbL_sweeper : List (Nat × Instr) := [(0, .aload_n 3), (1, .iconst 0), (2, .aload_n 0), (3, .iload_n 1), (4, .iload_n 2), (5, .invokevirtual 36), (8, .i2l), (9, .lastore), (10, .goto 7), (13, .astore 4), (15, .iconst 1), (16, .ireturn), (17, .iconst 0), (18, .ireturn)]
theorem amL_sweeper (n : Nat) : amok (yL_sweeper.cls, cL_sweeper, 5, n) tbL_sweeper FTL PTL := ⟨tbok_of (cc := cL_sweeper) (by decide +kernel), ftL, ptL⟩
def tbL_crossing : List (Nat × Instr) := [(0, .aload_n 3), (1, .iconst 0), (2, .aload_n 0), (3, .iload_n 1), (4, .iload_n 2), (5, .invokevirtual 39), (8, .i2l), (9, .lastore), (10, .goto 7), (13, .astore 4), (15, .iconst 1), (16, .ireturn), (17, .iconst 0), (18, .ireturn)]
theorem amL_crossing (n : Nat) : amok (yL_crossing.cls, cL_crossing, 5, n) tbL_crossing FTL PTL := ⟨tbok_of (cc := cL_crossing) (by decide +kernel), ftL, ptL⟩
def tbL_count : List (Nat × Instr) := [(0, .aload_n 2), (1, .iconst 0), (2, .aload_n 0), (3, .iload_n 1), (4, .invokevirtual 42), (7, .i2l), (8, .lastore), (9, .goto 6), (12, .astore_n 3), (13, .iconst 1), (14, .ireturn), (15, .iconst 0), (16, .ireturn)]
theorem amL_count (n : Nat) : amok (yL_count.cls, cL_count, 4, n) tbL_count FTL PTL := ⟨tbok_of (cc := cL_count) (by decide +kernel), ftL, ptL⟩
def tbL_pass : List (Nat × Instr) := [(0, .aload_n 2), (1, .iconst 0), (2, .aload_n 0), (3, .iload_n 1), (4, .invokevirtual 45), (7, .i2l), (8, .lastore), (9, .goto 6), (12, .astore_n 3), (13, .iconst 1), (14, .ireturn), (15, .iconst 0), (16, .ireturn)]
theorem amL_pass (n : Nat) : amok (yL_pass.cls, cL_pass, 4, n) tbL_pass FTL PTL := ⟨tbok_of (cc := cL_pass) (by decide +kernel), ftL, ptL⟩
def tbL_way : List (Nat × Instr) := [(0, .aload_n 3), (1, .iconst 0), (2, .aload_n 0), (3, .iload_n 1), (4, .iload_n 2), (5, .invokevirtual 48), (8, .i2l), (9, .lastore), (10, .goto 7), (13, .astore 4), (15, .iconst 1), (16, .ireturn), (17, .iconst 0), (18, .ireturn)]
theorem amL_way (n : Nat) : amok (yL_way.cls, cL_way, 5, n) tbL_way FTL PTL := ⟨tbok_of (cc := cL_way) (by decide +kernel), ftL, ptL⟩
def tbL_earns : List (Nat × Instr) := [(0, .aload_n 3), (1, .iconst 0), (2, .aload_n 0), (3, .iload_n 1), (4, .iload_n 2), (5, .invokevirtual 51), (8, .i2l), (9, .lastore), (10, .goto 11), (13, .astore 4), (15, .iconst 1), (16, .ireturn), (17, .astore 4), (19, .iconst 2), (20, .ireturn), (21, .iconst 0), (22, .ireturn)]
theorem amL_earns (n : Nat) : amok (yL_earns.cls, cL_earns, 5, n) tbL_earns FTL PTL := ⟨tbok_of (cc := cL_earns) (by decide +kernel), ftL, ptL⟩
def tbL_advise : List (Nat × Instr) := [(0, .aload_n 3), (1, .iconst 0), (2, .aload_n 0), (3, .iload_n 1), (4, .iload_n 2), (5, .invokevirtual 54), (8, .i2l), (9, .lastore), (10, .goto 11), (13, .astore 4), (15, .iconst 1), (16, .ireturn), (17, .astore 4), (19, .iconst 2), (20, .ireturn), (21, .iconst 0), (22, .ireturn)]
theorem amL_advise (n : Nat) : amok (yL_advise.cls, cL_advise, 5, n) tbL_advise FTL PTL := ⟨tbok_of (cc := cL_advise) (by decide +kernel), ftL, ptL⟩
def tbL_foresee : List (Nat × Instr) := [(0, .aload_n 3), (1, .iconst 0), (2, .aload_n 0), (3, .iload_n 1), (4, .iload_n 2), (5, .invokevirtual 57), (8, .i2l), (9, .lastore), (10, .goto 11), (13, .astore 4), (15, .iconst 1), (16, .ireturn), (17, .astore 4), (19, .iconst 2), (20, .ireturn), (21, .iconst 0), (22, .ireturn)]
theorem amL_foresee (n : Nat) : amok (yL_foresee.cls, cL_foresee, 5, n) tbL_foresee FTL PTL := ⟨tbok_of (cc := cL_foresee) (by decide +kernel), ftL, ptL⟩
theorem ykX0_init : yok yX0_init cX0_init 2 none 0 := ⟨by decide +kernel, by decide +kernel, ⟨by decide +kernel, by decide +kernel⟩, by decide +kernel⟩
theorem yiX0_init : Cond.instanceMethod yX0_init ∈ kwl := by decide +kernel
theorem ykX0_copyFrom : yok yX0_copyFrom cX0_copyFrom 2 none 1 := ⟨by decide +kernel, by decide +kernel, ⟨by decide +kernel, by decide +kernel⟩, by decide +kernel⟩
theorem yiX0_copyFrom : Cond.instanceMethod yX0_copyFrom ∈ kwl := by decide +kernel
theorem yvX0_copyFrom : Cond.selects yX0_copyFrom.cls yX0_copyFrom yX0_copyFrom ∈ kwl := by decide +kernel
theorem ykX0_isSweeper : yok yX0_isSweeper cX0_isSweeper 2 (some .boolean) 1 := ⟨by decide +kernel, by decide +kernel, ⟨by decide +kernel, by decide +kernel⟩, by decide +kernel⟩
theorem yiX0_isSweeper : Cond.instanceMethod yX0_isSweeper ∈ kwl := by decide +kernel
theorem yvX0_isSweeper : Cond.selects yX0_isSweeper.cls yX0_isSweeper yX0_isSweeper ∈ kwl := by decide +kernel
theorem ykX0_holdsPitch : yok yX0_holdsPitch cX0_holdsPitch 2 (some .boolean) 1 := ⟨by decide +kernel, by decide +kernel, ⟨by decide +kernel, by decide +kernel⟩, by decide +kernel⟩
theorem yiX0_holdsPitch : Cond.instanceMethod yX0_holdsPitch ∈ kwl := by decide +kernel
theorem yvX0_holdsPitch : Cond.selects yX0_holdsPitch.cls yX0_holdsPitch yX0_holdsPitch ∈ kwl := by decide +kernel
theorem ykX0_reach : yok yX0_reach cX0_reach 2 (some .int) 1 := ⟨by decide +kernel, by decide +kernel, ⟨by decide +kernel, by decide +kernel⟩, by decide +kernel⟩
theorem yiX0_reach : Cond.instanceMethod yX0_reach ∈ kwl := by decide +kernel
theorem yvX0_reach : Cond.selects yX0_reach.cls yX0_reach yX0_reach ∈ kwl := by decide +kernel
theorem ykX0_addMud : yok yX0_addMud cX0_addMud 3 none 2 := ⟨by decide +kernel, by decide +kernel, ⟨by decide +kernel, by decide +kernel⟩, by decide +kernel⟩
theorem yiX0_addMud : Cond.instanceMethod yX0_addMud ∈ kwl := by decide +kernel
theorem yvX0_addMud : Cond.selects yX0_addMud.cls yX0_addMud yX0_addMud ∈ kwl := by decide +kernel
theorem ykX0_admit : yok yX0_admit cX0_admit 4 (some .int) 2 := ⟨by decide +kernel, by decide +kernel, ⟨by decide +kernel, by decide +kernel⟩, by decide +kernel⟩
theorem yiX0_admit : Cond.instanceMethod yX0_admit ∈ kwl := by decide +kernel
theorem yvX0_admit : Cond.selects yX0_admit.cls yX0_admit yX0_admit ∈ kwl := by decide +kernel
theorem ykX0_moveTo : yok yX0_moveTo cX0_moveTo 4 none 2 := ⟨by decide +kernel, by decide +kernel, ⟨by decide +kernel, by decide +kernel⟩, by decide +kernel⟩
theorem yiX0_moveTo : Cond.instanceMethod yX0_moveTo ∈ kwl := by decide +kernel
theorem yvX0_moveTo : Cond.selects yX0_moveTo.cls yX0_moveTo yX0_moveTo ∈ kwl := by decide +kernel
theorem ykX0_live : yok yX0_live cX0_live 4 (some .int) 1 := ⟨by decide +kernel, by decide +kernel, ⟨by decide +kernel, by decide +kernel⟩, by decide +kernel⟩
theorem yiX0_live : Cond.instanceMethod yX0_live ∈ kwl := by decide +kernel
theorem yvX0_live : Cond.selects yX0_live.cls yX0_live yX0_live ∈ kwl := by decide +kernel
theorem ykX0_liveQuarter : yok yX0_liveQuarter cX0_liveQuarter 5 (some .int) 0 := ⟨by decide +kernel, by decide +kernel, ⟨by decide +kernel, by decide +kernel⟩, by decide +kernel⟩
theorem yiX0_liveQuarter : Cond.instanceMethod yX0_liveQuarter ∈ kwl := by decide +kernel
theorem yvX0_liveQuarter : Cond.selects yX0_liveQuarter.cls yX0_liveQuarter yX0_liveQuarter ∈ kwl := by decide +kernel
theorem ykX0_sweepAll : yok yX0_sweepAll cX0_sweepAll 4 none 0 := ⟨by decide +kernel, by decide +kernel, ⟨by decide +kernel, by decide +kernel⟩, by decide +kernel⟩
theorem yiX0_sweepAll : Cond.instanceMethod yX0_sweepAll ∈ kwl := by decide +kernel
theorem yvX0_sweepAll : Cond.selects yX0_sweepAll.cls yX0_sweepAll yX0_sweepAll ∈ kwl := by decide +kernel
theorem ykX0_payAll : yok yX0_payAll cX0_payAll 5 (some .int) 0 := ⟨by decide +kernel, by decide +kernel, ⟨by decide +kernel, by decide +kernel⟩, by decide +kernel⟩
theorem yiX0_payAll : Cond.instanceMethod yX0_payAll ∈ kwl := by decide +kernel
theorem yvX0_payAll : Cond.selects yX0_payAll.cls yX0_payAll yX0_payAll ∈ kwl := by decide +kernel
theorem ykX0_wage : yok yX0_wage cX0_wage 2 (some .int) 1 := ⟨by decide +kernel, by decide +kernel, ⟨by decide +kernel, by decide +kernel⟩, by decide +kernel⟩
theorem yiX0_wage : Cond.instanceMethod yX0_wage ∈ kwl := by decide +kernel
theorem yvX0_wage : Cond.selects yX0_wage.cls yX0_wage yX0_wage ∈ kwl := by decide +kernel
theorem ykX0_seekPitch : yok yX0_seekPitch cX0_seekPitch 4 none 1 := ⟨by decide +kernel, by decide +kernel, ⟨by decide +kernel, by decide +kernel⟩, by decide +kernel⟩
theorem yiX0_seekPitch : Cond.instanceMethod yX0_seekPitch ∈ kwl := by decide +kernel
theorem yvX0_seekPitch : Cond.selects yX0_seekPitch.cls yX0_seekPitch yX0_seekPitch ∈ kwl := by decide +kernel
theorem ykX0_busiestNeighbour : yok yX0_busiestNeighbour cX0_busiestNeighbour 6 (some .int) 1 := ⟨by decide +kernel, by decide +kernel, ⟨by decide +kernel, by decide +kernel⟩, by decide +kernel⟩
theorem yiX0_busiestNeighbour : Cond.instanceMethod yX0_busiestNeighbour ∈ kwl := by decide +kernel
theorem yvX0_busiestNeighbour : Cond.selects yX0_busiestNeighbour.cls yX0_busiestNeighbour yX0_busiestNeighbour ∈ kwl := by decide +kernel
theorem ykX0_sweeperFact : yok yX0_sweeperFact cX0_sweeperFact 3 (some .int) 2 := ⟨by decide +kernel, by decide +kernel, ⟨by decide +kernel, by decide +kernel⟩, by decide +kernel⟩
theorem yiX0_sweeperFact : Cond.instanceMethod yX0_sweeperFact ∈ kwl := by decide +kernel
theorem yvX0_sweeperFact : Cond.selects yX0_sweeperFact.cls yX0_sweeperFact yX0_sweeperFact ∈ kwl := by decide +kernel
theorem ykX0_crossingFact : yok yX0_crossingFact cX0_crossingFact 3 (some .int) 2 := ⟨by decide +kernel, by decide +kernel, ⟨by decide +kernel, by decide +kernel⟩, by decide +kernel⟩
theorem yiX0_crossingFact : Cond.instanceMethod yX0_crossingFact ∈ kwl := by decide +kernel
theorem yvX0_crossingFact : Cond.selects yX0_crossingFact.cls yX0_crossingFact yX0_crossingFact ∈ kwl := by decide +kernel
theorem ykX0_cityFact : yok yX0_cityFact cX0_cityFact 2 (some .int) 1 := ⟨by decide +kernel, by decide +kernel, ⟨by decide +kernel, by decide +kernel⟩, by decide +kernel⟩
theorem yiX0_cityFact : Cond.instanceMethod yX0_cityFact ∈ kwl := by decide +kernel
theorem yvX0_cityFact : Cond.selects yX0_cityFact.cls yX0_cityFact yX0_cityFact ∈ kwl := by decide +kernel
theorem ykX0_allMud : yok yX0_allMud cX0_allMud 1 (some .int) 0 := ⟨by decide +kernel, by decide +kernel, ⟨by decide +kernel, by decide +kernel⟩, by decide +kernel⟩
theorem yiX0_allMud : Cond.instanceMethod yX0_allMud ∈ kwl := by decide +kernel
theorem yvX0_allMud : Cond.selects yX0_allMud.cls yX0_allMud yX0_allMud ∈ kwl := by decide +kernel
theorem ykX0_heldPitches : yok yX0_heldPitches cX0_heldPitches 3 (some .int) 0 := ⟨by decide +kernel, by decide +kernel, ⟨by decide +kernel, by decide +kernel⟩, by decide +kernel⟩
theorem yiX0_heldPitches : Cond.instanceMethod yX0_heldPitches ∈ kwl := by decide +kernel
theorem yvX0_heldPitches : Cond.selects yX0_heldPitches.cls yX0_heldPitches yX0_heldPitches ∈ kwl := by decide +kernel
theorem ykX0_sweepersAt : yok yX0_sweepersAt cX0_sweepersAt 4 (some .int) 1 := ⟨by decide +kernel, by decide +kernel, ⟨by decide +kernel, by decide +kernel⟩, by decide +kernel⟩
theorem yiX0_sweepersAt : Cond.instanceMethod yX0_sweepersAt ∈ kwl := by decide +kernel
theorem yvX0_sweepersAt : Cond.selects yX0_sweepersAt.cls yX0_sweepersAt yX0_sweepersAt ∈ kwl := by decide +kernel
theorem ykX0_cleanCrossings : yok yX0_cleanCrossings cX0_cleanCrossings 3 (some .int) 0 := ⟨by decide +kernel, by decide +kernel, ⟨by decide +kernel, by decide +kernel⟩, by decide +kernel⟩
theorem yiX0_cleanCrossings : Cond.instanceMethod yX0_cleanCrossings ∈ kwl := by decide +kernel
theorem yvX0_cleanCrossings : Cond.selects yX0_cleanCrossings.cls yX0_cleanCrossings yX0_cleanCrossings ∈ kwl := by decide +kernel
theorem ykX0_sum : yok yX0_sum cX0_sum 3 (some .int) 1 := ⟨by decide +kernel, by decide +kernel, ⟨by decide +kernel, by decide +kernel⟩, by decide +kernel⟩
theorem ysX0_sum : Cond.static yX0_sum ∈ kwl := by decide +kernel
theorem ykX1_init : yok yX1_init cX1_init 1 none 0 := ⟨by decide +kernel, by decide +kernel, ⟨by decide +kernel, by decide +kernel⟩, by decide +kernel⟩
theorem yiX1_init : Cond.instanceMethod yX1_init ∈ kwl := by decide +kernel
theorem ykX1_set : yok yX1_set cX1_set 5 (some .int) 3 := ⟨by decide +kernel, by decide +kernel, ⟨by decide +kernel, by decide +kernel⟩, by decide +kernel⟩
theorem yiX1_set : Cond.instanceMethod yX1_set ∈ kwl := by decide +kernel
theorem yvX1_set : Cond.selects yX1_set.cls yX1_set yX1_set ∈ kwl := by decide +kernel
theorem ykX1_setRain : yok yX1_setRain cX1_setRain 4 (some .int) 2 := ⟨by decide +kernel, by decide +kernel, ⟨by decide +kernel, by decide +kernel⟩, by decide +kernel⟩
theorem yiX1_setRain : Cond.instanceMethod yX1_setRain ∈ kwl := by decide +kernel
theorem yvX1_setRain : Cond.selects yX1_setRain.cls yX1_setRain yX1_setRain ∈ kwl := by decide +kernel
theorem ykX1_spill : yok yX1_spill cX1_spill 3 (some .int) 2 := ⟨by decide +kernel, by decide +kernel, ⟨by decide +kernel, by decide +kernel⟩, by decide +kernel⟩
theorem yiX1_spill : Cond.instanceMethod yX1_spill ∈ kwl := by decide +kernel
theorem yvX1_spill : Cond.selects yX1_spill.cls yX1_spill yX1_spill ∈ kwl := by decide +kernel
theorem ykX1_come : yok yX1_come cX1_come 3 (some .int) 2 := ⟨by decide +kernel, by decide +kernel, ⟨by decide +kernel, by decide +kernel⟩, by decide +kernel⟩
theorem yiX1_come : Cond.instanceMethod yX1_come ∈ kwl := by decide +kernel
theorem yvX1_come : Cond.selects yX1_come.cls yX1_come yX1_come ∈ kwl := by decide +kernel
theorem ykX1_send : yok yX1_send cX1_send 4 (some .int) 2 := ⟨by decide +kernel, by decide +kernel, ⟨by decide +kernel, by decide +kernel⟩, by decide +kernel⟩
theorem yiX1_send : Cond.instanceMethod yX1_send ∈ kwl := by decide +kernel
theorem yvX1_send : Cond.selects yX1_send.cls yX1_send yX1_send ∈ kwl := by decide +kernel
theorem ykX1_buy : yok yX1_buy cX1_buy 2 (some .int) 1 := ⟨by decide +kernel, by decide +kernel, ⟨by decide +kernel, by decide +kernel⟩, by decide +kernel⟩
theorem yiX1_buy : Cond.instanceMethod yX1_buy ∈ kwl := by decide +kernel
theorem yvX1_buy : Cond.selects yX1_buy.cls yX1_buy yX1_buy ∈ kwl := by decide +kernel
theorem ykX1_sweeper : yok yX1_sweeper cX1_sweeper 3 (some .int) 2 := ⟨by decide +kernel, by decide +kernel, ⟨by decide +kernel, by decide +kernel⟩, by decide +kernel⟩
theorem yiX1_sweeper : Cond.instanceMethod yX1_sweeper ∈ kwl := by decide +kernel
theorem yvX1_sweeper : Cond.selects yX1_sweeper.cls yX1_sweeper yX1_sweeper ∈ kwl := by decide +kernel
theorem ykX1_crossing : yok yX1_crossing cX1_crossing 3 (some .int) 2 := ⟨by decide +kernel, by decide +kernel, ⟨by decide +kernel, by decide +kernel⟩, by decide +kernel⟩
theorem yiX1_crossing : Cond.instanceMethod yX1_crossing ∈ kwl := by decide +kernel
theorem yvX1_crossing : Cond.selects yX1_crossing.cls yX1_crossing yX1_crossing ∈ kwl := by decide +kernel
theorem ykX1_count : yok yX1_count cX1_count 2 (some .int) 1 := ⟨by decide +kernel, by decide +kernel, ⟨by decide +kernel, by decide +kernel⟩, by decide +kernel⟩
theorem yiX1_count : Cond.instanceMethod yX1_count ∈ kwl := by decide +kernel
theorem yvX1_count : Cond.selects yX1_count.cls yX1_count yX1_count ∈ kwl := by decide +kernel
theorem ykX1_pass : yok yX1_pass cX1_pass 2 (some .int) 1 := ⟨by decide +kernel, by decide +kernel, ⟨by decide +kernel, by decide +kernel⟩, by decide +kernel⟩
theorem yiX1_pass : Cond.instanceMethod yX1_pass ∈ kwl := by decide +kernel
theorem yvX1_pass : Cond.selects yX1_pass.cls yX1_pass yX1_pass ∈ kwl := by decide +kernel
theorem ykX1_way : yok yX1_way cX1_way 4 (some .int) 2 := ⟨by decide +kernel, by decide +kernel, ⟨by decide +kernel, by decide +kernel⟩, by decide +kernel⟩
theorem yiX1_way : Cond.instanceMethod yX1_way ∈ kwl := by decide +kernel
theorem yvX1_way : Cond.selects yX1_way.cls yX1_way yX1_way ∈ kwl := by decide +kernel
theorem ykX1_earns : yok yX1_earns cX1_earns 3 (some .int) 2 := ⟨by decide +kernel, by decide +kernel, ⟨by decide +kernel, by decide +kernel⟩, by decide +kernel⟩
theorem yiX1_earns : Cond.instanceMethod yX1_earns ∈ kwl := by decide +kernel
theorem yvX1_earns : Cond.selects yX1_earns.cls yX1_earns yX1_earns ∈ kwl := by decide +kernel
theorem ykX1_advise : yok yX1_advise cX1_advise 7 (some .int) 2 := ⟨by decide +kernel, by decide +kernel, ⟨by decide +kernel, by decide +kernel⟩, by decide +kernel⟩
theorem yiX1_advise : Cond.instanceMethod yX1_advise ∈ kwl := by decide +kernel
theorem yvX1_advise : Cond.selects yX1_advise.cls yX1_advise yX1_advise ∈ kwl := by decide +kernel
theorem ykX1_foresee : yok yX1_foresee cX1_foresee 4 (some .int) 2 := ⟨by decide +kernel, by decide +kernel, ⟨by decide +kernel, by decide +kernel⟩, by decide +kernel⟩
theorem yiX1_foresee : Cond.instanceMethod yX1_foresee ∈ kwl := by decide +kernel
theorem yvX1_foresee : Cond.selects yX1_foresee.cls yX1_foresee yX1_foresee ∈ kwl := by decide +kernel
theorem ykX1_mean : yok yX1_mean cX1_mean 1 (some .double) 0 := ⟨by decide +kernel, by decide +kernel, ⟨by decide +kernel, by decide +kernel⟩, by decide +kernel⟩
theorem yiX1_mean : Cond.instanceMethod yX1_mean ∈ kwl := by decide +kernel
theorem yvX1_mean : Cond.selects yX1_mean.cls yX1_mean yX1_mean ∈ kwl := by decide +kernel
theorem ykX1_digest : yok yX1_digest cX1_digest 5 (some .long) 0 := ⟨by decide +kernel, by decide +kernel, ⟨by decide +kernel, by decide +kernel⟩, by decide +kernel⟩
theorem yiX1_digest : Cond.instanceMethod yX1_digest ∈ kwl := by decide +kernel
theorem yvX1_digest : Cond.selects yX1_digest.cls yX1_digest yX1_digest ∈ kwl := by decide +kernel
theorem ykX1_isCrossing : yok yX1_isCrossing cX1_isCrossing 1 (some .boolean) 1 := ⟨by decide +kernel, by decide +kernel, ⟨by decide +kernel, by decide +kernel⟩, by decide +kernel⟩
theorem ysX1_isCrossing : Cond.static yX1_isCrossing ∈ kwl := by decide +kernel
theorem ykX1_needCrossing : yok yX1_needCrossing cX1_needCrossing 1 none 1 := ⟨by decide +kernel, by decide +kernel, ⟨by decide +kernel, by decide +kernel⟩, by decide +kernel⟩
theorem ysX1_needCrossing : Cond.static yX1_needCrossing ∈ kwl := by decide +kernel
theorem ykX1_needSweeper : yok yX1_needSweeper cX1_needSweeper 2 none 1 := ⟨by decide +kernel, by decide +kernel, ⟨by decide +kernel, by decide +kernel⟩, by decide +kernel⟩
theorem yiX1_needSweeper : Cond.instanceMethod yX1_needSweeper ∈ kwl := by decide +kernel
theorem yvX1_needSweeper : Cond.selects yX1_needSweeper.cls yX1_needSweeper yX1_needSweeper ∈ kwl := by decide +kernel
theorem ykX1_needFact : yok yX1_needFact cX1_needFact 2 none 2 := ⟨by decide +kernel, by decide +kernel, ⟨by decide +kernel, by decide +kernel⟩, by decide +kernel⟩
theorem ysX1_needFact : Cond.static yX1_needFact ∈ kwl := by decide +kernel
theorem ykX1_needQuarters : yok yX1_needQuarters cX1_needQuarters 1 none 1 := ⟨by decide +kernel, by decide +kernel, ⟨by decide +kernel, by decide +kernel⟩, by decide +kernel⟩
theorem ysX1_needQuarters : Cond.static yX1_needQuarters ∈ kwl := by decide +kernel
theorem ykX1_neighbour : yok yX1_neighbour cX1_neighbour 2 (some .int) 2 := ⟨by decide +kernel, by decide +kernel, ⟨by decide +kernel, by decide +kernel⟩, by decide +kernel⟩
theorem ysX1_neighbour : Cond.static yX1_neighbour ∈ kwl := by decide +kernel
theorem ykX1_shortenWays : yok yX1_shortenWays cX1_shortenWays 4 none 0 := ⟨by decide +kernel, by decide +kernel, ⟨by decide +kernel, by decide +kernel⟩, by decide +kernel⟩
theorem yiX1_shortenWays : Cond.instanceMethod yX1_shortenWays ∈ kwl := by decide +kernel
theorem yvX1_shortenWays : Cond.selects yX1_shortenWays.cls yX1_shortenWays yX1_shortenWays ∈ kwl := by decide +kernel
theorem ykX1_earned : yok yX1_earned cX1_earned 5 (some .int) 3 := ⟨by decide +kernel, by decide +kernel, ⟨by decide +kernel, by decide +kernel⟩, by decide +kernel⟩
theorem yiX1_earned : Cond.instanceMethod yX1_earned ∈ kwl := by decide +kernel
theorem yvX1_earned : Cond.selects yX1_earned.cls yX1_earned yX1_earned ∈ kwl := by decide +kernel
theorem ykX2_init : yok yX2_init cX2_init 2 none 1 := ⟨by decide +kernel, by decide +kernel, ⟨by decide +kernel, by decide +kernel⟩, by decide +kernel⟩
theorem yiX2_init : Cond.instanceMethod yX2_init ∈ kwl := by decide +kernel
theorem ykX2_copy : yok yX2_copy cX2_copy 3 none 2 := ⟨by decide +kernel, by decide +kernel, ⟨by decide +kernel, by decide +kernel⟩, by decide +kernel⟩
theorem yiX2_copy : Cond.instanceMethod yX2_copy ∈ kwl := by decide +kernel
theorem yvX2_copy : Cond.selects yX2_copy.cls yX2_copy yX2_copy ∈ kwl := by decide +kernel
theorem ykX2_become : yok yX2_become cX2_become 2 none 1 := ⟨by decide +kernel, by decide +kernel, ⟨by decide +kernel, by decide +kernel⟩, by decide +kernel⟩
theorem yiX2_become : Cond.instanceMethod yX2_become ∈ kwl := by decide +kernel
theorem yvX2_become : Cond.selects yX2_become.cls yX2_become yX2_become ∈ kwl := by decide +kernel
theorem ykX2_holds : yok yX2_holds cX2_holds 2 (some .boolean) 1 := ⟨by decide +kernel, by decide +kernel, ⟨by decide +kernel, by decide +kernel⟩, by decide +kernel⟩
theorem yiX2_holds : Cond.instanceMethod yX2_holds ∈ kwl := by decide +kernel
theorem yvX2_holds : Cond.selects yX2_holds.cls yX2_holds yX2_holds ∈ kwl := by decide +kernel
theorem ykX2_sweeps : yok yX2_sweeps cX2_sweeps 2 (some .int) 1 := ⟨by decide +kernel, by decide +kernel, ⟨by decide +kernel, by decide +kernel⟩, by decide +kernel⟩
theorem yiX2_sweeps : Cond.instanceMethod yX2_sweeps ∈ kwl := by decide +kernel
theorem yvX2_sweeps : Cond.selects yX2_sweeps.cls yX2_sweeps yX2_sweeps ∈ kwl := by decide +kernel
theorem ykX2_sweep : yok yX2_sweep cX2_sweep 3 none 1 := ⟨by decide +kernel, by decide +kernel, ⟨by decide +kernel, by decide +kernel⟩, by decide +kernel⟩
theorem yiX2_sweep : Cond.instanceMethod yX2_sweep ∈ kwl := by decide +kernel
theorem yvX2_sweep : Cond.selects yX2_sweep.cls yX2_sweep yX2_sweep ∈ kwl := by decide +kernel
theorem ykX2_pay : yok yX2_pay cX2_pay 3 (some .int) 1 := ⟨by decide +kernel, by decide +kernel, ⟨by decide +kernel, by decide +kernel⟩, by decide +kernel⟩
theorem yiX2_pay : Cond.instanceMethod yX2_pay ∈ kwl := by decide +kernel
theorem yvX2_pay : Cond.selects yX2_pay.cls yX2_pay yX2_pay ∈ kwl := by decide +kernel
theorem ykX2_look : yok yX2_look cX2_look 4 none 1 := ⟨by decide +kernel, by decide +kernel, ⟨by decide +kernel, by decide +kernel⟩, by decide +kernel⟩
theorem yiX2_look : Cond.instanceMethod yX2_look ∈ kwl := by decide +kernel
theorem yvX2_look : Cond.selects yX2_look.cls yX2_look yX2_look ∈ kwl := by decide +kernel
theorem ykX2_pass : yok yX2_pass cX2_pass 4 (some .int) 0 := ⟨by decide +kernel, by decide +kernel, ⟨by decide +kernel, by decide +kernel⟩, by decide +kernel⟩
theorem yiX2_pass : Cond.instanceMethod yX2_pass ∈ kwl := by decide +kernel
theorem yvX2_pass : Cond.selects yX2_pass.cls yX2_pass yX2_pass ∈ kwl := by decide +kernel
theorem ykX2_pass_ : yok yX2_pass_ cX2_pass_ 4 (some .int) 1 := ⟨by decide +kernel, by decide +kernel, ⟨by decide +kernel, by decide +kernel⟩, by decide +kernel⟩
theorem yiX2_pass_ : Cond.instanceMethod yX2_pass_ ∈ kwl := by decide +kernel
theorem yvX2_pass_ : Cond.selects yX2_pass_.cls yX2_pass_ yX2_pass_ ∈ kwl := by decide +kernel
theorem ykX2_send : yok yX2_send cX2_send 4 (some .int) 2 := ⟨by decide +kernel, by decide +kernel, ⟨by decide +kernel, by decide +kernel⟩, by decide +kernel⟩
theorem yiX2_send : Cond.instanceMethod yX2_send ∈ kwl := by decide +kernel
theorem yvX2_send : Cond.selects yX2_send.cls yX2_send yX2_send ∈ kwl := by decide +kernel
theorem ykX2_held : yok yX2_held cX2_held 6 (some .int) 0 := ⟨by decide +kernel, by decide +kernel, ⟨by decide +kernel, by decide +kernel⟩, by decide +kernel⟩
theorem yiX2_held : Cond.instanceMethod yX2_held ∈ kwl := by decide +kernel
theorem yvX2_held : Cond.selects yX2_held.cls yX2_held yX2_held ∈ kwl := by decide +kernel
theorem ykX2_allMud : yok yX2_allMud cX2_allMud 1 (some .int) 0 := ⟨by decide +kernel, by decide +kernel, ⟨by decide +kernel, by decide +kernel⟩, by decide +kernel⟩
theorem yiX2_allMud : Cond.instanceMethod yX2_allMud ∈ kwl := by decide +kernel
theorem yvX2_allMud : Cond.selects yX2_allMud.cls yX2_allMud yX2_allMud ∈ kwl := by decide +kernel
theorem ykX2_sum : yok yX2_sum cX2_sum 7 (some .int) 1 := ⟨by decide +kernel, by decide +kernel, ⟨by decide +kernel, by decide +kernel⟩, by decide +kernel⟩
theorem yiX2_sum : Cond.instanceMethod yX2_sum ∈ kwl := by decide +kernel
theorem yvX2_sum : Cond.selects yX2_sum.cls yX2_sum yX2_sum ∈ kwl := by decide +kernel
theorem ykX3_init : yok yX3_init cX3_init 2 none 0 := ⟨by decide +kernel, by decide +kernel, ⟨by decide +kernel, by decide +kernel⟩, by decide +kernel⟩
theorem yiX3_init : Cond.instanceMethod yX3_init ∈ kwl := by decide +kernel
theorem ykX3_thrown : yok yX3_thrown cX3_thrown 1 (some .int) 0 := ⟨by decide +kernel, by decide +kernel, ⟨by decide +kernel, by decide +kernel⟩, by decide +kernel⟩
theorem yiX3_thrown : Cond.instanceMethod yX3_thrown ∈ kwl := by decide +kernel
theorem yvX3_thrown : Cond.selects yX3_thrown.cls yX3_thrown yX3_thrown ∈ kwl := by decide +kernel
theorem ykX3_no : yok yX3_no cX3_no 2 (some .int) 1 := ⟨by decide +kernel, by decide +kernel, ⟨by decide +kernel, by decide +kernel⟩, by decide +kernel⟩
theorem yiX3_no : Cond.instanceMethod yX3_no ∈ kwl := by decide +kernel
theorem yvX3_no : Cond.selects yX3_no.cls yX3_no yX3_no ∈ kwl := by decide +kernel
theorem ykX3_isIn : yok yX3_isIn cX3_isIn 3 (some .boolean) 3 := ⟨by decide +kernel, by decide +kernel, ⟨by decide +kernel, by decide +kernel⟩, by decide +kernel⟩
theorem ysX3_isIn : Cond.static yX3_isIn ∈ kwl := by decide +kernel
theorem ykX3_isCrossing : yok yX3_isCrossing cX3_isCrossing 1 (some .boolean) 1 := ⟨by decide +kernel, by decide +kernel, ⟨by decide +kernel, by decide +kernel⟩, by decide +kernel⟩
theorem ysX3_isCrossing : Cond.static yX3_isCrossing ∈ kwl := by decide +kernel
theorem ykX3_isSweeper : yok yX3_isSweeper cX3_isSweeper 2 (some .boolean) 1 := ⟨by decide +kernel, by decide +kernel, ⟨by decide +kernel, by decide +kernel⟩, by decide +kernel⟩
theorem yiX3_isSweeper : Cond.instanceMethod yX3_isSweeper ∈ kwl := by decide +kernel
theorem yvX3_isSweeper : Cond.selects yX3_isSweeper.cls yX3_isSweeper yX3_isSweeper ∈ kwl := by decide +kernel
theorem ykX3_isTime : yok yX3_isTime cX3_isTime 1 (some .boolean) 1 := ⟨by decide +kernel, by decide +kernel, ⟨by decide +kernel, by decide +kernel⟩, by decide +kernel⟩
theorem ysX3_isTime : Cond.static yX3_isTime ∈ kwl := by decide +kernel
theorem ykX3_beside : yok yX3_beside cX3_beside 2 (some .int) 2 := ⟨by decide +kernel, by decide +kernel, ⟨by decide +kernel, by decide +kernel⟩, by decide +kernel⟩
theorem ysX3_beside : Cond.static yX3_beside ∈ kwl := by decide +kernel
theorem ykX3_goesTo : yok yX3_goesTo cX3_goesTo 5 (some .int) 1 := ⟨by decide +kernel, by decide +kernel, ⟨by decide +kernel, by decide +kernel⟩, by decide +kernel⟩
theorem yiX3_goesTo : Cond.instanceMethod yX3_goesTo ∈ kwl := by decide +kernel
theorem yvX3_goesTo : Cond.selects yX3_goesTo.cls yX3_goesTo yX3_goesTo ∈ kwl := by decide +kernel
theorem ykX3_set : yok yX3_set cX3_set 5 (some .int) 3 := ⟨by decide +kernel, by decide +kernel, ⟨by decide +kernel, by decide +kernel⟩, by decide +kernel⟩
theorem yiX3_set : Cond.instanceMethod yX3_set ∈ kwl := by decide +kernel
theorem yvX3_set : Cond.selects yX3_set.cls yX3_set yX3_set ∈ kwl := by decide +kernel
theorem ykX3_setRain : yok yX3_setRain cX3_setRain 4 (some .int) 2 := ⟨by decide +kernel, by decide +kernel, ⟨by decide +kernel, by decide +kernel⟩, by decide +kernel⟩
theorem yiX3_setRain : Cond.instanceMethod yX3_setRain ∈ kwl := by decide +kernel
theorem yvX3_setRain : Cond.selects yX3_setRain.cls yX3_setRain yX3_setRain ∈ kwl := by decide +kernel
theorem ykX3_spill : yok yX3_spill cX3_spill 3 (some .int) 2 := ⟨by decide +kernel, by decide +kernel, ⟨by decide +kernel, by decide +kernel⟩, by decide +kernel⟩
theorem yiX3_spill : Cond.instanceMethod yX3_spill ∈ kwl := by decide +kernel
theorem yvX3_spill : Cond.selects yX3_spill.cls yX3_spill yX3_spill ∈ kwl := by decide +kernel
theorem ykX3_come : yok yX3_come cX3_come 3 (some .int) 2 := ⟨by decide +kernel, by decide +kernel, ⟨by decide +kernel, by decide +kernel⟩, by decide +kernel⟩
theorem yiX3_come : Cond.instanceMethod yX3_come ∈ kwl := by decide +kernel
theorem yvX3_come : Cond.selects yX3_come.cls yX3_come yX3_come ∈ kwl := by decide +kernel
theorem ykX3_send : yok yX3_send cX3_send 3 (some .int) 2 := ⟨by decide +kernel, by decide +kernel, ⟨by decide +kernel, by decide +kernel⟩, by decide +kernel⟩
theorem yiX3_send : Cond.instanceMethod yX3_send ∈ kwl := by decide +kernel
theorem yvX3_send : Cond.selects yX3_send.cls yX3_send yX3_send ∈ kwl := by decide +kernel
theorem ykX3_buy : yok yX3_buy cX3_buy 2 (some .int) 1 := ⟨by decide +kernel, by decide +kernel, ⟨by decide +kernel, by decide +kernel⟩, by decide +kernel⟩
theorem yiX3_buy : Cond.instanceMethod yX3_buy ∈ kwl := by decide +kernel
theorem yvX3_buy : Cond.selects yX3_buy.cls yX3_buy yX3_buy ∈ kwl := by decide +kernel
theorem ykX3_sweeperTold : yok yX3_sweeperTold cX3_sweeperTold 4 (some .int) 2 := ⟨by decide +kernel, by decide +kernel, ⟨by decide +kernel, by decide +kernel⟩, by decide +kernel⟩
theorem yiX3_sweeperTold : Cond.instanceMethod yX3_sweeperTold ∈ kwl := by decide +kernel
theorem yvX3_sweeperTold : Cond.selects yX3_sweeperTold.cls yX3_sweeperTold yX3_sweeperTold ∈ kwl := by decide +kernel
theorem ykX3_sweeper : yok yX3_sweeper cX3_sweeper 3 (some .int) 2 := ⟨by decide +kernel, by decide +kernel, ⟨by decide +kernel, by decide +kernel⟩, by decide +kernel⟩
theorem yiX3_sweeper : Cond.instanceMethod yX3_sweeper ∈ kwl := by decide +kernel
theorem yvX3_sweeper : Cond.selects yX3_sweeper.cls yX3_sweeper yX3_sweeper ∈ kwl := by decide +kernel
theorem ykX3_crossingTold : yok yX3_crossingTold cX3_crossingTold 5 (some .int) 2 := ⟨by decide +kernel, by decide +kernel, ⟨by decide +kernel, by decide +kernel⟩, by decide +kernel⟩
theorem yiX3_crossingTold : Cond.instanceMethod yX3_crossingTold ∈ kwl := by decide +kernel
theorem yvX3_crossingTold : Cond.selects yX3_crossingTold.cls yX3_crossingTold yX3_crossingTold ∈ kwl := by decide +kernel
theorem ykX3_crossing : yok yX3_crossing cX3_crossing 3 (some .int) 2 := ⟨by decide +kernel, by decide +kernel, ⟨by decide +kernel, by decide +kernel⟩, by decide +kernel⟩
theorem yiX3_crossing : Cond.instanceMethod yX3_crossing ∈ kwl := by decide +kernel
theorem yvX3_crossing : Cond.selects yX3_crossing.cls yX3_crossing yX3_crossing ∈ kwl := by decide +kernel
theorem ykX3_counted : yok yX3_counted cX3_counted 7 (some .int) 1 := ⟨by decide +kernel, by decide +kernel, ⟨by decide +kernel, by decide +kernel⟩, by decide +kernel⟩
theorem yiX3_counted : Cond.instanceMethod yX3_counted ∈ kwl := by decide +kernel
theorem yvX3_counted : Cond.selects yX3_counted.cls yX3_counted yX3_counted ∈ kwl := by decide +kernel
theorem ykX3_count : yok yX3_count cX3_count 2 (some .int) 1 := ⟨by decide +kernel, by decide +kernel, ⟨by decide +kernel, by decide +kernel⟩, by decide +kernel⟩
theorem yiX3_count : Cond.instanceMethod yX3_count ∈ kwl := by decide +kernel
theorem yvX3_count : Cond.selects yX3_count.cls yX3_count yX3_count ∈ kwl := by decide +kernel
theorem ykX3_pass : yok yX3_pass cX3_pass 2 (some .int) 1 := ⟨by decide +kernel, by decide +kernel, ⟨by decide +kernel, by decide +kernel⟩, by decide +kernel⟩
theorem yiX3_pass : Cond.instanceMethod yX3_pass ∈ kwl := by decide +kernel
theorem yvX3_pass : Cond.selects yX3_pass.cls yX3_pass yX3_pass ∈ kwl := by decide +kernel
theorem ykX3_way : yok yX3_way cX3_way 5 (some .int) 2 := ⟨by decide +kernel, by decide +kernel, ⟨by decide +kernel, by decide +kernel⟩, by decide +kernel⟩
theorem yiX3_way : Cond.instanceMethod yX3_way ∈ kwl := by decide +kernel
theorem yvX3_way : Cond.selects yX3_way.cls yX3_way yX3_way ∈ kwl := by decide +kernel
theorem ykX3_spread : yok yX3_spread cX3_spread 4 none 1 := ⟨by decide +kernel, by decide +kernel, ⟨by decide +kernel, by decide +kernel⟩, by decide +kernel⟩
theorem yiX3_spread : Cond.instanceMethod yX3_spread ∈ kwl := by decide +kernel
theorem yvX3_spread : Cond.selects yX3_spread.cls yX3_spread yX3_spread ∈ kwl := by decide +kernel
theorem ykX3_earnsAhead : yok yX3_earnsAhead cX3_earnsAhead 3 (some .int) 2 := ⟨by decide +kernel, by decide +kernel, ⟨by decide +kernel, by decide +kernel⟩, by decide +kernel⟩
theorem yiX3_earnsAhead : Cond.instanceMethod yX3_earnsAhead ∈ kwl := by decide +kernel
theorem yvX3_earnsAhead : Cond.selects yX3_earnsAhead.cls yX3_earnsAhead yX3_earnsAhead ∈ kwl := by decide +kernel
theorem ykX3_earns : yok yX3_earns cX3_earns 3 (some .int) 2 := ⟨by decide +kernel, by decide +kernel, ⟨by decide +kernel, by decide +kernel⟩, by decide +kernel⟩
theorem yiX3_earns : Cond.instanceMethod yX3_earns ∈ kwl := by decide +kernel
theorem yvX3_earns : Cond.selects yX3_earns.cls yX3_earns yX3_earns ∈ kwl := by decide +kernel
theorem ykX3_advise : yok yX3_advise cX3_advise 7 (some .int) 2 := ⟨by decide +kernel, by decide +kernel, ⟨by decide +kernel, by decide +kernel⟩, by decide +kernel⟩
theorem yiX3_advise : Cond.instanceMethod yX3_advise ∈ kwl := by decide +kernel
theorem yvX3_advise : Cond.selects yX3_advise.cls yX3_advise yX3_advise ∈ kwl := by decide +kernel
theorem ykX3_foresee : yok yX3_foresee cX3_foresee 4 (some .int) 2 := ⟨by decide +kernel, by decide +kernel, ⟨by decide +kernel, by decide +kernel⟩, by decide +kernel⟩
theorem yiX3_foresee : Cond.instanceMethod yX3_foresee ∈ kwl := by decide +kernel
theorem yvX3_foresee : Cond.selects yX3_foresee.cls yX3_foresee yX3_foresee ∈ kwl := by decide +kernel
theorem ykX3_mean : yok yX3_mean cX3_mean 1 (some .double) 0 := ⟨by decide +kernel, by decide +kernel, ⟨by decide +kernel, by decide +kernel⟩, by decide +kernel⟩
theorem yiX3_mean : Cond.instanceMethod yX3_mean ∈ kwl := by decide +kernel
theorem yvX3_mean : Cond.selects yX3_mean.cls yX3_mean yX3_mean ∈ kwl := by decide +kernel
theorem ykX3_digest : yok yX3_digest cX3_digest 5 (some .long) 0 := ⟨by decide +kernel, by decide +kernel, ⟨by decide +kernel, by decide +kernel⟩, by decide +kernel⟩
theorem yiX3_digest : Cond.instanceMethod yX3_digest ∈ kwl := by decide +kernel
theorem yvX3_digest : Cond.selects yX3_digest.cls yX3_digest yX3_digest ∈ kwl := by decide +kernel
theorem mlX0_61 : mlnk RX0 61 yX0_isSweeper := Or.inl (by decide +kernel)
theorem mlX0_65 : mlnk RX0 65 yX1_isCrossing := Or.inr ⟨"MudSweepers", by decide +kernel⟩
theorem mlX0_74 : mlnk RX0 74 yX0_liveQuarter := Or.inl (by decide +kernel)
theorem mlX0_78 : mlnk RX0 78 yX0_addMud := Or.inl (by decide +kernel)
theorem mlX0_82 : mlnk RX0 82 yX0_sweepAll := Or.inl (by decide +kernel)
theorem mlX0_85 : mlnk RX0 85 yX0_payAll := Or.inl (by decide +kernel)
theorem mlX0_88 : mlnk RX0 88 yX0_holdsPitch := Or.inl (by decide +kernel)
theorem mlX0_91 : mlnk RX0 91 yX0_seekPitch := Or.inl (by decide +kernel)
theorem mlX0_95 : mlnk RX0 95 yX0_reach := Or.inl (by decide +kernel)
theorem mlX0_102 : mlnk RX0 102 yX0_wage := Or.inl (by decide +kernel)
theorem mlX0_105 : mlnk RX0 105 yX0_busiestNeighbour := Or.inl (by decide +kernel)
theorem mlX0_108 : mlnk RX0 108 yX1_neighbour := Or.inr ⟨"MudSweepers", by decide +kernel⟩
theorem mlX0_111 : mlnk RX0 111 yX0_sweepersAt := Or.inl (by decide +kernel)
theorem mlX0_114 : mlnk RX0 114 yX0_heldPitches := Or.inl (by decide +kernel)
theorem mlX0_117 : mlnk RX0 117 yX0_allMud := Or.inl (by decide +kernel)
theorem mlX0_120 : mlnk RX0 120 yX0_sum := Or.inl (by decide +kernel)
theorem mlX0_124 : mlnk RX0 124 yX0_cleanCrossings := Or.inl (by decide +kernel)
theorem mlX1_9 : mlnk RX1 9 yX0_init := Or.inl (by decide +kernel)
theorem mlX1_23 : mlnk RX1 23 yX1_needCrossing := Or.inl (by decide +kernel)
theorem mlX1_54 : mlnk RX1 54 yX0_addMud := Or.inl (by decide +kernel)
theorem mlX1_72 : mlnk RX1 72 yX0_admit := Or.inl (by decide +kernel)
theorem mlX1_76 : mlnk RX1 76 yX1_needSweeper := Or.inl (by decide +kernel)
theorem mlX1_82 : mlnk RX1 82 yX0_moveTo := Or.inl (by decide +kernel)
theorem mlX1_93 : mlnk RX1 93 yX1_needFact := Or.inl (by decide +kernel)
theorem mlX1_96 : mlnk RX1 96 yX0_sweeperFact := Or.inl (by decide +kernel)
theorem mlX1_99 : mlnk RX1 99 yX0_crossingFact := Or.inl (by decide +kernel)
theorem mlX1_102 : mlnk RX1 102 yX0_cityFact := Or.inl (by decide +kernel)
theorem mlX1_106 : mlnk RX1 106 yX1_needQuarters := Or.inl (by decide +kernel)
theorem mlX1_109 : mlnk RX1 109 yX0_live := Or.inl (by decide +kernel)
theorem mlX1_113 : mlnk RX1 113 yX1_shortenWays := Or.inl (by decide +kernel)
theorem mlX1_116 : mlnk RX1 116 yX1_earned := Or.inl (by decide +kernel)
theorem mlX1_120 : mlnk RX1 120 yX0_copyFrom := Or.inl (by decide +kernel)
theorem mlX1_124 : mlnk RX1 124 yX0_allMud := Or.inl (by decide +kernel)
theorem mlX1_128 : mlnk RX1 128 yX0_heldPitches := Or.inl (by decide +kernel)
theorem mlX1_137 : mlnk RX1 137 yX1_isCrossing := Or.inl (by decide +kernel)
theorem mlX1_143 : mlnk RX1 143 yX0_isSweeper := Or.inl (by decide +kernel)
theorem mlX1_152 : mlnk RX1 152 yX1_neighbour := Or.inl (by decide +kernel)
theorem mlX2_50 : mlnk RX2 50 yX2_copy := Or.inl (by decide +kernel)
theorem mlX2_57 : mlnk RX2 57 yX2_sweeps := Or.inl (by decide +kernel)
theorem mlX2_73 : mlnk RX2 73 yX3_goesTo := Or.inr ⟨"MudSweepersModel", by decide +kernel⟩
theorem mlX2_85 : mlnk RX2 85 yX2_holds := Or.inl (by decide +kernel)
theorem mlX2_89 : mlnk RX2 89 yX2_sweep := Or.inl (by decide +kernel)
theorem mlX2_93 : mlnk RX2 93 yX2_pay := Or.inl (by decide +kernel)
theorem mlX2_96 : mlnk RX2 96 yX2_look := Or.inl (by decide +kernel)
theorem mlX2_99 : mlnk RX2 99 yX2_pass := Or.inl (by decide +kernel)
theorem mlX2_103 : mlnk RX2 103 yX2_sum := Or.inl (by decide +kernel)
theorem mlX3_27 : mlnk RX3 27 yX2_init := Or.inr ⟨"MudSweepersModel", by decide +kernel⟩
theorem mlX3_44 : mlnk RX3 44 yX3_isIn := Or.inl (by decide +kernel)
theorem mlX3_51 : mlnk RX3 51 yX3_beside := Or.inl (by decide +kernel)
theorem mlX3_55 : mlnk RX3 55 yX3_isCrossing := Or.inl (by decide +kernel)
theorem mlX3_59 : mlnk RX3 59 yX3_no := Or.inl (by decide +kernel)
theorem mlX3_77 : mlnk RX3 77 yX3_isSweeper := Or.inl (by decide +kernel)
theorem mlX3_80 : mlnk RX3 80 yX2_send := Or.inl (by decide +kernel)
theorem mlX3_86 : mlnk RX3 86 yX2_holds := Or.inl (by decide +kernel)
theorem mlX3_95 : mlnk RX3 95 yX2_sweeps := Or.inl (by decide +kernel)
theorem mlX3_98 : mlnk RX3 98 yX3_sweeperTold := Or.inl (by decide +kernel)
theorem mlX3_104 : mlnk RX3 104 yX3_crossingTold := Or.inl (by decide +kernel)
theorem mlX3_110 : mlnk RX3 110 yX2_held := Or.inl (by decide +kernel)
theorem mlX3_114 : mlnk RX3 114 yX2_allMud := Or.inl (by decide +kernel)
theorem mlX3_117 : mlnk RX3 117 yX2_sum := Or.inl (by decide +kernel)
theorem mlX3_121 : mlnk RX3 121 yX3_counted := Or.inl (by decide +kernel)
theorem mlX3_124 : mlnk RX3 124 yX3_isTime := Or.inl (by decide +kernel)
theorem mlX3_127 : mlnk RX3 127 yX2_pass_ := Or.inl (by decide +kernel)
theorem mlX3_133 : mlnk RX3 133 yX3_spread := Or.inl (by decide +kernel)
theorem mlX3_137 : mlnk RX3 137 yX2_become := Or.inl (by decide +kernel)
theorem mlX3_141 : mlnk RX3 141 yX3_earnsAhead := Or.inl (by decide +kernel)
theorem mlL_7 : mlnk RL 7 yX1_set := Or.inl (by decide +kernel)
theorem mlL_17 : mlnk RL 17 yX1_setRain := Or.inl (by decide +kernel)
theorem mlL_21 : mlnk RL 21 yX1_spill := Or.inl (by decide +kernel)
theorem mlL_24 : mlnk RL 24 yX1_come := Or.inl (by decide +kernel)
theorem mlL_29 : mlnk RL 29 yX1_send := Or.inl (by decide +kernel)
theorem mlL_32 : mlnk RL 32 yX1_buy := Or.inl (by decide +kernel)
theorem mlL_36 : mlnk RL 36 yX1_sweeper := Or.inl (by decide +kernel)
theorem mlL_39 : mlnk RL 39 yX1_crossing := Or.inl (by decide +kernel)
theorem mlL_42 : mlnk RL 42 yX1_count := Or.inl (by decide +kernel)
theorem mlL_45 : mlnk RL 45 yX1_pass := Or.inl (by decide +kernel)
theorem mlL_48 : mlnk RL 48 yX1_way := Or.inl (by decide +kernel)
theorem mlL_51 : mlnk RL 51 yX1_earns := Or.inl (by decide +kernel)
theorem mlL_54 : mlnk RL 54 yX1_advise := Or.inl (by decide +kernel)
theorem mlL_57 : mlnk RL 57 yX1_foresee := Or.inl (by decide +kernel)
theorem mlL_60 : mlnk RL 60 yX1_init := Or.inl (by decide +kernel)
theorem mlL_63 : mlnk RL 63 yX3_init := Or.inl (by decide +kernel)
theorem mlL_69 : mlnk RL 69 yX3_set := Or.inl (by decide +kernel)
theorem mlL_70 : mlnk RL 70 yX3_thrown := Or.inl (by decide +kernel)
theorem mlL_77 : mlnk RL 77 yX3_setRain := Or.inl (by decide +kernel)
theorem mlL_80 : mlnk RL 80 yX3_spill := Or.inl (by decide +kernel)
theorem mlL_83 : mlnk RL 83 yX3_come := Or.inl (by decide +kernel)
theorem mlL_86 : mlnk RL 86 yX3_send := Or.inl (by decide +kernel)
theorem mlL_90 : mlnk RL 90 yX3_buy := Or.inl (by decide +kernel)
theorem mlL_93 : mlnk RL 93 yX3_sweeper := Or.inl (by decide +kernel)
theorem mlL_96 : mlnk RL 96 yX3_crossing := Or.inl (by decide +kernel)
theorem mlL_99 : mlnk RL 99 yX3_count := Or.inl (by decide +kernel)
theorem mlL_102 : mlnk RL 102 yX3_pass := Or.inl (by decide +kernel)
theorem mlL_105 : mlnk RL 105 yX3_way := Or.inl (by decide +kernel)
theorem mlL_108 : mlnk RL 108 yX3_earns := Or.inl (by decide +kernel)
theorem mlL_111 : mlnk RL 111 yX3_advise := Or.inl (by decide +kernel)
theorem mlL_114 : mlnk RL 114 yX3_foresee := Or.inl (by decide +kernel)
theorem mlL_115 : mlnk RL 115 yX1_mean := Or.inl (by decide +kernel)
theorem mlL_119 : mlnk RL 119 yX3_mean := Or.inl (by decide +kernel)
theorem mlL_120 : mlnk RL 120 yX1_digest := Or.inl (by decide +kernel)
theorem mlL_124 : mlnk RL 124 yX3_digest := Or.inl (by decide +kernel)
end
section
/-! ===== more rows ===== -/
theorem AW.iretE {G : aG} {M : aM} {tb : List (Nat × Instr)} {FT PT : List (Nat × Nat × Nat)} (hm : amok M tb FT PT) (i : Nat) {h0 h h' : aH} {mc ms kc ks pc : Nat} {lv : aV} {ty : FieldType} {x x' : Int32} (hE : aEnd (some ty) (some (.int x')) h0 h' mc ms G) (hi : tb[i]? = some (pc, .ireturn)) (hM : M.2.2.2 = h0.length) (hn : narrow ty (.int x) = .int x) (hc : Nat.ble kc mc = true) (hs : Nat.ble ks ms = true) (hx : x' = x) (hh : h' = h) : AW G M h kc ks pc lv [.int x] := by
  subst hx; subst hh
  exact AW.iret hE (tb_at hm.1 i hi) hM hn (Nat.le_of_ble_eq_true hc) (Nat.le_of_ble_eq_true hs) rfl
theorem AW.vretE {G : aG} {M : aM} {tb : List (Nat × Instr)} {FT PT : List (Nat × Nat × Nat)} (hm : amok M tb FT PT) (i : Nat) {h0 h h' : aH} {mc ms kc ks pc : Nat} {lv : aV} (hE : aEnd none none h0 h' mc ms G) (hi : tb[i]? = some (pc, .return_)) (hM : M.2.2.2 = h0.length) (hc : Nat.ble kc mc = true) (hs : Nat.ble ks ms = true) (hh : h' = h) : AW G M h kc ks pc lv [] := by
  subst hh
  exact AW.vret hE (tb_at hm.1 i hi) hM (Nat.le_of_ble_eq_true hc) (Nat.le_of_ble_eq_true hs) rfl
theorem AW.lretE {G : aG} {M : aM} {tb : List (Nat × Instr)} {FT PT : List (Nat × Nat × Nat)} (hm : amok M tb FT PT) (i : Nat) {h0 h h' : aH} {mc ms kc ks pc : Nat} {lv : aV} {x x' : Int64} (hE : aEnd (some .long) (some (.long x')) h0 h' mc ms G) (hi : tb[i]? = some (pc, .lreturn)) (hM : M.2.2.2 = h0.length) (hc : Nat.ble kc mc = true) (hs : Nat.ble ks ms = true) (hx : x' = x) (hh : h' = h) : AW G M h kc ks pc lv [.long x] := by
  subst hx; subst hh
  exact AW.lret hE (tb_at hm.1 i hi) hM (Nat.le_of_ble_eq_true hc) (Nat.le_of_ble_eq_true hs) rfl
theorem AW.dretE {G : aG} {M : aM} {tb : List (Nat × Instr)} {FT PT : List (Nat × Nat × Nat)} (hm : amok M tb FT PT) (i : Nat) {h0 h h' : aH} {mc ms kc ks pc : Nat} {lv : aV} {x x' : UInt64} (hE : aEnd (some .double) (some (.double x')) h0 h' mc ms G) (hi : tb[i]? = some (pc, .dreturn)) (hM : M.2.2.2 = h0.length) (hc : Nat.ble kc mc = true) (hs : Nat.ble ks ms = true) (hx : x' = x) (hh : h' = h) : AW G M h kc ks pc lv [.double x] := by
  subst hx; subst hh
  exact AW.dret hE (tb_at hm.1 i hi) hM (Nat.le_of_ble_eq_true hc) (Nat.le_of_ble_eq_true hs) rfl
theorem kM1 : Cond.static Lib.Math.min.name ∈ kwl := by decide +kernel
theorem kM2 : Cond.initialized "java/lang/Math" ∈ kwl := by decide +kernel
theorem kM3 : Cond.code Lib.Math.min.name Lib.Math.min.code 2 (some .int) ∈ kwl := by decide +kernel
theorem kM4 : Cond.static Lib.Math.max.name ∈ kwl := by decide +kernel
theorem kM5 : Cond.code Lib.Math.max.name Lib.Math.max.code 2 (some .int) ∈ kwl := by decide +kernel
def imin (x y : Int32) : Int32 := if y < x then y else x
def imax (x y : Int32) : Int32 := if x < y then y else x
theorem AW.mmin {G : aG} {M : aM} {tb : List (Nat × Instr)} {FT PT : List (Nat × Nat × Nat)} (hm : amok M tb FT PT) (i : Nat) {h : aH} {kc ks pc idx : Nat} {lv : aV} {st : List Value} {x y : Int32} {R : Room} (hi : tb[i]? = some (pc, .invokestatic idx)) (hlk : Cond.methodLink M.1 idx Lib.Math.min.name ∈ kwl) (hR : aRm G = R) (hcat : Nat.ble (st.map fun v => v.category).sum 8 = true)
    (hRR : 1 ≤ R.frames ∧ 21 ≤ R.locals ∧ kc ≤ R.cells ∧ ks ≤ R.slots) (k : AW G M h kc ks (pc + 3) lv (.int (imin x y) :: st)) : AW G M h kc ks pc lv (.int y :: .int x :: st) := by
  have hd := tb_at hm.1 i hi
  obtain ⟨p, l, e, R0, s, m, args, below, meth, c, Q, D, cI, cL, A, ad0, X⟩ := G
  have hR : R0 = R := hR
  subst hR
  intro ok ad H locs ls ha hP hD hS hl
  obtain ⟨hx, hb, hml, hown, hkw, -⟩ := id ok
  have hc8 := Nat.le_of_ble_eq_true hcat
  exact va_mmin hx hb (by rw [hml]; exact hl.1.symm) hown (hkw.use _ hlk) (hkw.use _ kM1) (hkw.use _ kM2) (hkw.use _ kM3) hRR.1 (by rw [cats]; omega) hRR.2.2.1 hRR.2.2.2 hd (k ok ad H locs ls ha hP hD hS hl)
theorem AW.mmax {G : aG} {M : aM} {tb : List (Nat × Instr)} {FT PT : List (Nat × Nat × Nat)} (hm : amok M tb FT PT) (i : Nat) {h : aH} {kc ks pc idx : Nat} {lv : aV} {st : List Value} {x y : Int32} {R : Room} (hi : tb[i]? = some (pc, .invokestatic idx)) (hlk : Cond.methodLink M.1 idx Lib.Math.max.name ∈ kwl) (hR : aRm G = R) (hcat : Nat.ble (st.map fun v => v.category).sum 8 = true)
    (hRR : 1 ≤ R.frames ∧ 21 ≤ R.locals ∧ kc ≤ R.cells ∧ ks ≤ R.slots) (k : AW G M h kc ks (pc + 3) lv (.int (imax x y) :: st)) : AW G M h kc ks pc lv (.int y :: .int x :: st) := by
  have hd := tb_at hm.1 i hi
  obtain ⟨p, l, e, R0, s, m, args, below, meth, c, Q, D, cI, cL, A, ad0, X⟩ := G
  have hR : R0 = R := hR
  subst hR
  intro ok ad H locs ls ha hP hD hS hl
  obtain ⟨hx, hb, hml, hown, hkw, -⟩ := id ok
  have hc8 := Nat.le_of_ble_eq_true hcat
  exact va_mmax hx hb (by rw [hml]; exact hl.1.symm) hown (hkw.use _ hlk) (hkw.use _ kM4) (hkw.use _ kM2) (hkw.use _ kM5) hRR.1 (by rw [cats]; omega) hRR.2.2.1 hRR.2.2.2 hd (k ok ad H locs ls ha hP hD hS hl)
-- contracts hold for what is equal
theorem AMet.to {y : MethodName} {b : ByteArray} {maxL : Nat} {ret : Option FieldType} {rm : Room} {as : List Value} {h h' h2 : aH} {r r2 : Option Value} (k : AMet y b maxL ret rm as h r h') (e1 : r = r2) (e2 : h' = h2) : AMet y b maxL ret rm as h r2 h2 := by
  subst e1; subst e2; exact k
-- a city: its cells and its numbers
abbrev CS : Type := (Nat → Int32) × (Nat → Int32) × (Nat → Int32) × (Nat → Int32) × (Nat → Int32) × (Nat → Int32) × (Nat → Int32) × (Nat → Int32) × (Nat → Int32) × (Nat → Int32) × (Nat → Int32) × (Nat → Int32) × Int32 × Int32
def hC (mud car wal hol paid rain place str bro pen swe dri : Nat → Int32) (n q : Int32) : aH := [aO 0 [.ref 1, .ref 2, .ref 3, .ref 4, .ref 5, .ref 6, .ref 7, .ref 8, .ref 9, .ref 10, .ref 11, .ref 12, .int n, .int q], aI 9 mud, aI 9 car, aI 9 wal, aI 9 hol, aI 9 paid, aI 8 rain, aI 8 place, aI 8 str, aI 8 bro, aI 8 pen, aI 8 swe, aI 8 dri]
end
section
/-! ===== loops, specs of them, small facts ===== -/
theorem AW.pick {G : aG} {M : aM} {h : aH} {kc ks pc : Nat} {lv lv' : aV} {st : List Value} (is : List Nat) (hl : lv_pick lv is = lv') (k : AW G M h kc ks pc lv' st) : AW G M h kc ks pc lv st := by
  refine AW.sub (fun q hq => ?_) k
  rw [← hl] at hq
  obtain ⟨i, -, hi⟩ := List.mem_filterMap.mp hq
  exact List.mem_of_getElem? hi
def lpN {α : Type} (f : Nat → α → α) : Nat → Nat → α → α
  | 0, _, a => a
  | k + 1, i, a => lpN f k (i + 1) (f i a)
def lpS {α : Type} (n : Int32) (f : Nat → α → α) : Nat → Nat → α → α
  | 0, _, a => a
  | k + 1, i, a => if n ≤ nI i then a else lpS n f k (i + 1) (f i a)
theorem vpi {i N : Nat} (h : i < N) (hN : Nat.blt N 2147483648 = true) : vp_in (nI i) N := vp_in_nI h (Nat.lt_of_succ_le (Nat.le_of_ble_eq_true hN))
theorem nle {i : Nat} {N : Nat} (h : i < N) (hN : Nat.blt N 2147483648 = true) : ¬ nI N ≤ nI i := nI_ge h (Nat.lt_of_succ_le (Nat.le_of_ble_eq_true hN))
theorem vp_in_of_lt {x : Int32} {N : Nat} {M : Int32} (hM : M.toInt = N) (h1 : ¬ x < 0) (h2 : ¬ M ≤ x) : vp_in x N := by
  rw [vp_in_iff]
  rw [Int32.lt_iff_toInt_lt, Int32.toInt_zero] at h1
  rw [Int32.le_iff_toInt_le, hM] at h2
  omega
def sSw (s n : Int32) : Int32 := if s < 0 then 0 else if 8 ≤ s then 0 else if n ≤ s then 0 else 1
def sCr (c : Int32) : Int32 := if c < 0 then 0 else if 9 ≤ c then 0 else 1
theorem sSw_in {s n : Int32} (h : ¬ sSw s n = 0) : vp_in s 8 := by
  unfold sSw at h
  by_cases h1 : s < 0
  · rw [if_pos h1] at h; exact absurd rfl h
  · by_cases h2 : 8 ≤ s
    · rw [if_neg h1, if_pos h2] at h; exact absurd rfl h
    · exact vp_in_of_lt (M := 8) (by decide) h1 h2
theorem sCr_in {c : Int32} (h : ¬ sCr c = 0) : vp_in c 9 := by
  unfold sCr at h
  by_cases h1 : c < 0
  · rw [if_pos h1] at h; exact absurd rfl h
  · by_cases h2 : 9 ≤ c
    · rw [if_neg h1, if_pos h2] at h; exact absurd rfl h
    · exact vp_in_of_lt (M := 9) (by decide) h1 h2
end
section
/-! ===== links to Math.min, Math.max ===== -/
theorem kmmX0_68 : Cond.methodLink RX0 68 Lib.Math.min.name ∈ kwl := by decide +kernel
theorem kmmX0_99 : Cond.methodLink RX0 99 Lib.Math.max.name ∈ kwl := by decide +kernel
theorem kmmX3_66 : Cond.methodLink RX3 66 Lib.Math.min.name ∈ kwl := by decide +kernel
theorem kmmX2_61 : Cond.methodLink RX2 61 Lib.Math.min.name ∈ kwl := by decide +kernel
theorem kmmX2_67 : Cond.methodLink RX2 67 Lib.Math.max.name ∈ kwl := by decide +kernel
end
section
set_option maxHeartbeats 1000000 in
theorem kX0_isSweeper (mud car wal hol paid rain place str bro pen swe dri : Nat → Int32) (n q : Int32) (s : Int32) : AMet yX0_isSweeper cX0_isSweeper 2 (some .boolean) { frames := 0, cells := 0, slots := 0, locals := 0 } [.ref 0, .int s] (hC mud car wal hol paid rain place str bro pen swe dri n q) (some (.int (sSw s n))) (hC mud car wal hol paid rain place str bro pen swe dri n q) := by
  refine AMet.of (by decide) rfl ?_
  intro G hR hE hI
  refine AW.blk (amX0_isSweeper _) 0 1 (h' := hC mud car wal hol paid rain place str bro pen swe dri n q) (pc' := 1) (lv' := [(0, .ref 0), (1, .int s)]) (st' := [.int s]) (L := []) rfl trivial ?_
  refine AW.br (amX0_isSweeper _) 1 (tgt := 22) (C := s < 0) (C' := ¬ s < 0) (st' := []) rfl rfl rfl (fun c1 => ?_) (fun c1 => ?_)
  · refine AW.blk (amX0_isSweeper _) 11 1 (h' := hC mud car wal hol paid rain place str bro pen swe dri n q) (pc' := 23) (lv' := [(0, .ref 0), (1, .int s)]) (st' := [.int 0]) (L := []) rfl trivial ?_
    exact AW.iretE (amX0_isSweeper _) 12 hE rfl rfl (by first | rfl | exact narrow_b _ (by decide)) rfl rfl (by simp only [sSw, if_pos c1]) rfl
  · refine AW.blk (amX0_isSweeper _) 2 2 (h' := hC mud car wal hol paid rain place str bro pen swe dri n q) (pc' := 7) (lv' := [(0, .ref 0), (1, .int s)]) (st' := [.int 8, .int s]) (L := []) rfl trivial ?_
    refine AW.br (amX0_isSweeper _) 4 (tgt := 22) (C := 8 ≤ s) (C' := ¬ 8 ≤ s) (st' := []) rfl rfl rfl (fun c2 => ?_) (fun c2 => ?_)
    · refine AW.blk (amX0_isSweeper _) 11 1 (h' := hC mud car wal hol paid rain place str bro pen swe dri n q) (pc' := 23) (lv' := [(0, .ref 0), (1, .int s)]) (st' := [.int 0]) (L := []) rfl trivial ?_
      exact AW.iretE (amX0_isSweeper _) 12 hE rfl rfl (by first | rfl | exact narrow_b _ (by decide)) rfl rfl (by simp only [sSw, if_neg c1, if_pos c2]) rfl
    · refine AW.blk (amX0_isSweeper _) 5 3 (h' := hC mud car wal hol paid rain place str bro pen swe dri n q) (pc' := 15) (lv' := [(0, .ref 0), (1, .int s)]) (st' := [.int n, .int s]) (L := []) rfl trivial ?_
      refine AW.br (amX0_isSweeper _) 8 (tgt := 22) (C := n ≤ s) (C' := ¬ n ≤ s) (st' := []) rfl rfl rfl (fun c3 => ?_) (fun c3 => ?_)
      · refine AW.blk (amX0_isSweeper _) 11 1 (h' := hC mud car wal hol paid rain place str bro pen swe dri n q) (pc' := 23) (lv' := [(0, .ref 0), (1, .int s)]) (st' := [.int 0]) (L := []) rfl trivial ?_
        exact AW.iretE (amX0_isSweeper _) 12 hE rfl rfl (by first | rfl | exact narrow_b _ (by decide)) rfl rfl (by simp only [sSw, if_neg c1, if_neg c2, if_pos c3]) rfl
      · refine AW.blk (amX0_isSweeper _) 9 2 (h' := hC mud car wal hol paid rain place str bro pen swe dri n q) (pc' := 23) (lv' := [(0, .ref 0), (1, .int s)]) (st' := [.int 1]) (L := []) rfl trivial ?_
        exact AW.iretE (amX0_isSweeper _) 12 hE rfl rfl (by first | rfl | exact narrow_b _ (by decide)) rfl rfl (by simp only [sSw, if_neg c1, if_neg c2, if_neg c3]) rfl
set_option maxHeartbeats 1000000 in
theorem kX1_isCrossing (c : Int32) : AMet yX1_isCrossing cX1_isCrossing 1 (some .boolean) { frames := 0, cells := 0, slots := 0, locals := 0 } [.int c] ([]) (some (.int (sCr c))) ([]) := by
  refine AMet.of (by decide) rfl ?_
  intro G hR hE hI
  refine AW.blk (amX1_isCrossing _) 0 1 (h' := []) (pc' := 1) (lv' := [(0, .int c)]) (st' := [.int c]) (L := []) rfl trivial ?_
  refine AW.br (amX1_isCrossing _) 1 (tgt := 14) (C := c < 0) (C' := ¬ c < 0) (st' := []) rfl rfl rfl (fun c1 => ?_) (fun c1 => ?_)
  · refine AW.blk (amX1_isCrossing _) 7 1 (h' := []) (pc' := 15) (lv' := [(0, .int c)]) (st' := [.int 0]) (L := []) rfl trivial ?_
    exact AW.iretE (amX1_isCrossing _) 8 hE rfl rfl (by first | rfl | exact narrow_b _ (by decide)) rfl rfl (by simp only [sCr, if_pos c1]) rfl
  · refine AW.blk (amX1_isCrossing _) 2 2 (h' := []) (pc' := 7) (lv' := [(0, .int c)]) (st' := [.int 9, .int c]) (L := []) rfl trivial ?_
    refine AW.br (amX1_isCrossing _) 4 (tgt := 14) (C := 9 ≤ c) (C' := ¬ 9 ≤ c) (st' := []) rfl rfl rfl (fun c2 => ?_) (fun c2 => ?_)
    · refine AW.blk (amX1_isCrossing _) 7 1 (h' := []) (pc' := 15) (lv' := [(0, .int c)]) (st' := [.int 0]) (L := []) rfl trivial ?_
      exact AW.iretE (amX1_isCrossing _) 8 hE rfl rfl (by first | rfl | exact narrow_b _ (by decide)) rfl rfl (by simp only [sCr, if_neg c1, if_pos c2]) rfl
    · refine AW.blk (amX1_isCrossing _) 5 2 (h' := []) (pc' := 15) (lv' := [(0, .int c)]) (st' := [.int 1]) (L := []) rfl trivial ?_
      exact AW.iretE (amX1_isCrossing _) 8 hE rfl rfl (by first | rfl | exact narrow_b _ (by decide)) rfl rfl (by simp only [sCr, if_neg c1, if_neg c2]) rfl
/-- holdsPitch -/
def sHP (s n : Int32) (place hol : Nat → Int32) : Int32 := if sSw s n = 0 then 0 else if sCr (place s.toNatClampNeg) = 0 then 0 else if hol (place s.toNatClampNeg).toNatClampNeg = s then 1 else 0
set_option maxHeartbeats 1000000 in
theorem kX0_holdsPitch (mud car wal hol paid rain place str bro pen swe dri : Nat → Int32) (n q : Int32) (s : Int32) : AMet yX0_holdsPitch cX0_holdsPitch 2 (some .boolean) { frames := 1, cells := 0, slots := 0, locals := 21 } [.ref 0, .int s] (hC mud car wal hol paid rain place str bro pen swe dri n q) (some (.int (sHP s n place hol))) (hC mud car wal hol paid rain place str bro pen swe dri n q) := by
  refine AMet.of (by decide) rfl ?_
  intro G hR hE hI
  refine AW.blk (amX0_holdsPitch _) 0 2 (h' := hC mud car wal hol paid rain place str bro pen swe dri n q) (pc' := 2) (lv' := [(0, .ref 0), (1, .int s)]) (st' := [.int s, .ref 0]) (L := []) rfl trivial ?_
  refine AW.callV (amX0_holdsPitch _) 2 (kX0_isSweeper mud car wal hol paid rain place str bro pen swe dri n q s) rfl rfl [0, 1, 2, 3, 4, 5, 6, 7, 8, 9, 10, 11, 12] [] ykX0_isSweeper yiX0_isSweeper yvX0_isSweeper mlX0_61 rfl rfl rfl rfl hR ⟨Nat.le_of_ble_eq_true rfl, Nat.le_of_ble_eq_true rfl, Nat.le_of_ble_eq_true rfl, Nat.le_of_ble_eq_true rfl⟩ rfl rfl rfl rfl rfl (fun _ => rfl) (h1 := hC mud car wal hol paid rain place str bro pen swe dri n q) rfl (st' := [.int (sSw s n)]) rfl ?_
  refine AW.br (amX0_holdsPitch _) 3 (tgt := 39) (C := (sSw s n) = 0) (C' := ¬ (sSw s n) = 0) (st' := []) rfl rfl rfl (fun c1 => ?_) (fun c1 => ?_)
  · refine AW.blk (amX0_holdsPitch _) 21 1 (h' := hC mud car wal hol paid rain place str bro pen swe dri n q) (pc' := 40) (lv' := [(0, .ref 0), (1, .int s)]) (st' := [.int 0]) (L := []) rfl trivial ?_
    exact AW.iretE (amX0_holdsPitch _) 22 hE rfl rfl (by first | rfl | exact narrow_b _ (by decide)) rfl rfl (by simp only [sHP, if_pos c1]) rfl
  · refine AW.blk (amX0_holdsPitch _) 4 4 (h' := hC mud car wal hol paid rain place str bro pen swe dri n q) (pc' := 14) (lv' := [(0, .ref 0), (1, .int s)]) (st' := [.int (place s.toNatClampNeg)]) (L := [vp_in s 8]) rfl (sSw_in c1) ?_
    refine AW.callS (amX0_holdsPitch _) 8 (kX1_isCrossing (place s.toNatClampNeg)) [] [] ykX1_isCrossing ysX1_isCrossing mlX0_65 rfl rfl rfl rfl hR ⟨Nat.le_of_ble_eq_true rfl, Nat.le_of_ble_eq_true rfl, Nat.le_of_ble_eq_true rfl, Nat.le_of_ble_eq_true rfl⟩ rfl rfl rfl rfl rfl (fun _ => rfl) (h1 := hC mud car wal hol paid rain place str bro pen swe dri n q) rfl (st' := [.int (sCr (place s.toNatClampNeg))]) rfl ?_
    refine AW.br (amX0_holdsPitch _) 9 (tgt := 39) (C := (sCr (place s.toNatClampNeg)) = 0) (C' := ¬ (sCr (place s.toNatClampNeg)) = 0) (st' := []) rfl rfl rfl (fun c2 => ?_) (fun c2 => ?_)
    · refine AW.blk (amX0_holdsPitch _) 21 1 (h' := hC mud car wal hol paid rain place str bro pen swe dri n q) (pc' := 40) (lv' := [(0, .ref 0), (1, .int s)]) (st' := [.int 0]) (L := []) rfl trivial ?_
      exact AW.iretE (amX0_holdsPitch _) 22 hE rfl rfl (by first | rfl | exact narrow_b _ (by decide)) rfl rfl (by simp only [sHP, if_neg c1, if_pos c2]) rfl
    · refine AW.blk (amX0_holdsPitch _) 10 8 (h' := hC mud car wal hol paid rain place str bro pen swe dri n q) (pc' := 32) (lv' := [(0, .ref 0), (1, .int s)]) (st' := [.int s, .int (hol (place s.toNatClampNeg).toNatClampNeg)]) (L := [vp_in s 8, vp_in (place s.toNatClampNeg) 9]) rfl ⟨(sSw_in c1), (sCr_in c2)⟩ ?_
      refine AW.br (amX0_holdsPitch _) 18 (tgt := 39) (C := ¬ (hol (place s.toNatClampNeg).toNatClampNeg) = s) (C' := (hol (place s.toNatClampNeg).toNatClampNeg) = s) (st' := []) rfl rfl rfl (fun c3 => ?_) (fun c3 => ?_)
      · refine AW.blk (amX0_holdsPitch _) 21 1 (h' := hC mud car wal hol paid rain place str bro pen swe dri n q) (pc' := 40) (lv' := [(0, .ref 0), (1, .int s)]) (st' := [.int 0]) (L := []) rfl trivial ?_
        exact AW.iretE (amX0_holdsPitch _) 22 hE rfl rfl (by first | rfl | exact narrow_b _ (by decide)) rfl rfl (by simp only [sHP, if_neg c1, if_neg c2, if_neg c3]) rfl
      · refine AW.blk (amX0_holdsPitch _) 19 2 (h' := hC mud car wal hol paid rain place str bro pen swe dri n q) (pc' := 40) (lv' := [(0, .ref 0), (1, .int s)]) (st' := [.int 1]) (L := []) rfl trivial ?_
        exact AW.iretE (amX0_holdsPitch _) 22 hE rfl rfl (by first | rfl | exact narrow_b _ (by decide)) rfl rfl (by simp only [sHP, if_neg c1, if_neg c2, if_pos c3]) rfl
/-- reach -/
def sRe (s n : Int32) (str bro : Nat → Int32) : Int32 := if sSw s n = 0 then 0 else str s.toNatClampNeg + bro s.toNatClampNeg / 8
set_option maxHeartbeats 1000000 in
theorem kX0_reach (mud car wal hol paid rain place str bro pen swe dri : Nat → Int32) (n q : Int32) (s : Int32) : AMet yX0_reach cX0_reach 2 (some .int) { frames := 1, cells := 0, slots := 0, locals := 21 } [.ref 0, .int s] (hC mud car wal hol paid rain place str bro pen swe dri n q) (some (.int (sRe s n str bro))) (hC mud car wal hol paid rain place str bro pen swe dri n q) := by
  refine AMet.of (by decide) rfl ?_
  intro G hR hE hI
  refine AW.blk (amX0_reach _) 0 2 (h' := hC mud car wal hol paid rain place str bro pen swe dri n q) (pc' := 2) (lv' := [(0, .ref 0), (1, .int s)]) (st' := [.int s, .ref 0]) (L := []) rfl trivial ?_
  refine AW.callV (amX0_reach _) 2 (kX0_isSweeper mud car wal hol paid rain place str bro pen swe dri n q s) rfl rfl [0, 1, 2, 3, 4, 5, 6, 7, 8, 9, 10, 11, 12] [] ykX0_isSweeper yiX0_isSweeper yvX0_isSweeper mlX0_61 rfl rfl rfl rfl hR ⟨Nat.le_of_ble_eq_true rfl, Nat.le_of_ble_eq_true rfl, Nat.le_of_ble_eq_true rfl, Nat.le_of_ble_eq_true rfl⟩ rfl rfl rfl rfl rfl (fun _ => rfl) (h1 := hC mud car wal hol paid rain place str bro pen swe dri n q) rfl (st' := [.int (sSw s n)]) rfl ?_
  refine AW.br (amX0_reach _) 3 (tgt := 27) (C := (sSw s n) = 0) (C' := ¬ (sSw s n) = 0) (st' := []) rfl rfl rfl (fun c1 => ?_) (fun c1 => ?_)
  · refine AW.blk (amX0_reach _) 16 1 (h' := hC mud car wal hol paid rain place str bro pen swe dri n q) (pc' := 28) (lv' := [(0, .ref 0), (1, .int s)]) (st' := [.int 0]) (L := []) rfl trivial ?_
    exact AW.iretE (amX0_reach _) 17 hE rfl rfl (by first | rfl | exact narrow_b _ (by decide)) rfl rfl (by simp only [sRe, if_pos c1]) rfl
  · refine AW.blk (amX0_reach _) 4 12 (h' := hC mud car wal hol paid rain place str bro pen swe dri n q) (pc' := 28) (lv' := [(0, .ref 0), (1, .int s)]) (st' := [.int ((str s.toNatClampNeg) + ((bro s.toNatClampNeg) / 8))]) (L := [vp_in s 8, vp_in s 8, ¬ 8 = 0]) rfl ⟨(sSw_in c1), (sSw_in c1), (show ¬ (8 : Int32) = 0 by decide)⟩ ?_
    exact AW.iretE (amX0_reach _) 17 hE rfl rfl (by first | rfl | exact narrow_b _ (by decide)) rfl rfl (by simp only [sRe, if_neg c1]) rfl
/-- addMud -/
def sAM (c m : Int32) (mud : Nat → Int32) : Nat → Int32 := if sCr c = 0 then mud else upd mud c.toNatClampNeg (imin 50 (mud c.toNatClampNeg + m))
set_option maxHeartbeats 1000000 in
theorem kX0_addMud (mud car wal hol paid rain place str bro pen swe dri : Nat → Int32) (n q : Int32) (c m : Int32) : AMet yX0_addMud cX0_addMud 3 none { frames := 1, cells := 0, slots := 0, locals := 40 } [.ref 0, .int c, .int m] (hC mud car wal hol paid rain place str bro pen swe dri n q) none (hC (sAM c m mud) car wal hol paid rain place str bro pen swe dri n q) := by
  refine AMet.of (by decide) rfl ?_
  intro G hR hE hI
  refine AW.blk (amX0_addMud _) 0 1 (h' := hC mud car wal hol paid rain place str bro pen swe dri n q) (pc' := 1) (lv' := [(0, .ref 0), (1, .int c), (2, .int m)]) (st' := [.int c]) (L := []) rfl trivial ?_
  refine AW.callS (amX0_addMud _) 1 (kX1_isCrossing c) [] [] ykX1_isCrossing ysX1_isCrossing mlX0_65 rfl rfl rfl rfl hR ⟨Nat.le_of_ble_eq_true rfl, Nat.le_of_ble_eq_true rfl, Nat.le_of_ble_eq_true rfl, Nat.le_of_ble_eq_true rfl⟩ rfl rfl rfl rfl rfl (fun _ => rfl) (h1 := hC mud car wal hol paid rain place str bro pen swe dri n q) rfl (st' := [.int (sCr c)]) rfl ?_
  refine AW.br (amX0_addMud _) 2 (tgt := 26) (C := (sCr c) = 0) (C' := ¬ (sCr c) = 0) (st' := []) rfl rfl rfl (fun c1 => ?_) (fun c1 => ?_)
  · exact AW.vretE (amX0_addMud _) 15 hE rfl rfl rfl rfl (by simp only [sAM, if_pos c1])
  · refine AW.blk (amX0_addMud _) 3 10 (h' := hC mud car wal hol paid rain place str bro pen swe dri n q) (pc' := 22) (lv' := [(0, .ref 0), (1, .int c), (2, .int m)]) (st' := [.int ((mud c.toNatClampNeg) + m), .int 50, .int c, .ref 1]) (L := [vp_in c 9]) rfl (sCr_in c1) ?_
    refine AW.mmin (amX0_addMud _) 13 rfl kmmX0_68 hR rfl ⟨Nat.le_of_ble_eq_true rfl, Nat.le_of_ble_eq_true rfl, Nat.le_of_ble_eq_true rfl, Nat.le_of_ble_eq_true rfl⟩ ?_
    refine AW.blk (amX0_addMud _) 14 1 (h' := hC (upd mud c.toNatClampNeg (imin 50 ((mud c.toNatClampNeg) + m))) car wal hol paid rain place str bro pen swe dri n q) (pc' := 26) (lv' := [(0, .ref 0), (1, .int c), (2, .int m)]) (st' := []) (L := [vp_in c 9]) rfl (sCr_in c1) ?_
    exact AW.vretE (amX0_addMud _) 15 hE rfl rfl rfl rfl (by simp only [sAM, if_neg c1])
/-- wage -/
def sWa (c : Int32) (mud wal : Nat → Int32) : Int32 := if sCr c = 0 then 0 else if mud c.toNatClampNeg ≤ 15 then if 5 < mud c.toNatClampNeg then wal c.toNatClampNeg / 5 else wal c.toNatClampNeg / 2 else 0
set_option maxHeartbeats 1000000 in
theorem kX0_wage (mud car wal hol paid rain place str bro pen swe dri : Nat → Int32) (n q : Int32) (c : Int32) : AMet yX0_wage cX0_wage 2 (some .int) { frames := 1, cells := 0, slots := 0, locals := 20 } [.ref 0, .int c] (hC mud car wal hol paid rain place str bro pen swe dri n q) (some (.int (sWa c mud wal))) (hC mud car wal hol paid rain place str bro pen swe dri n q) := by
  refine AMet.of (by decide) rfl ?_
  intro G hR hE hI
  refine AW.blk (amX0_wage _) 0 1 (h' := hC mud car wal hol paid rain place str bro pen swe dri n q) (pc' := 1) (lv' := [(0, .ref 0), (1, .int c)]) (st' := [.int c]) (L := []) rfl trivial ?_
  refine AW.callS (amX0_wage _) 1 (kX1_isCrossing c) [] [] ykX1_isCrossing ysX1_isCrossing mlX0_65 rfl rfl rfl rfl hR ⟨Nat.le_of_ble_eq_true rfl, Nat.le_of_ble_eq_true rfl, Nat.le_of_ble_eq_true rfl, Nat.le_of_ble_eq_true rfl⟩ rfl rfl rfl rfl rfl (fun _ => rfl) (h1 := hC mud car wal hol paid rain place str bro pen swe dri n q) rfl (st' := [.int (sCr c)]) rfl ?_
  refine AW.br (amX0_wage _) 2 (tgt := 18) (C := (sCr c) = 0) (C' := ¬ (sCr c) = 0) (st' := []) rfl rfl rfl (fun c1 => ?_) (fun c1 => ?_)
  · refine AW.blk (amX0_wage _) 9 1 (h' := hC mud car wal hol paid rain place str bro pen swe dri n q) (pc' := 19) (lv' := [(0, .ref 0), (1, .int c)]) (st' := [.int 0]) (L := []) rfl trivial ?_
    exact AW.iretE (amX0_wage _) 10 hE rfl rfl (by first | rfl | exact narrow_b _ (by decide)) rfl rfl (by simp only [sWa, if_pos c1]) rfl
  · refine AW.blk (amX0_wage _) 3 5 (h' := hC mud car wal hol paid rain place str bro pen swe dri n q) (pc' := 15) (lv' := [(0, .ref 0), (1, .int c)]) (st' := [.int 15, .int (mud c.toNatClampNeg)]) (L := [vp_in c 9]) rfl (sCr_in c1) ?_
    refine AW.br (amX0_wage _) 8 (tgt := 20) (C := (mud c.toNatClampNeg) ≤ 15) (C' := ¬ (mud c.toNatClampNeg) ≤ 15) (st' := []) rfl rfl rfl (fun c2 => ?_) (fun c2 => ?_)
    · refine AW.blk (amX0_wage _) 11 5 (h' := hC mud car wal hol paid rain place str bro pen swe dri n q) (pc' := 27) (lv' := [(0, .ref 0), (1, .int c)]) (st' := [.int 5, .int (mud c.toNatClampNeg)]) (L := [vp_in c 9]) rfl (sCr_in c1) ?_
      refine AW.br (amX0_wage _) 16 (tgt := 41) (C := 5 < (mud c.toNatClampNeg)) (C' := ¬ 5 < (mud c.toNatClampNeg)) (st' := []) rfl rfl rfl (fun c3 => ?_) (fun c3 => ?_)
      · refine AW.blk (amX0_wage _) 24 6 (h' := hC mud car wal hol paid rain place str bro pen swe dri n q) (pc' := 49) (lv' := [(0, .ref 0), (1, .int c)]) (st' := [.int ((wal c.toNatClampNeg) / 5)]) (L := [vp_in c 9, ¬ 5 = 0]) rfl ⟨(sCr_in c1), (show ¬ (5 : Int32) = 0 by decide)⟩ ?_
        exact AW.iretE (amX0_wage _) 30 hE rfl rfl (by first | rfl | exact narrow_b _ (by decide)) rfl rfl (by simp only [sWa, if_neg c1, if_pos c2, if_pos c3]) rfl
      · refine AW.blk (amX0_wage _) 17 7 (h' := hC mud car wal hol paid rain place str bro pen swe dri n q) (pc' := 49) (lv' := [(0, .ref 0), (1, .int c)]) (st' := [.int ((wal c.toNatClampNeg) / 2)]) (L := [vp_in c 9, ¬ 2 = 0]) rfl ⟨(sCr_in c1), (show ¬ (2 : Int32) = 0 by decide)⟩ ?_
        exact AW.iretE (amX0_wage _) 30 hE rfl rfl (by first | rfl | exact narrow_b _ (by decide)) rfl rfl (by simp only [sWa, if_neg c1, if_pos c2, if_neg c3]) rfl
    · refine AW.blk (amX0_wage _) 9 1 (h' := hC mud car wal hol paid rain place str bro pen swe dri n q) (pc' := 19) (lv' := [(0, .ref 0), (1, .int c)]) (st' := [.int 0]) (L := []) rfl trivial ?_
      exact AW.iretE (amX0_wage _) 10 hE rfl rfl (by first | rfl | exact narrow_b _ (by decide)) rfl rfl (by simp only [sWa, if_neg c1, if_neg c2]) rfl
/-- admit -/
def sAd (n : Int32) : Int32 := if n < 0 then -1 else if n < 8 then n else -1
set_option maxHeartbeats 1000000 in
theorem kX0_admit (mud car wal hol paid rain place str bro pen swe dri : Nat → Int32) (n q : Int32) (c s : Int32) (h1 : ¬ n < 0) (h2 : n < 8) : AMet yX0_admit cX0_admit 4 (some .int) { frames := 0, cells := 0, slots := 0, locals := 0 } [.ref 0, .int c, .int s] (hC mud car wal hol paid rain place str bro pen swe dri n q) (some (.int n)) (hC mud car wal hol paid rain (upd place n.toNatClampNeg c) (upd str n.toNatClampNeg s) (upd bro n.toNatClampNeg 40) pen swe dri (n + 1) q) := by
  refine AMet.of (by decide) rfl ?_
  intro G hR hE hI
  refine AW.blk (amX0_admit _) 0 4 (h' := hC mud car wal hol paid rain place str bro pen swe dri n q) (pc' := 6) (lv' := [(3, .int n), (0, .ref 0), (1, .int c), (2, .int s)]) (st' := [.int n]) (L := []) rfl trivial ?_
  refine AW.br (amX0_admit _) 4 (tgt := 15) (C := n < 0) (C' := ¬ n < 0) (st' := []) rfl rfl rfl (fun c1 => absurd c1 h1) (fun c1 => ?_)
  refine AW.blk (amX0_admit _) 5 2 (h' := hC mud car wal hol paid rain place str bro pen swe dri n q) (pc' := 12) (lv' := [(3, .int n), (0, .ref 0), (1, .int c), (2, .int s)]) (st' := [.int 8, .int n]) (L := []) rfl trivial ?_
  refine AW.br (amX0_admit _) 7 (tgt := 17) (C := n < 8) (C' := ¬ n < 8) (st' := []) rfl rfl rfl (fun c2 => ?_) (fun c2 => absurd h2 c2)
  refine AW.blk (amX0_admit _) 10 21 (h' := hC mud car wal hol paid rain (upd place n.toNatClampNeg c) (upd str n.toNatClampNeg s) (upd bro n.toNatClampNeg 40) pen swe dri (n + 1) q) (pc' := 47) (lv' := [(3, .int n), (0, .ref 0), (1, .int c), (2, .int s)]) (st' := [.int n]) (L := [vp_in n 8, vp_in n 8, vp_in n 8]) rfl ⟨(vp_in_of_lt (M := 8) (by decide) h1 (by intro z; exact absurd h2 (Int32.not_lt.mpr z))), (vp_in_of_lt (M := 8) (by decide) h1 (by intro z; exact absurd h2 (Int32.not_lt.mpr z))), (vp_in_of_lt (M := 8) (by decide) h1 (by intro z; exact absurd h2 (Int32.not_lt.mpr z)))⟩ ?_
  exact AW.iretE (amX0_admit _) 31 hE rfl rfl (by first | rfl | exact narrow_b _ (by decide)) rfl rfl (rfl) rfl
/-- moveTo -/
def sMoP (s c n : Int32) (place : Nat → Int32) : Nat → Int32 := if sSw s n = 0 then place else upd place s.toNatClampNeg c
def sMoH (s n : Int32) (place hol : Nat → Int32) : Nat → Int32 := if sSw s n = 0 then hol else if sCr (place s.toNatClampNeg) = 0 then hol else if hol (place s.toNatClampNeg).toNatClampNeg = s then upd hol (place s.toNatClampNeg).toNatClampNeg (-1) else hol
set_option maxHeartbeats 1000000 in
theorem kX0_moveTo (mud car wal hol paid rain place str bro pen swe dri : Nat → Int32) (n q : Int32) (s c : Int32) : AMet yX0_moveTo cX0_moveTo 4 none { frames := 1, cells := 0, slots := 0, locals := 21 } [.ref 0, .int s, .int c] (hC mud car wal hol paid rain place str bro pen swe dri n q) none (hC mud car wal (sMoH s n place hol) paid rain (sMoP s c n place) str bro pen swe dri n q) := by
  refine AMet.of (by decide) rfl ?_
  intro G hR hE hI
  refine AW.blk (amX0_moveTo _) 0 2 (h' := hC mud car wal hol paid rain place str bro pen swe dri n q) (pc' := 2) (lv' := [(0, .ref 0), (1, .int s), (2, .int c)]) (st' := [.int s, .ref 0]) (L := []) rfl trivial ?_
  refine AW.callV (amX0_moveTo _) 2 (kX0_isSweeper mud car wal hol paid rain place str bro pen swe dri n q s) rfl rfl [0, 1, 2, 3, 4, 5, 6, 7, 8, 9, 10, 11, 12] [] ykX0_isSweeper yiX0_isSweeper yvX0_isSweeper mlX0_61 rfl rfl rfl rfl hR ⟨Nat.le_of_ble_eq_true rfl, Nat.le_of_ble_eq_true rfl, Nat.le_of_ble_eq_true rfl, Nat.le_of_ble_eq_true rfl⟩ rfl rfl rfl rfl rfl (fun _ => rfl) (h1 := hC mud car wal hol paid rain place str bro pen swe dri n q) rfl (st' := [.int (sSw s n)]) rfl ?_
  refine AW.br (amX0_moveTo _) 3 (tgt := 9) (C := ¬ (sSw s n) = 0) (C' := (sSw s n) = 0) (st' := []) rfl rfl rfl (fun c1 => ?_) (fun c1 => ?_)
  · refine AW.blk (amX0_moveTo _) 5 6 (h' := hC mud car wal hol paid rain place str bro pen swe dri n q) (pc' := 17) (lv' := [(3, .int (place s.toNatClampNeg)), (0, .ref 0), (1, .int s), (2, .int c)]) (st' := [.int (place s.toNatClampNeg)]) (L := [vp_in s 8]) rfl (sSw_in c1) ?_
    refine AW.callS (amX0_moveTo _) 11 (kX1_isCrossing (place s.toNatClampNeg)) [] [] ykX1_isCrossing ysX1_isCrossing mlX0_65 rfl rfl rfl rfl hR ⟨Nat.le_of_ble_eq_true rfl, Nat.le_of_ble_eq_true rfl, Nat.le_of_ble_eq_true rfl, Nat.le_of_ble_eq_true rfl⟩ rfl rfl rfl rfl rfl (fun _ => rfl) (h1 := hC mud car wal hol paid rain place str bro pen swe dri n q) rfl (st' := [.int (sCr (place s.toNatClampNeg))]) rfl ?_
    refine AW.br (amX0_moveTo _) 12 (tgt := 40) (C := (sCr (place s.toNatClampNeg)) = 0) (C' := ¬ (sCr (place s.toNatClampNeg)) = 0) (st' := []) rfl rfl rfl (fun c2 => ?_) (fun c2 => ?_)
    · refine AW.blk (amX0_moveTo _) 24 5 (h' := hC mud car wal hol paid rain (upd place s.toNatClampNeg c) str bro pen swe dri n q) (pc' := 47) (lv' := [(3, .int (place s.toNatClampNeg)), (0, .ref 0), (1, .int s), (2, .int c)]) (st' := []) (L := [vp_in s 8]) rfl (sSw_in c1) ?_
      exact AW.vretE (amX0_moveTo _) 29 hE rfl rfl rfl rfl (by simp only [sMoP, sMoH, if_neg c1, if_pos c2])
    · refine AW.blk (amX0_moveTo _) 13 5 (h' := hC mud car wal hol paid rain place str bro pen swe dri n q) (pc' := 30) (lv' := [(3, .int (place s.toNatClampNeg)), (0, .ref 0), (1, .int s), (2, .int c)]) (st' := [.int s, .int (hol (place s.toNatClampNeg).toNatClampNeg)]) (L := [vp_in (place s.toNatClampNeg) 9]) rfl (sCr_in c2) ?_
      refine AW.br (amX0_moveTo _) 18 (tgt := 40) (C := ¬ (hol (place s.toNatClampNeg).toNatClampNeg) = s) (C' := (hol (place s.toNatClampNeg).toNatClampNeg) = s) (st' := []) rfl rfl rfl (fun c3 => ?_) (fun c3 => ?_)
      · refine AW.blk (amX0_moveTo _) 24 5 (h' := hC mud car wal hol paid rain (upd place s.toNatClampNeg c) str bro pen swe dri n q) (pc' := 47) (lv' := [(3, .int (place s.toNatClampNeg)), (0, .ref 0), (1, .int s), (2, .int c)]) (st' := []) (L := [vp_in s 8]) rfl (sSw_in c1) ?_
        exact AW.vretE (amX0_moveTo _) 29 hE rfl rfl rfl rfl (by simp only [sMoP, sMoH, if_neg c1, if_neg c2, if_neg c3])
      · refine AW.blk (amX0_moveTo _) 19 10 (h' := hC mud car wal (upd hol (place s.toNatClampNeg).toNatClampNeg (-1)) paid rain (upd place s.toNatClampNeg c) str bro pen swe dri n q) (pc' := 47) (lv' := [(3, .int (place s.toNatClampNeg)), (0, .ref 0), (1, .int s), (2, .int c)]) (st' := []) (L := [vp_in (place s.toNatClampNeg) 9, vp_in s 8]) rfl ⟨(sCr_in c2), (sSw_in c1)⟩ ?_
        exact AW.vretE (amX0_moveTo _) 29 hE rfl rfl rfl rfl (by simp only [sMoP, sMoH, if_neg c1, if_neg c2, if_pos c3])
  · exact AW.vretE (amX0_moveTo _) 4 hE rfl rfl rfl rfl (by simp only [sMoP, sMoH, if_pos c1])
end
section
/-- neighbour -/
def sNb (c : Int32) : Nat → Int32
  | 0 => if c - c / 3 * 3 ≤ 0 then -1 else c - 1
  | 1 => if 2 ≤ c - c / 3 * 3 then -1 else c + 1
  | 2 => if c < 3 then -1 else c - 3
  | _ => if 6 ≤ c then -1 else c + 3
set_option maxHeartbeats 1000000 in
theorem kX1_neighbour_0 (c : Int32) : AMet yX1_neighbour cX1_neighbour 2 (some .int) { frames := 0, cells := 0, slots := 0, locals := 0 } [.int c, .int (nI 0)] ([]) (some (.int (sNb c 0))) ([]) := by
  refine AMet.of (by decide) rfl ?_
  intro G hR hE hI
  refine AW.blk (amX1_neighbour _) 0 1 (h' := []) (pc' := 1) (lv' := [(0, .int c), (1, .int (nI 0))]) (st' := [.int (nI 0)]) (L := []) rfl trivial ?_
  refine AW.swIn (tgt := 28) (off := 27) swX1_neighbour_1 (by decide) (by decide) rfl rfl ?_
  refine AW.blk (amX1_neighbour _) 1 3 (h' := []) (pc' := 31) (lv' := [(0, .int c), (1, .int (nI 0))]) (st' := [.int (c - c / 3 * 3)]) (L := [¬ 3 = 0]) rfl (show ¬ (3 : Int32) = 0 by decide) ?_
  refine AW.br (amX1_neighbour _) 4 (tgt := 40) (C := (c - c / 3 * 3) ≤ 0) (C' := ¬ (c - c / 3 * 3) ≤ 0) (st' := []) rfl rfl rfl (fun c1 => ?_) (fun c1 => ?_)
  · refine AW.blk (amX1_neighbour _) 9 1 (h' := []) (pc' := 41) (lv' := [(0, .int c), (1, .int (nI 0))]) (st' := [.int ((-1))]) (L := []) rfl trivial ?_
    exact AW.iretE (amX1_neighbour _) 10 hE rfl rfl (by first | rfl | exact narrow_b _ (by decide)) rfl rfl (by simp only [sNb, if_pos c1]) rfl
  · refine AW.blk (amX1_neighbour _) 5 4 (h' := []) (pc' := 41) (lv' := [(0, .int c), (1, .int (nI 0))]) (st' := [.int (c - 1)]) (L := []) rfl trivial ?_
    exact AW.iretE (amX1_neighbour _) 10 hE rfl rfl (by first | rfl | exact narrow_b _ (by decide)) rfl rfl (by simp only [sNb, if_neg c1]) rfl
set_option maxHeartbeats 1000000 in
theorem kX1_neighbour_1 (c : Int32) : AMet yX1_neighbour cX1_neighbour 2 (some .int) { frames := 0, cells := 0, slots := 0, locals := 0 } [.int c, .int (nI 1)] ([]) (some (.int (sNb c 1))) ([]) := by
  refine AMet.of (by decide) rfl ?_
  intro G hR hE hI
  refine AW.blk (amX1_neighbour _) 0 1 (h' := []) (pc' := 1) (lv' := [(0, .int c), (1, .int (nI 1))]) (st' := [.int (nI 1)]) (L := []) rfl trivial ?_
  refine AW.swIn (tgt := 42) (off := 41) swX1_neighbour_1 (by decide) (by decide) rfl rfl ?_
  refine AW.blk (amX1_neighbour _) 11 4 (h' := []) (pc' := 46) (lv' := [(0, .int c), (1, .int (nI 1))]) (st' := [.int 2, .int (c - c / 3 * 3)]) (L := [¬ 3 = 0]) rfl (show ¬ (3 : Int32) = 0 by decide) ?_
  refine AW.br (amX1_neighbour _) 15 (tgt := 55) (C := 2 ≤ (c - c / 3 * 3)) (C' := ¬ 2 ≤ (c - c / 3 * 3)) (st' := []) rfl rfl rfl (fun c1 => ?_) (fun c1 => ?_)
  · refine AW.blk (amX1_neighbour _) 20 1 (h' := []) (pc' := 56) (lv' := [(0, .int c), (1, .int (nI 1))]) (st' := [.int ((-1))]) (L := []) rfl trivial ?_
    exact AW.iretE (amX1_neighbour _) 21 hE rfl rfl (by first | rfl | exact narrow_b _ (by decide)) rfl rfl (by simp only [sNb, if_pos c1]) rfl
  · refine AW.blk (amX1_neighbour _) 16 4 (h' := []) (pc' := 56) (lv' := [(0, .int c), (1, .int (nI 1))]) (st' := [.int (c + 1)]) (L := []) rfl trivial ?_
    exact AW.iretE (amX1_neighbour _) 21 hE rfl rfl (by first | rfl | exact narrow_b _ (by decide)) rfl rfl (by simp only [sNb, if_neg c1]) rfl
set_option maxHeartbeats 1000000 in
theorem kX1_neighbour_2 (c : Int32) : AMet yX1_neighbour cX1_neighbour 2 (some .int) { frames := 0, cells := 0, slots := 0, locals := 0 } [.int c, .int (nI 2)] ([]) (some (.int (sNb c 2))) ([]) := by
  refine AMet.of (by decide) rfl ?_
  intro G hR hE hI
  refine AW.blk (amX1_neighbour _) 0 1 (h' := []) (pc' := 1) (lv' := [(0, .int c), (1, .int (nI 2))]) (st' := [.int (nI 2)]) (L := []) rfl trivial ?_
  refine AW.swIn (tgt := 57) (off := 56) swX1_neighbour_1 (by decide) (by decide) rfl rfl ?_
  refine AW.blk (amX1_neighbour _) 22 2 (h' := []) (pc' := 59) (lv' := [(0, .int c), (1, .int (nI 2))]) (st' := [.int 3, .int c]) (L := []) rfl trivial ?_
  refine AW.br (amX1_neighbour _) 24 (tgt := 68) (C := c < 3) (C' := ¬ c < 3) (st' := []) rfl rfl rfl (fun c1 => ?_) (fun c1 => ?_)
  · refine AW.blk (amX1_neighbour _) 29 1 (h' := []) (pc' := 69) (lv' := [(0, .int c), (1, .int (nI 2))]) (st' := [.int ((-1))]) (L := []) rfl trivial ?_
    exact AW.iretE (amX1_neighbour _) 30 hE rfl rfl (by first | rfl | exact narrow_b _ (by decide)) rfl rfl (by simp only [sNb, if_pos c1]) rfl
  · refine AW.blk (amX1_neighbour _) 25 4 (h' := []) (pc' := 69) (lv' := [(0, .int c), (1, .int (nI 2))]) (st' := [.int (c - 3)]) (L := []) rfl trivial ?_
    exact AW.iretE (amX1_neighbour _) 30 hE rfl rfl (by first | rfl | exact narrow_b _ (by decide)) rfl rfl (by simp only [sNb, if_neg c1]) rfl
set_option maxHeartbeats 1000000 in
theorem kX1_neighbour_3 (c : Int32) : AMet yX1_neighbour cX1_neighbour 2 (some .int) { frames := 0, cells := 0, slots := 0, locals := 0 } [.int c, .int (nI 3)] ([]) (some (.int (sNb c 3))) ([]) := by
  refine AMet.of (by decide) rfl ?_
  intro G hR hE hI
  refine AW.blk (amX1_neighbour _) 0 1 (h' := []) (pc' := 1) (lv' := [(0, .int c), (1, .int (nI 3))]) (st' := [.int (nI 3)]) (L := []) rfl trivial ?_
  refine AW.swOut (tgt := 70) swX1_neighbour_1 (by decide) rfl ?_
  refine AW.blk (amX1_neighbour _) 31 2 (h' := []) (pc' := 73) (lv' := [(0, .int c), (1, .int (nI 3))]) (st' := [.int 6, .int c]) (L := []) rfl trivial ?_
  refine AW.br (amX1_neighbour _) 33 (tgt := 82) (C := 6 ≤ c) (C' := ¬ 6 ≤ c) (st' := []) rfl rfl rfl (fun c1 => ?_) (fun c1 => ?_)
  · refine AW.blk (amX1_neighbour _) 38 1 (h' := []) (pc' := 83) (lv' := [(0, .int c), (1, .int (nI 3))]) (st' := [.int ((-1))]) (L := []) rfl trivial ?_
    exact AW.iretE (amX1_neighbour _) 39 hE rfl rfl (by first | rfl | exact narrow_b _ (by decide)) rfl rfl (by simp only [sNb, if_pos c1]) rfl
  · refine AW.blk (amX1_neighbour _) 34 4 (h' := []) (pc' := 83) (lv' := [(0, .int c), (1, .int (nI 3))]) (st' := [.int (c + 3)]) (L := []) rfl trivial ?_
    exact AW.iretE (amX1_neighbour _) 39 hE rfl rfl (by first | rfl | exact narrow_b _ (by decide)) rfl rfl (by simp only [sNb, if_neg c1]) rfl
theorem kX1_neighbour (c : Int32) : ∀ (d : Nat), d < 4 → AMet yX1_neighbour cX1_neighbour 2 (some .int) { frames := 0, cells := 0, slots := 0, locals := 0 } [.int c, .int (nI d)] [] (some (.int (sNb c d))) []
  | 0, _ => kX1_neighbour_0 c
  | 1, _ => kX1_neighbour_1 c
  | 2, _ => kX1_neighbour_2 c
  | 3, _ => kX1_neighbour_3 c
  | n + 4, h => absurd h (by omega)
/-- busiestNeighbour -/
def sBN1 (c : Int32) (wal : Nat → Int32) (d : Nat) (a : Int32 × Int32) : Int32 × Int32 := if sCr (sNb c d) = 0 then a else if wal (sNb c d).toNatClampNeg ≤ a.2 then a else (sNb c d, wal (sNb c d).toNatClampNeg)
def sBN (c : Int32) (wal : Nat → Int32) : Int32 := (lpN (sBN1 c wal) 4 0 (c, -1)).1
set_option maxHeartbeats 1000000 in
theorem kX0_busiestNeighbour (mud car wal hol paid rain place str bro pen swe dri : Nat → Int32) (n q : Int32) (c : Int32) : AMet yX0_busiestNeighbour cX0_busiestNeighbour 6 (some .int) { frames := 1, cells := 0, slots := 0, locals := 21 } [.ref 0, .int c] (hC mud car wal hol paid rain place str bro pen swe dri n q) (some (.int (sBN c wal))) (hC mud car wal hol paid rain place str bro pen swe dri n q) := by
  refine AMet.of (by decide) rfl ?_
  intro G hR hE hI
  have E : ∀ (b m : Int32), (b, m) = lpN (sBN1 c wal) 4 0 (c, -1) → AW G (yX0_busiestNeighbour.cls, cX0_busiestNeighbour, 6, 13) (hC mud car wal hol paid rain place str bro pen swe dri n q) 0 0 57 [(1, .int c), (2, .int b), (3, .int m), (0, .ref 0)] [] := by
    intro b m hf
    refine AW.blk (amX0_busiestNeighbour _) 31 1 (h' := hC mud car wal hol paid rain place str bro pen swe dri n q) (pc' := 58) (lv' := [(1, .int c), (2, .int b), (3, .int m), (0, .ref 0)]) (st' := [.int b]) (L := []) rfl trivial ?_
    exact AW.iretE (amX0_busiestNeighbour _) 32 hE rfl rfl (by first | rfl | exact narrow_b _ (by decide)) rfl rfl (by rw [sBN, ← hf]) (by first | rfl | (rw [sBN, ← hf]))
  have K : ∀ (k i : Nat) (b : Int32) (m : Int32), i + k = 4 → lpN (sBN1 c wal) k i (b, m) = lpN (sBN1 c wal) 4 0 (c, -1) → AW G (yX0_busiestNeighbour.cls, cX0_busiestNeighbour, 6, 13) (hC mud car wal hol paid rain place str bro pen swe dri n q) 0 0 7 [(4, .int (nI i)), (1, .int c), (2, .int b), (3, .int m), (0, .ref 0)] [] := by
    intro k
    induction k with
    | zero =>
      intro i b m hi hf
      refine AW.blk (amX0_busiestNeighbour _) 6 2 (h' := hC mud car wal hol paid rain place str bro pen swe dri n q) (pc' := 10) (lv' := [(4, .int (nI i)), (1, .int c), (2, .int b), (3, .int m), (0, .ref 0)]) (st' := [.int 4, .int (nI i)]) (L := []) rfl trivial ?_
      refine AW.br (amX0_busiestNeighbour _) 8 (tgt := 57) (C := 4 ≤ (nI i)) (C' := ¬ 4 ≤ (nI i)) (st' := []) rfl rfl rfl (fun c1 => ?_) (fun c1 => absurd (nI_le (a := 4) (b := i) (by omega) (by omega)) c1)
      refine AW.pick [1, 2, 3, 4] (lv' := [(1, .int c), (2, .int b), (3, .int m), (0, .ref 0)]) rfl ?_
      exact E _ _ hf
    | succ k ih =>
      intro i b m hi hf
      refine AW.blk (amX0_busiestNeighbour _) 6 2 (h' := hC mud car wal hol paid rain place str bro pen swe dri n q) (pc' := 10) (lv' := [(4, .int (nI i)), (1, .int c), (2, .int b), (3, .int m), (0, .ref 0)]) (st' := [.int 4, .int (nI i)]) (L := []) rfl trivial ?_
      refine AW.br (amX0_busiestNeighbour _) 8 (tgt := 57) (C := 4 ≤ (nI i)) (C' := ¬ 4 ≤ (nI i)) (st' := []) rfl rfl rfl (fun c1 => absurd c1 (nI_ge (a := i) (b := 4) (by omega) (by decide))) (fun c1 => ?_)
      refine AW.blk (amX0_busiestNeighbour _) 9 2 (h' := hC mud car wal hol paid rain place str bro pen swe dri n q) (pc' := 16) (lv' := [(4, .int (nI i)), (1, .int c), (2, .int b), (3, .int m), (0, .ref 0)]) (st' := [.int (nI i), .int c]) (L := []) rfl trivial ?_
      refine AW.callS (amX0_busiestNeighbour _) 11 (kX1_neighbour c i (by omega)) [] [] ykX1_neighbour ysX1_neighbour mlX0_108 rfl rfl rfl rfl hR ⟨Nat.le_of_ble_eq_true rfl, Nat.le_of_ble_eq_true rfl, Nat.le_of_ble_eq_true rfl, Nat.le_of_ble_eq_true rfl⟩ rfl rfl rfl rfl rfl (fun _ => rfl) (h1 := hC mud car wal hol paid rain place str bro pen swe dri n q) rfl (st' := [.int (sNb c i)]) rfl ?_
      refine AW.blk (amX0_busiestNeighbour _) 12 2 (h' := hC mud car wal hol paid rain place str bro pen swe dri n q) (pc' := 23) (lv' := [(5, .int (sNb c i)), (4, .int (nI i)), (1, .int c), (2, .int b), (3, .int m), (0, .ref 0)]) (st' := [.int (sNb c i)]) (L := []) rfl trivial ?_
      refine AW.callS (amX0_busiestNeighbour _) 14 (kX1_isCrossing (sNb c i)) [] [] ykX1_isCrossing ysX1_isCrossing mlX0_65 rfl rfl rfl rfl hR ⟨Nat.le_of_ble_eq_true rfl, Nat.le_of_ble_eq_true rfl, Nat.le_of_ble_eq_true rfl, Nat.le_of_ble_eq_true rfl⟩ rfl rfl rfl rfl rfl (fun _ => rfl) (h1 := hC mud car wal hol paid rain place str bro pen swe dri n q) rfl (st' := [.int (sCr (sNb c i))]) rfl ?_
      refine AW.br (amX0_busiestNeighbour _) 15 (tgt := 51) (C := (sCr (sNb c i)) = 0) (C' := ¬ (sCr (sNb c i)) = 0) (st' := []) rfl rfl rfl (fun c2 => ?_) (fun c2 => ?_)
      · refine AW.blk (amX0_busiestNeighbour _) 29 2 (h' := hC mud car wal hol paid rain place str bro pen swe dri n q) (pc' := 7) (lv' := [(4, .int ((nI i) + 1)), (5, .int (sNb c i)), (1, .int c), (2, .int b), (3, .int m), (0, .ref 0)]) (st' := []) (L := []) rfl trivial ?_
        refine AW.pick [0, 2, 3, 4, 5] (lv' := [(4, .int ((nI i) + 1)), (1, .int c), (2, .int b), (3, .int m), (0, .ref 0)]) rfl ?_
        rw [nI_1 i]
        exact ih (i + 1) _ _ (by omega) (by rw [← hf]; simp only [lpN, sBN1, if_neg c1, if_pos c2])
      · refine AW.blk (amX0_busiestNeighbour _) 16 5 (h' := hC mud car wal hol paid rain place str bro pen swe dri n q) (pc' := 37) (lv' := [(5, .int (sNb c i)), (4, .int (nI i)), (1, .int c), (2, .int b), (3, .int m), (0, .ref 0)]) (st' := [.int m, .int (wal (sNb c i).toNatClampNeg)]) (L := [vp_in (sNb c i) 9]) rfl (sCr_in c2) ?_
        refine AW.br (amX0_busiestNeighbour _) 21 (tgt := 51) (C := (wal (sNb c i).toNatClampNeg) ≤ m) (C' := ¬ (wal (sNb c i).toNatClampNeg) ≤ m) (st' := []) rfl rfl rfl (fun c3 => ?_) (fun c3 => ?_)
        · refine AW.blk (amX0_busiestNeighbour _) 29 2 (h' := hC mud car wal hol paid rain place str bro pen swe dri n q) (pc' := 7) (lv' := [(4, .int ((nI i) + 1)), (5, .int (sNb c i)), (1, .int c), (2, .int b), (3, .int m), (0, .ref 0)]) (st' := []) (L := []) rfl trivial ?_
          refine AW.pick [0, 2, 3, 4, 5] (lv' := [(4, .int ((nI i) + 1)), (1, .int c), (2, .int b), (3, .int m), (0, .ref 0)]) rfl ?_
          rw [nI_1 i]
          exact ih (i + 1) _ _ (by omega) (by rw [← hf]; simp only [lpN, sBN1, if_neg c1, if_neg c2, if_pos c3])
        · refine AW.blk (amX0_busiestNeighbour _) 22 9 (h' := hC mud car wal hol paid rain place str bro pen swe dri n q) (pc' := 7) (lv' := [(4, .int ((nI i) + 1)), (2, .int (sNb c i)), (3, .int (wal (sNb c i).toNatClampNeg)), (5, .int (sNb c i)), (1, .int c), (0, .ref 0)]) (st' := []) (L := [vp_in (sNb c i) 9]) rfl (sCr_in c2) ?_
          refine AW.pick [0, 4, 1, 2, 5] (lv' := [(4, .int ((nI i) + 1)), (1, .int c), (2, .int (sNb c i)), (3, .int (wal (sNb c i).toNatClampNeg)), (0, .ref 0)]) rfl ?_
          rw [nI_1 i]
          exact ih (i + 1) _ _ (by omega) (by rw [← hf]; simp only [lpN, sBN1, if_neg c1, if_neg c2, if_neg c3])
  refine AW.blk (amX0_busiestNeighbour _) 0 6 (h' := hC mud car wal hol paid rain place str bro pen swe dri n q) (pc' := 7) (lv' := [(4, .int 0), (3, .int ((-1))), (2, .int c), (0, .ref 0), (1, .int c)]) (st' := []) (L := []) rfl trivial ?_
  refine AW.pick [0, 4, 2, 1, 3] (lv' := [(4, .int 0), (1, .int c), (2, .int c), (3, .int ((-1))), (0, .ref 0)]) rfl ?_
  exact K 4 0 c (-1) rfl rfl
end
section
/-- seekPitch: places, holders, driven off -/
def sSkP (s n : Int32) (str wal place hol : Nat → Int32) : Nat → Int32 := if sSw s n = 0 then place else if sCr (place s.toNatClampNeg) = 0 then place else if sSw (hol (place s.toNatClampNeg).toNatClampNeg) n = 0 then place else if str s.toNatClampNeg ≤ str (hol (place s.toNatClampNeg).toNatClampNeg).toNatClampNeg then upd place s.toNatClampNeg (sBN (place s.toNatClampNeg) wal) else place
def sSkH (s n : Int32) (str place hol : Nat → Int32) : Nat → Int32 := if sSw s n = 0 then hol else if sCr (place s.toNatClampNeg) = 0 then hol else if sSw (hol (place s.toNatClampNeg).toNatClampNeg) n = 0 then upd hol (place s.toNatClampNeg).toNatClampNeg s else if str s.toNatClampNeg ≤ str (hol (place s.toNatClampNeg).toNatClampNeg).toNatClampNeg then hol else upd hol (place s.toNatClampNeg).toNatClampNeg s
def sSkD (s n : Int32) (str place hol dri : Nat → Int32) : Nat → Int32 := if sSw s n = 0 then dri else if sCr (place s.toNatClampNeg) = 0 then dri else if sSw (hol (place s.toNatClampNeg).toNatClampNeg) n = 0 then dri else if str s.toNatClampNeg ≤ str (hol (place s.toNatClampNeg).toNatClampNeg).toNatClampNeg then dri else upd dri (hol (place s.toNatClampNeg).toNatClampNeg).toNatClampNeg (dri (hol (place s.toNatClampNeg).toNatClampNeg).toNatClampNeg + 1)
set_option maxHeartbeats 1000000 in
theorem kX0_seekPitch (mud car wal hol paid rain place str bro pen swe dri : Nat → Int32) (n q : Int32) (s : Int32) : AMet yX0_seekPitch cX0_seekPitch 4 none { frames := 2, cells := 0, slots := 0, locals := 46 } [.ref 0, .int s] (hC mud car wal hol paid rain place str bro pen swe dri n q) none (hC mud car wal (sSkH s n str place hol) paid rain (sSkP s n str wal place hol) str bro pen swe (sSkD s n str place hol dri) n q) := by
  refine AMet.of (by decide) rfl ?_
  intro G hR hE hI
  refine AW.blk (amX0_seekPitch _) 0 2 (h' := hC mud car wal hol paid rain place str bro pen swe dri n q) (pc' := 2) (lv' := [(0, .ref 0), (1, .int s)]) (st' := [.int s, .ref 0]) (L := []) rfl trivial ?_
  refine AW.callV (amX0_seekPitch _) 2 (kX0_isSweeper mud car wal hol paid rain place str bro pen swe dri n q s) rfl rfl [0, 1, 2, 3, 4, 5, 6, 7, 8, 9, 10, 11, 12] [] ykX0_isSweeper yiX0_isSweeper yvX0_isSweeper mlX0_61 rfl rfl rfl rfl hR ⟨Nat.le_of_ble_eq_true rfl, Nat.le_of_ble_eq_true rfl, Nat.le_of_ble_eq_true rfl, Nat.le_of_ble_eq_true rfl⟩ rfl rfl rfl rfl rfl (fun _ => rfl) (h1 := hC mud car wal hol paid rain place str bro pen swe dri n q) rfl (st' := [.int (sSw s n)]) rfl ?_
  refine AW.br (amX0_seekPitch _) 3 (tgt := 20) (C := (sSw s n) = 0) (C' := ¬ (sSw s n) = 0) (st' := []) rfl rfl rfl (fun c1 => ?_) (fun c1 => ?_)
  · exact AW.vretE (amX0_seekPitch _) 10 hE rfl rfl rfl rfl (by simp only [sSkP, sSkH, sSkD, if_pos c1])
  · refine AW.blk (amX0_seekPitch _) 4 4 (h' := hC mud car wal hol paid rain place str bro pen swe dri n q) (pc' := 14) (lv' := [(0, .ref 0), (1, .int s)]) (st' := [.int (place s.toNatClampNeg)]) (L := [vp_in s 8]) rfl (sSw_in c1) ?_
    refine AW.callS (amX0_seekPitch _) 8 (kX1_isCrossing (place s.toNatClampNeg)) [] [] ykX1_isCrossing ysX1_isCrossing mlX0_65 rfl rfl rfl rfl hR ⟨Nat.le_of_ble_eq_true rfl, Nat.le_of_ble_eq_true rfl, Nat.le_of_ble_eq_true rfl, Nat.le_of_ble_eq_true rfl⟩ rfl rfl rfl rfl rfl (fun _ => rfl) (h1 := hC mud car wal hol paid rain place str bro pen swe dri n q) rfl (st' := [.int (sCr (place s.toNatClampNeg))]) rfl ?_
    refine AW.br (amX0_seekPitch _) 9 (tgt := 21) (C := ¬ (sCr (place s.toNatClampNeg)) = 0) (C' := (sCr (place s.toNatClampNeg)) = 0) (st' := []) rfl rfl rfl (fun c2 => ?_) (fun c2 => ?_)
    · refine AW.blk (amX0_seekPitch _) 11 12 (h' := hC mud car wal hol paid rain place str bro pen swe dri n q) (pc' := 37) (lv' := [(3, .int (hol (place s.toNatClampNeg).toNatClampNeg)), (2, .int (place s.toNatClampNeg)), (0, .ref 0), (1, .int s)]) (st' := [.int (hol (place s.toNatClampNeg).toNatClampNeg), .ref 0]) (L := [vp_in s 8, vp_in (place s.toNatClampNeg) 9]) rfl ⟨(sSw_in c1), (sCr_in c2)⟩ ?_
      refine AW.callV (amX0_seekPitch _) 23 (kX0_isSweeper mud car wal hol paid rain place str bro pen swe dri n q (hol (place s.toNatClampNeg).toNatClampNeg)) rfl rfl [0, 1, 2, 3, 4, 5, 6, 7, 8, 9, 10, 11, 12] [] ykX0_isSweeper yiX0_isSweeper yvX0_isSweeper mlX0_61 rfl rfl rfl rfl hR ⟨Nat.le_of_ble_eq_true rfl, Nat.le_of_ble_eq_true rfl, Nat.le_of_ble_eq_true rfl, Nat.le_of_ble_eq_true rfl⟩ rfl rfl rfl rfl rfl (fun _ => rfl) (h1 := hC mud car wal hol paid rain place str bro pen swe dri n q) rfl (st' := [.int (sSw (hol (place s.toNatClampNeg).toNatClampNeg) n)]) rfl ?_
      refine AW.br (amX0_seekPitch _) 24 (tgt := 53) (C := ¬ (sSw (hol (place s.toNatClampNeg).toNatClampNeg) n) = 0) (C' := (sSw (hol (place s.toNatClampNeg).toNatClampNeg) n) = 0) (st' := []) rfl rfl rfl (fun c3 => ?_) (fun c3 => ?_)
      · refine AW.blk (amX0_seekPitch _) 31 8 (h' := hC mud car wal hol paid rain place str bro pen swe dri n q) (pc' := 65) (lv' := [(3, .int (hol (place s.toNatClampNeg).toNatClampNeg)), (2, .int (place s.toNatClampNeg)), (0, .ref 0), (1, .int s)]) (st' := [.int (str s.toNatClampNeg), .int (str (hol (place s.toNatClampNeg).toNatClampNeg).toNatClampNeg)]) (L := [vp_in (hol (place s.toNatClampNeg).toNatClampNeg) 8, vp_in s 8]) rfl ⟨(sSw_in c3), (sSw_in c1)⟩ ?_
        refine AW.br (amX0_seekPitch _) 39 (tgt := 88) (C := (str s.toNatClampNeg) ≤ (str (hol (place s.toNatClampNeg).toNatClampNeg).toNatClampNeg)) (C' := ¬ (str s.toNatClampNeg) ≤ (str (hol (place s.toNatClampNeg).toNatClampNeg).toNatClampNeg)) (st' := []) rfl rfl rfl (fun c4 => ?_) (fun c4 => ?_)
        · refine AW.blk (amX0_seekPitch _) 54 5 (h' := hC mud car wal hol paid rain place str bro pen swe dri n q) (pc' := 95) (lv' := [(3, .int (hol (place s.toNatClampNeg).toNatClampNeg)), (2, .int (place s.toNatClampNeg)), (0, .ref 0), (1, .int s)]) (st' := [.int (place s.toNatClampNeg), .ref 0, .int s, .ref 7]) (L := []) rfl trivial ?_
          refine AW.callV (amX0_seekPitch _) 59 (kX0_busiestNeighbour mud car wal hol paid rain place str bro pen swe dri n q (place s.toNatClampNeg)) rfl rfl [0, 1, 2, 3, 4, 5, 6, 7, 8, 9, 10, 11, 12] [] ykX0_busiestNeighbour yiX0_busiestNeighbour yvX0_busiestNeighbour mlX0_105 rfl rfl rfl rfl hR ⟨Nat.le_of_ble_eq_true rfl, Nat.le_of_ble_eq_true rfl, Nat.le_of_ble_eq_true rfl, Nat.le_of_ble_eq_true rfl⟩ rfl rfl rfl rfl rfl (fun _ => rfl) (h1 := hC mud car wal hol paid rain place str bro pen swe dri n q) rfl (st' := [.int (sBN (place s.toNatClampNeg) wal), .int s, .ref 7]) rfl ?_
          refine AW.blk (amX0_seekPitch _) 60 1 (h' := hC mud car wal hol paid rain (upd place s.toNatClampNeg (sBN (place s.toNatClampNeg) wal)) str bro pen swe dri n q) (pc' := 99) (lv' := [(3, .int (hol (place s.toNatClampNeg).toNatClampNeg)), (2, .int (place s.toNatClampNeg)), (0, .ref 0), (1, .int s)]) (st' := []) (L := [vp_in s 8]) rfl (sSw_in c1) ?_
          exact AW.vretE (amX0_seekPitch _) 61 hE rfl rfl rfl rfl (by simp only [sSkP, sSkH, sSkD, if_neg c1, if_neg c2, if_neg c3, if_pos c4])
        · refine AW.blk (amX0_seekPitch _) 40 14 (h' := hC mud car wal (upd hol (place s.toNatClampNeg).toNatClampNeg s) paid rain place str bro pen swe (upd dri (hol (place s.toNatClampNeg).toNatClampNeg).toNatClampNeg ((dri (hol (place s.toNatClampNeg).toNatClampNeg).toNatClampNeg) + 1)) n q) (pc' := 99) (lv' := [(3, .int (hol (place s.toNatClampNeg).toNatClampNeg)), (2, .int (place s.toNatClampNeg)), (0, .ref 0), (1, .int s)]) (st' := []) (L := [vp_in (hol (place s.toNatClampNeg).toNatClampNeg) 8, vp_in (hol (place s.toNatClampNeg).toNatClampNeg) 8, vp_in (place s.toNatClampNeg) 9]) rfl ⟨(sSw_in c3), (sSw_in c3), (sCr_in c2)⟩ ?_
          exact AW.vretE (amX0_seekPitch _) 61 hE rfl rfl rfl rfl (by simp only [sSkP, sSkH, sSkD, if_neg c1, if_neg c2, if_neg c3, if_neg c4])
      · refine AW.blk (amX0_seekPitch _) 25 6 (h' := hC mud car wal (upd hol (place s.toNatClampNeg).toNatClampNeg s) paid rain place str bro pen swe dri n q) (pc' := 99) (lv' := [(3, .int (hol (place s.toNatClampNeg).toNatClampNeg)), (2, .int (place s.toNatClampNeg)), (0, .ref 0), (1, .int s)]) (st' := []) (L := [vp_in (place s.toNatClampNeg) 9]) rfl (sCr_in c2) ?_
        exact AW.vretE (amX0_seekPitch _) 61 hE rfl rfl rfl rfl (by simp only [sSkP, sSkH, sSkD, if_neg c1, if_neg c2, if_pos c3])
    · exact AW.vretE (amX0_seekPitch _) 10 hE rfl rfl rfl rfl (by simp only [sSkP, sSkH, sSkD, if_neg c1, if_pos c2])
/-- sweepAll: mud, brooms, swept -/
def sSw1 (n : Int32) (place hol str : Nat → Int32) (i : Nat) (a : (Nat → Int32) × (Nat → Int32) × (Nat → Int32)) : (Nat → Int32) × (Nat → Int32) × (Nat → Int32) := if sCr (place (nI i).toNatClampNeg) = 0 then a else if hol (place (nI i).toNatClampNeg).toNatClampNeg = nI i then (upd a.1 (place (nI i).toNatClampNeg).toNatClampNeg (a.1 (place (nI i).toNatClampNeg).toNatClampNeg - imin (a.1 (place (nI i).toNatClampNeg).toNatClampNeg) (sRe (nI i) n str a.2.1)), upd a.2.1 (nI i).toNatClampNeg (imax 0 (a.2.1 (nI i).toNatClampNeg - 1)), upd a.2.2 (nI i).toNatClampNeg (a.2.2 (nI i).toNatClampNeg + imin (a.1 (place (nI i).toNatClampNeg).toNatClampNeg) (sRe (nI i) n str a.2.1))) else a
def sSweep (n : Int32) (place hol str : Nat → Int32) (a : (Nat → Int32) × (Nat → Int32) × (Nat → Int32)) : (Nat → Int32) × (Nat → Int32) × (Nat → Int32) := lpS n (sSw1 n place hol str) 8 0 a
set_option maxHeartbeats 1000000 in
theorem kX0_sweepAll (mud car wal hol paid rain place str bro pen swe dri : Nat → Int32) (n q : Int32) : AMet yX0_sweepAll cX0_sweepAll 4 none { frames := 2, cells := 0, slots := 0, locals := 42 } [.ref 0] (hC mud car wal hol paid rain place str bro pen swe dri n q) none (hC ((sSweep n place hol str (mud, bro, swe)).1) car wal hol paid rain place str ((sSweep n place hol str (mud, bro, swe)).2.1) pen ((sSweep n place hol str (mud, bro, swe)).2.2) dri n q) := by
  refine AMet.of (by decide) rfl ?_
  intro G hR hE hI
  have E : ∀ (m1 b1 s1 : Nat → Int32), (m1, b1, s1) = sSweep n place hol str (mud, bro, swe) → AW G (yX0_sweepAll.cls, cX0_sweepAll, 4, 13) (hC m1 car wal hol paid rain place str b1 pen s1 dri n q) 0 0 99 [(0, .ref 0)] [] := by
    intro m1 b1 s1 hf
    exact AW.vretE (amX0_sweepAll _) 62 hE rfl rfl rfl rfl (by rw [← hf])
  have K : ∀ (k i : Nat) (m1 : Nat → Int32) (b1 : Nat → Int32) (s1 : Nat → Int32), i + k = 8 → lpS n (sSw1 n place hol str) k i (m1, b1, s1) = sSweep n place hol str (mud, bro, swe) → AW G (yX0_sweepAll.cls, cX0_sweepAll, 4, 13) (hC m1 car wal hol paid rain place str b1 pen s1 dri n q) 0 0 2 [(1, .int (nI i)), (0, .ref 0)] [] := by
    intro k
    induction k with
    | zero =>
      intro i m1 b1 s1 hi hf
      refine AW.blk (amX0_sweepAll _) 2 2 (h' := hC m1 car wal hol paid rain place str b1 pen s1 dri n q) (pc' := 5) (lv' := [(1, .int (nI i)), (0, .ref 0)]) (st' := [.int 8, .int (nI i)]) (L := []) rfl trivial ?_
      refine AW.br (amX0_sweepAll _) 4 (tgt := 99) (C := 8 ≤ (nI i)) (C' := ¬ 8 ≤ (nI i)) (st' := []) rfl rfl rfl (fun c1 => ?_) (fun c1 => absurd (nI_le (a := 8) (b := i) (by omega) (by omega)) c1)
      refine AW.pick [1] (lv' := [(0, .ref 0)]) rfl ?_
      exact E _ _ _ hf
    | succ k ih =>
      intro i m1 b1 s1 hi hf
      refine AW.blk (amX0_sweepAll _) 2 2 (h' := hC m1 car wal hol paid rain place str b1 pen s1 dri n q) (pc' := 5) (lv' := [(1, .int (nI i)), (0, .ref 0)]) (st' := [.int 8, .int (nI i)]) (L := []) rfl trivial ?_
      refine AW.br (amX0_sweepAll _) 4 (tgt := 99) (C := 8 ≤ (nI i)) (C' := ¬ 8 ≤ (nI i)) (st' := []) rfl rfl rfl (fun c1 => absurd c1 (nI_ge (a := i) (b := 8) (by omega) (by decide))) (fun c1 => ?_)
      refine AW.blk (amX0_sweepAll _) 5 3 (h' := hC m1 car wal hol paid rain place str b1 pen s1 dri n q) (pc' := 13) (lv' := [(1, .int (nI i)), (0, .ref 0)]) (st' := [.int n, .int (nI i)]) (L := []) rfl trivial ?_
      refine AW.br (amX0_sweepAll _) 8 (tgt := 99) (C := n ≤ (nI i)) (C' := ¬ n ≤ (nI i)) (st' := []) rfl rfl rfl (fun c2 => ?_) (fun c2 => ?_)
      · refine AW.pick [1] (lv' := [(0, .ref 0)]) rfl ?_
        exact E _ _ _ (by rw [← hf]; simp only [lpS, if_neg c1, if_pos c2])
      · refine AW.blk (amX0_sweepAll _) 9 6 (h' := hC m1 car wal hol paid rain place str b1 pen s1 dri n q) (pc' := 24) (lv' := [(2, .int (place (nI i).toNatClampNeg)), (1, .int (nI i)), (0, .ref 0)]) (st' := [.int (place (nI i).toNatClampNeg)]) (L := [vp_in (nI i) 8]) rfl (vpi (by omega) rfl) ?_
        refine AW.callS (amX0_sweepAll _) 15 (kX1_isCrossing (place (nI i).toNatClampNeg)) [] [] ykX1_isCrossing ysX1_isCrossing mlX0_65 rfl rfl rfl rfl hR ⟨Nat.le_of_ble_eq_true rfl, Nat.le_of_ble_eq_true rfl, Nat.le_of_ble_eq_true rfl, Nat.le_of_ble_eq_true rfl⟩ rfl rfl rfl rfl rfl (fun _ => rfl) (h1 := hC m1 car wal hol paid rain place str b1 pen s1 dri n q) rfl (st' := [.int (sCr (place (nI i).toNatClampNeg))]) rfl ?_
        refine AW.br (amX0_sweepAll _) 16 (tgt := 93) (C := (sCr (place (nI i).toNatClampNeg)) = 0) (C' := ¬ (sCr (place (nI i).toNatClampNeg)) = 0) (st' := []) rfl rfl rfl (fun c3 => ?_) (fun c3 => ?_)
        · refine AW.blk (amX0_sweepAll _) 60 2 (h' := hC m1 car wal hol paid rain place str b1 pen s1 dri n q) (pc' := 2) (lv' := [(1, .int ((nI i) + 1)), (2, .int (place (nI i).toNatClampNeg)), (0, .ref 0)]) (st' := []) (L := []) rfl trivial ?_
          refine AW.pick [0, 2] (lv' := [(1, .int ((nI i) + 1)), (0, .ref 0)]) rfl ?_
          rw [nI_1 i]
          exact ih (i + 1) _ _ _ (by omega) (by rw [← hf]; simp only [lpS, sSw1, if_neg c1, if_neg c2, if_pos c3])
        · refine AW.blk (amX0_sweepAll _) 17 5 (h' := hC m1 car wal hol paid rain place str b1 pen s1 dri n q) (pc' := 37) (lv' := [(2, .int (place (nI i).toNatClampNeg)), (1, .int (nI i)), (0, .ref 0)]) (st' := [.int (nI i), .int (hol (place (nI i).toNatClampNeg).toNatClampNeg)]) (L := [vp_in (place (nI i).toNatClampNeg) 9]) rfl (sCr_in c3) ?_
          refine AW.br (amX0_sweepAll _) 22 (tgt := 93) (C := ¬ (hol (place (nI i).toNatClampNeg).toNatClampNeg) = (nI i)) (C' := (hol (place (nI i).toNatClampNeg).toNatClampNeg) = (nI i)) (st' := []) rfl rfl rfl (fun c4 => ?_) (fun c4 => ?_)
          · refine AW.blk (amX0_sweepAll _) 60 2 (h' := hC m1 car wal hol paid rain place str b1 pen s1 dri n q) (pc' := 2) (lv' := [(1, .int ((nI i) + 1)), (2, .int (place (nI i).toNatClampNeg)), (0, .ref 0)]) (st' := []) (L := []) rfl trivial ?_
            refine AW.pick [0, 2] (lv' := [(1, .int ((nI i) + 1)), (0, .ref 0)]) rfl ?_
            rw [nI_1 i]
            exact ih (i + 1) _ _ _ (by omega) (by rw [← hf]; simp only [lpS, sSw1, if_neg c1, if_neg c2, if_neg c3, if_neg c4])
          · refine AW.blk (amX0_sweepAll _) 23 6 (h' := hC m1 car wal hol paid rain place str b1 pen s1 dri n q) (pc' := 48) (lv' := [(2, .int (place (nI i).toNatClampNeg)), (1, .int (nI i)), (0, .ref 0)]) (st' := [.int (nI i), .ref 0, .int (m1 (place (nI i).toNatClampNeg).toNatClampNeg)]) (L := [vp_in (place (nI i).toNatClampNeg) 9]) rfl (sCr_in c3) ?_
            refine AW.callV (amX0_sweepAll _) 29 (kX0_reach m1 car wal hol paid rain place str b1 pen s1 dri n q (nI i)) rfl rfl [0, 1, 2, 3, 4, 5, 6, 7, 8, 9, 10, 11, 12] [] ykX0_reach yiX0_reach yvX0_reach mlX0_95 rfl rfl rfl rfl hR ⟨Nat.le_of_ble_eq_true rfl, Nat.le_of_ble_eq_true rfl, Nat.le_of_ble_eq_true rfl, Nat.le_of_ble_eq_true rfl⟩ rfl rfl rfl rfl rfl (fun _ => rfl) (h1 := hC m1 car wal hol paid rain place str b1 pen s1 dri n q) rfl (st' := [.int (sRe (nI i) n str b1), .int (m1 (place (nI i).toNatClampNeg).toNatClampNeg)]) rfl ?_
            refine AW.mmin (amX0_sweepAll _) 30 rfl kmmX0_68 hR rfl ⟨Nat.le_of_ble_eq_true rfl, Nat.le_of_ble_eq_true rfl, Nat.le_of_ble_eq_true rfl, Nat.le_of_ble_eq_true rfl⟩ ?_
            refine AW.blk (amX0_sweepAll _) 31 27 (h' := hC (upd m1 (place (nI i).toNatClampNeg).toNatClampNeg ((m1 (place (nI i).toNatClampNeg).toNatClampNeg) - (imin (m1 (place (nI i).toNatClampNeg).toNatClampNeg) (sRe (nI i) n str b1)))) car wal hol paid rain place str b1 pen (upd s1 (nI i).toNatClampNeg ((s1 (nI i).toNatClampNeg) + (imin (m1 (place (nI i).toNatClampNeg).toNatClampNeg) (sRe (nI i) n str b1)))) dri n q) (pc' := 89) (lv' := [(3, .int (imin (m1 (place (nI i).toNatClampNeg).toNatClampNeg) (sRe (nI i) n str b1))), (2, .int (place (nI i).toNatClampNeg)), (1, .int (nI i)), (0, .ref 0)]) (st' := [.int ((b1 (nI i).toNatClampNeg) - 1), .int 0, .int (nI i), .ref 9]) (L := [vp_in (place (nI i).toNatClampNeg) 9, vp_in (place (nI i).toNatClampNeg) 9, vp_in (nI i) 8, vp_in (nI i) 8, vp_in (nI i) 8]) rfl ⟨(sCr_in c3), (sCr_in c3), (vpi (by omega) rfl), (vpi (by omega) rfl), (vpi (by omega) rfl)⟩ ?_
            refine AW.mmax (amX0_sweepAll _) 58 rfl kmmX0_99 hR rfl ⟨Nat.le_of_ble_eq_true rfl, Nat.le_of_ble_eq_true rfl, Nat.le_of_ble_eq_true rfl, Nat.le_of_ble_eq_true rfl⟩ ?_
            refine AW.blk (amX0_sweepAll _) 59 3 (h' := hC (upd m1 (place (nI i).toNatClampNeg).toNatClampNeg ((m1 (place (nI i).toNatClampNeg).toNatClampNeg) - (imin (m1 (place (nI i).toNatClampNeg).toNatClampNeg) (sRe (nI i) n str b1)))) car wal hol paid rain place str (upd b1 (nI i).toNatClampNeg (imax 0 ((b1 (nI i).toNatClampNeg) - 1))) pen (upd s1 (nI i).toNatClampNeg ((s1 (nI i).toNatClampNeg) + (imin (m1 (place (nI i).toNatClampNeg).toNatClampNeg) (sRe (nI i) n str b1)))) dri n q) (pc' := 2) (lv' := [(1, .int ((nI i) + 1)), (3, .int (imin (m1 (place (nI i).toNatClampNeg).toNatClampNeg) (sRe (nI i) n str b1))), (2, .int (place (nI i).toNatClampNeg)), (0, .ref 0)]) (st' := []) (L := [vp_in (nI i) 8]) rfl (vpi (by omega) rfl) ?_
            refine AW.pick [0, 3] (lv' := [(1, .int ((nI i) + 1)), (0, .ref 0)]) rfl ?_
            rw [nI_1 i]
            exact ih (i + 1) _ _ _ (by omega) (by rw [← hf]; simp only [lpS, sSw1, if_neg c1, if_neg c2, if_neg c3, if_pos c4])
  refine AW.blk (amX0_sweepAll _) 0 2 (h' := hC mud car wal hol paid rain place str bro pen swe dri n q) (pc' := 2) (lv' := [(1, .int 0), (0, .ref 0)]) (st' := []) (L := []) rfl trivial ?_
  exact K 8 0 mud bro swe rfl rfl
/-- payAll: pence in all, pence, paid -/
def sPy1 (n : Int32) (hol mud wal : Nat → Int32) (i : Nat) (a : Int32 × (Nat → Int32) × (Nat → Int32)) : Int32 × (Nat → Int32) × (Nat → Int32) := if sSw (hol (nI i).toNatClampNeg) n = 0 then a else (a.1 + sWa (nI i) mud wal, upd a.2.1 (hol (nI i).toNatClampNeg).toNatClampNeg (a.2.1 (hol (nI i).toNatClampNeg).toNatClampNeg + sWa (nI i) mud wal), upd a.2.2 (nI i).toNatClampNeg (a.2.2 (nI i).toNatClampNeg + sWa (nI i) mud wal))
def sPay (n : Int32) (hol mud wal : Nat → Int32) (a : Int32 × (Nat → Int32) × (Nat → Int32)) : Int32 × (Nat → Int32) × (Nat → Int32) := lpN (sPy1 n hol mud wal) 9 0 a
set_option maxHeartbeats 1000000 in
theorem kX0_payAll (mud car wal hol paid rain place str bro pen swe dri : Nat → Int32) (n q : Int32) : AMet yX0_payAll cX0_payAll 5 (some .int) { frames := 2, cells := 0, slots := 0, locals := 41 } [.ref 0] (hC mud car wal hol paid rain place str bro pen swe dri n q) (some (.int (sPay n hol mud wal (0, pen, paid)).1)) (hC mud car wal hol ((sPay n hol mud wal (0, pen, paid)).2.2) rain place str bro ((sPay n hol mud wal (0, pen, paid)).2.1) swe dri n q) := by
  refine AMet.of (by decide) rfl ?_
  intro G hR hE hI
  have E : ∀ (all : Int32) (p1 d1 : Nat → Int32), (all, p1, d1) = sPay n hol mud wal (0, pen, paid) → AW G (yX0_payAll.cls, cX0_payAll, 5, 13) (hC mud car wal hol d1 rain place str bro p1 swe dri n q) 0 0 65 [(1, .int all), (0, .ref 0)] [] := by
    intro all p1 d1 hf
    refine AW.blk (amX0_payAll _) 42 1 (h' := hC mud car wal hol d1 rain place str bro p1 swe dri n q) (pc' := 66) (lv' := [(1, .int all), (0, .ref 0)]) (st' := [.int all]) (L := []) rfl trivial ?_
    exact AW.iretE (amX0_payAll _) 43 hE rfl rfl (by first | rfl | exact narrow_b _ (by decide)) rfl rfl (by rw [← hf]) (by first | rfl | (rw [← hf]))
  have K : ∀ (k i : Nat) (all : Int32) (p1 : Nat → Int32) (d1 : Nat → Int32), i + k = 9 → lpN (sPy1 n hol mud wal) k i (all, p1, d1) = sPay n hol mud wal (0, pen, paid) → AW G (yX0_payAll.cls, cX0_payAll, 5, 13) (hC mud car wal hol d1 rain place str bro p1 swe dri n q) 0 0 4 [(2, .int (nI i)), (1, .int all), (0, .ref 0)] [] := by
    intro k
    induction k with
    | zero =>
      intro i all p1 d1 hi hf
      refine AW.blk (amX0_payAll _) 4 2 (h' := hC mud car wal hol d1 rain place str bro p1 swe dri n q) (pc' := 7) (lv' := [(2, .int (nI i)), (1, .int all), (0, .ref 0)]) (st' := [.int 9, .int (nI i)]) (L := []) rfl trivial ?_
      refine AW.br (amX0_payAll _) 6 (tgt := 65) (C := 9 ≤ (nI i)) (C' := ¬ 9 ≤ (nI i)) (st' := []) rfl rfl rfl (fun c1 => ?_) (fun c1 => absurd (nI_le (a := 9) (b := i) (by omega) (by omega)) c1)
      refine AW.pick [1, 2] (lv' := [(1, .int all), (0, .ref 0)]) rfl ?_
      exact E _ _ _ hf
    | succ k ih =>
      intro i all p1 d1 hi hf
      refine AW.blk (amX0_payAll _) 4 2 (h' := hC mud car wal hol d1 rain place str bro p1 swe dri n q) (pc' := 7) (lv' := [(2, .int (nI i)), (1, .int all), (0, .ref 0)]) (st' := [.int 9, .int (nI i)]) (L := []) rfl trivial ?_
      refine AW.br (amX0_payAll _) 6 (tgt := 65) (C := 9 ≤ (nI i)) (C' := ¬ 9 ≤ (nI i)) (st' := []) rfl rfl rfl (fun c1 => absurd c1 (nI_ge (a := i) (b := 9) (by omega) (by decide))) (fun c1 => ?_)
      refine AW.blk (amX0_payAll _) 7 7 (h' := hC mud car wal hol d1 rain place str bro p1 swe dri n q) (pc' := 19) (lv' := [(3, .int (hol (nI i).toNatClampNeg)), (2, .int (nI i)), (1, .int all), (0, .ref 0)]) (st' := [.int (hol (nI i).toNatClampNeg), .ref 0]) (L := [vp_in (nI i) 9]) rfl (vpi (by omega) rfl) ?_
      refine AW.callV (amX0_payAll _) 14 (kX0_isSweeper mud car wal hol d1 rain place str bro p1 swe dri n q (hol (nI i).toNatClampNeg)) rfl rfl [0, 1, 2, 3, 4, 5, 6, 7, 8, 9, 10, 11, 12] [] ykX0_isSweeper yiX0_isSweeper yvX0_isSweeper mlX0_61 rfl rfl rfl rfl hR ⟨Nat.le_of_ble_eq_true rfl, Nat.le_of_ble_eq_true rfl, Nat.le_of_ble_eq_true rfl, Nat.le_of_ble_eq_true rfl⟩ rfl rfl rfl rfl rfl (fun _ => rfl) (h1 := hC mud car wal hol d1 rain place str bro p1 swe dri n q) rfl (st' := [.int (sSw (hol (nI i).toNatClampNeg) n)]) rfl ?_
      refine AW.br (amX0_payAll _) 15 (tgt := 59) (C := (sSw (hol (nI i).toNatClampNeg) n) = 0) (C' := ¬ (sSw (hol (nI i).toNatClampNeg) n) = 0) (st' := []) rfl rfl rfl (fun c2 => ?_) (fun c2 => ?_)
      · refine AW.blk (amX0_payAll _) 40 2 (h' := hC mud car wal hol d1 rain place str bro p1 swe dri n q) (pc' := 4) (lv' := [(2, .int ((nI i) + 1)), (3, .int (hol (nI i).toNatClampNeg)), (1, .int all), (0, .ref 0)]) (st' := []) (L := []) rfl trivial ?_
        refine AW.pick [0, 2, 3] (lv' := [(2, .int ((nI i) + 1)), (1, .int all), (0, .ref 0)]) rfl ?_
        rw [nI_1 i]
        exact ih (i + 1) _ _ _ (by omega) (by rw [← hf]; simp only [lpN, sPy1, if_neg c1, if_pos c2])
      · refine AW.blk (amX0_payAll _) 16 2 (h' := hC mud car wal hol d1 rain place str bro p1 swe dri n q) (pc' := 27) (lv' := [(3, .int (hol (nI i).toNatClampNeg)), (2, .int (nI i)), (1, .int all), (0, .ref 0)]) (st' := [.int (nI i), .ref 0]) (L := []) rfl trivial ?_
        refine AW.callV (amX0_payAll _) 18 (kX0_wage mud car wal hol d1 rain place str bro p1 swe dri n q (nI i)) rfl rfl [0, 1, 2, 3, 4, 5, 6, 7, 8, 9, 10, 11, 12] [] ykX0_wage yiX0_wage yvX0_wage mlX0_102 rfl rfl rfl rfl hR ⟨Nat.le_of_ble_eq_true rfl, Nat.le_of_ble_eq_true rfl, Nat.le_of_ble_eq_true rfl, Nat.le_of_ble_eq_true rfl⟩ rfl rfl rfl rfl rfl (fun _ => rfl) (h1 := hC mud car wal hol d1 rain place str bro p1 swe dri n q) rfl (st' := [.int (sWa (nI i) mud wal)]) rfl ?_
        refine AW.blk (amX0_payAll _) 19 23 (h' := hC mud car wal hol (upd d1 (nI i).toNatClampNeg ((d1 (nI i).toNatClampNeg) + (sWa (nI i) mud wal))) rain place str bro (upd p1 (hol (nI i).toNatClampNeg).toNatClampNeg ((p1 (hol (nI i).toNatClampNeg).toNatClampNeg) + (sWa (nI i) mud wal))) swe dri n q) (pc' := 4) (lv' := [(2, .int ((nI i) + 1)), (1, .int (all + (sWa (nI i) mud wal))), (4, .int (sWa (nI i) mud wal)), (3, .int (hol (nI i).toNatClampNeg)), (0, .ref 0)]) (st' := []) (L := [vp_in (hol (nI i).toNatClampNeg) 8, vp_in (hol (nI i).toNatClampNeg) 8, vp_in (nI i) 9, vp_in (nI i) 9]) rfl ⟨(sSw_in c2), (sSw_in c2), (vpi (by omega) rfl), (vpi (by omega) rfl)⟩ ?_
        refine AW.pick [0, 1, 4] (lv' := [(2, .int ((nI i) + 1)), (1, .int (all + (sWa (nI i) mud wal))), (0, .ref 0)]) rfl ?_
        rw [nI_1 i]
        exact ih (i + 1) _ _ _ (by omega) (by rw [← hf]; simp only [lpN, sPy1, if_neg c1, if_neg c2])
  refine AW.blk (amX0_payAll _) 0 4 (h' := hC mud car wal hol paid rain place str bro pen swe dri n q) (pc' := 4) (lv' := [(2, .int 0), (1, .int 0), (0, .ref 0)]) (st' := []) (L := []) rfl trivial ?_
  exact K 9 0 0 pen paid rfl rfl
end
section
/-- a quarter -/
def sWet (q : Int32) (rain : Nat → Int32) : Int32 := if q - q / 8 * 8 < 0 then 0 else if 8 ≤ q - q / 8 * 8 then 0 else rain (q - q / 8 * 8).toNatClampNeg
def sMd1 (w : Int32) (car : Nat → Int32) (i : Nat) (mud : Nat → Int32) : Nat → Int32 := sAM (nI i) (car (nI i).toNatClampNeg + w) mud
def sMd (w : Int32) (car mud : Nat → Int32) : Nat → Int32 := lpN (sMd1 w car) 9 0 mud
def sLk1 (n : Int32) (str wal : Nat → Int32) (i : Nat) (a : (Nat → Int32) × (Nat → Int32) × (Nat → Int32)) : (Nat → Int32) × (Nat → Int32) × (Nat → Int32) := if sHP (nI i) n a.1 a.2.1 = 0 then (sSkP (nI i) n str wal a.1 a.2.1, sSkH (nI i) n str a.1 a.2.1, sSkD (nI i) n str a.1 a.2.1 a.2.2) else a
def sLook (n : Int32) (str wal : Nat → Int32) (a : (Nat → Int32) × (Nat → Int32) × (Nat → Int32)) : (Nat → Int32) × (Nat → Int32) × (Nat → Int32) := lpS n (sLk1 n str wal) 8 0 a
def sSwQ (w n : Int32) (place hol str : Nat → Int32) (a : (Nat → Int32) × (Nat → Int32) × (Nat → Int32)) : (Nat → Int32) × (Nat → Int32) × (Nat → Int32) := if 6 ≤ w then a else sSweep n place hol str a
def sPyQ (w n : Int32) (hol mud wal : Nat → Int32) (a : Int32 × (Nat → Int32) × (Nat → Int32)) : Int32 × (Nat → Int32) × (Nat → Int32) := if 6 ≤ w then a else sPay n hol mud wal a
def hCt (C : CS) : aH := hC C.1 C.2.1 C.2.2.1 C.2.2.2.1 C.2.2.2.2.1 C.2.2.2.2.2.1 C.2.2.2.2.2.2.1 C.2.2.2.2.2.2.2.1 C.2.2.2.2.2.2.2.2.1 C.2.2.2.2.2.2.2.2.2.1 C.2.2.2.2.2.2.2.2.2.2.1 C.2.2.2.2.2.2.2.2.2.2.2.1 C.2.2.2.2.2.2.2.2.2.2.2.2.1 C.2.2.2.2.2.2.2.2.2.2.2.2.2
def sQw (mud car wal hol paid rain place str bro pen swe dri : Nat → Int32) (n q w : Int32) : Int32 × CS :=
  let S := sSwQ w n place hol str (sMd w car mud, bro, swe)
  let Y := sPyQ w n hol S.1 wal (0, pen, paid)
  let L := sLook n str wal (place, hol, dri)
  (Y.1, S.1, car, wal, L.2.1, Y.2.2, rain, L.1, str, S.2.1, Y.2.1, S.2.2, L.2.2, n, q + 1)
def sQ (C : CS) : Int32 × CS := match C with
  | (mud, car, wal, hol, paid, rain, place, str, bro, pen, swe, dri, n, q) => sQw mud car wal hol paid rain place str bro pen swe dri n q (sWet q rain)
set_option maxHeartbeats 1000000 in
theorem kX0_liveQuarter (mud car wal hol paid rain place str bro pen swe dri : Nat → Int32) (n q : Int32) : AMet yX0_liveQuarter cX0_liveQuarter 5 (some .int) { frames := 3, cells := 0, slots := 0, locals := 69 } [.ref 0] (hC mud car wal hol paid rain place str bro pen swe dri n q) (some (.int (sQ (mud, car, wal, hol, paid, rain, place, str, bro, pen, swe, dri, n, q)).1)) (hCt (sQ (mud, car, wal, hol, paid, rain, place, str, bro, pen, swe, dri, n, q)).2) := by
  refine AMet.of (by decide) rfl ?_
  intro G hR hE hI
  obtain ⟨w, hw⟩ : ∃ z, z = sWet q rain := ⟨_, rfl⟩
  obtain ⟨S, hS⟩ : ∃ z, z = sSwQ w n place hol str (sMd w car mud, bro, swe) := ⟨_, rfl⟩
  obtain ⟨Y, hY⟩ : ∃ z, z = sPyQ w n hol S.1 wal (0, pen, paid) := ⟨_, rfl⟩
  obtain ⟨L, hL⟩ : ∃ z, z = sLook n str wal (place, hol, dri) := ⟨_, rfl⟩
  have hfin : sQ (mud, car, wal, hol, paid, rain, place, str, bro, pen, swe, dri, n, q) = (Y.1, S.1, car, wal, L.2.1, Y.2.2, rain, L.1, str, S.2.1, Y.2.1, S.2.2, L.2.2, n, q + 1) := by subst hL; subst hY; subst hS; subst hw; rfl
  rw [hfin] at hE
  have E2 : ∀ (p1 h1 d1 : Nat → Int32), (p1, h1, d1) = L → AW G (yX0_liveQuarter.cls, cX0_liveQuarter, 5, 13) (hC S.1 car wal h1 Y.2.2 rain p1 str S.2.1 Y.2.1 S.2.2 d1 n q) 0 0 113 [(3, .int Y.1), (0, .ref 0)] [] := by
    intro p1 h1 d1 hf
    refine AW.blk (amX0_liveQuarter _) 61 7 (h' := hC S.1 car wal h1 Y.2.2 rain p1 str S.2.1 Y.2.1 S.2.2 d1 n (q + 1)) (pc' := 124) (lv' := [(3, .int Y.1), (0, .ref 0)]) (st' := [.int Y.1]) (L := []) rfl trivial ?_
    exact AW.iretE (amX0_liveQuarter _) 68 hE rfl rfl rfl rfl rfl rfl (by rw [← hf]; rfl)
  have K2 : ∀ (k i : Nat) (p1 : Nat → Int32) (h1 : Nat → Int32) (d1 : Nat → Int32), i + k = 8 → lpS n (sLk1 n str wal) k i (p1, h1, d1) = L → AW G (yX0_liveQuarter.cls, cX0_liveQuarter, 5, 13) (hC S.1 car wal h1 Y.2.2 rain p1 str S.2.1 Y.2.1 S.2.2 d1 n q) 0 0 76 [(4, .int (nI i)), (3, .int Y.1), (0, .ref 0)] [] := by
    intro k
    induction k with
    | zero =>
      intro i p1 h1 d1 hi hf
      refine AW.blk (amX0_liveQuarter _) 45 2 (h' := hC S.1 car wal h1 Y.2.2 rain p1 str S.2.1 Y.2.1 S.2.2 d1 n q) (pc' := 80) (lv' := [(4, .int (nI i)), (3, .int Y.1), (0, .ref 0)]) (st' := [.int 8, .int (nI i)]) (L := []) rfl trivial ?_
      refine AW.br (amX0_liveQuarter _) 47 (tgt := 113) (C := 8 ≤ (nI i)) (C' := ¬ 8 ≤ (nI i)) (st' := []) rfl rfl rfl (fun c1 => ?_) (fun c1 => absurd (nI_le (a := 8) (b := i) (by omega) (by omega)) c1)
      refine AW.pick [1, 2] (lv' := [(3, .int Y.1), (0, .ref 0)]) rfl ?_
      exact E2 _ _ _ hf
    | succ k ih =>
      intro i p1 h1 d1 hi hf
      refine AW.blk (amX0_liveQuarter _) 45 2 (h' := hC S.1 car wal h1 Y.2.2 rain p1 str S.2.1 Y.2.1 S.2.2 d1 n q) (pc' := 80) (lv' := [(4, .int (nI i)), (3, .int Y.1), (0, .ref 0)]) (st' := [.int 8, .int (nI i)]) (L := []) rfl trivial ?_
      refine AW.br (amX0_liveQuarter _) 47 (tgt := 113) (C := 8 ≤ (nI i)) (C' := ¬ 8 ≤ (nI i)) (st' := []) rfl rfl rfl (fun c1 => absurd c1 (nI_ge (a := i) (b := 8) (by omega) (by decide))) (fun c1 => ?_)
      refine AW.blk (amX0_liveQuarter _) 48 3 (h' := hC S.1 car wal h1 Y.2.2 rain p1 str S.2.1 Y.2.1 S.2.2 d1 n q) (pc' := 89) (lv' := [(4, .int (nI i)), (3, .int Y.1), (0, .ref 0)]) (st' := [.int n, .int (nI i)]) (L := []) rfl trivial ?_
      refine AW.br (amX0_liveQuarter _) 51 (tgt := 113) (C := n ≤ (nI i)) (C' := ¬ n ≤ (nI i)) (st' := []) rfl rfl rfl (fun c2 => ?_) (fun c2 => ?_)
      · refine AW.pick [1, 2] (lv' := [(3, .int Y.1), (0, .ref 0)]) rfl ?_
        exact E2 _ _ _ (by rw [← hf]; simp only [lpS, if_neg c1, if_pos c2])
      · refine AW.blk (amX0_liveQuarter _) 52 2 (h' := hC S.1 car wal h1 Y.2.2 rain p1 str S.2.1 Y.2.1 S.2.2 d1 n q) (pc' := 95) (lv' := [(4, .int (nI i)), (3, .int Y.1), (0, .ref 0)]) (st' := [.int (nI i), .ref 0]) (L := []) rfl trivial ?_
        refine AW.callV (amX0_liveQuarter _) 54 (kX0_holdsPitch S.1 car wal h1 Y.2.2 rain p1 str S.2.1 Y.2.1 S.2.2 d1 n q (nI i)) rfl rfl [0, 1, 2, 3, 4, 5, 6, 7, 8, 9, 10, 11, 12] [] ykX0_holdsPitch yiX0_holdsPitch yvX0_holdsPitch mlX0_88 rfl rfl rfl rfl hR ⟨Nat.le_of_ble_eq_true rfl, Nat.le_of_ble_eq_true rfl, Nat.le_of_ble_eq_true rfl, Nat.le_of_ble_eq_true rfl⟩ rfl rfl rfl rfl rfl (fun _ => rfl) (h1 := hC S.1 car wal h1 Y.2.2 rain p1 str S.2.1 Y.2.1 S.2.2 d1 n q) rfl (st' := [.int (sHP (nI i) n p1 h1)]) rfl ?_
        refine AW.br (amX0_liveQuarter _) 55 (tgt := 107) (C := ¬ (sHP (nI i) n p1 h1) = 0) (C' := (sHP (nI i) n p1 h1) = 0) (st' := []) rfl rfl rfl (fun c3 => ?_) (fun c3 => ?_)
        · refine AW.blk (amX0_liveQuarter _) 59 2 (h' := hC S.1 car wal h1 Y.2.2 rain p1 str S.2.1 Y.2.1 S.2.2 d1 n q) (pc' := 76) (lv' := [(4, .int ((nI i) + 1)), (3, .int Y.1), (0, .ref 0)]) (st' := []) (L := []) rfl trivial ?_
          rw [nI_1 i]
          exact ih (i + 1) _ _ _ (by omega) (by rw [← hf]; simp only [lpS, sLk1, if_neg c1, if_neg c2, if_neg c3])
        · refine AW.blk (amX0_liveQuarter _) 56 2 (h' := hC S.1 car wal h1 Y.2.2 rain p1 str S.2.1 Y.2.1 S.2.2 d1 n q) (pc' := 104) (lv' := [(4, .int (nI i)), (3, .int Y.1), (0, .ref 0)]) (st' := [.int (nI i), .ref 0]) (L := []) rfl trivial ?_
          refine AW.callV (amX0_liveQuarter _) 58 (kX0_seekPitch S.1 car wal h1 Y.2.2 rain p1 str S.2.1 Y.2.1 S.2.2 d1 n q (nI i)) rfl rfl [0, 1, 2, 3, 4, 5, 6, 7, 8, 9, 10, 11, 12] [] ykX0_seekPitch yiX0_seekPitch yvX0_seekPitch mlX0_91 rfl rfl rfl rfl hR ⟨Nat.le_of_ble_eq_true rfl, Nat.le_of_ble_eq_true rfl, Nat.le_of_ble_eq_true rfl, Nat.le_of_ble_eq_true rfl⟩ rfl rfl rfl rfl rfl (fun _ => rfl) (h1 := hC S.1 car wal (sSkH (nI i) n str p1 h1) Y.2.2 rain (sSkP (nI i) n str wal p1 h1) str S.2.1 Y.2.1 S.2.2 (sSkD (nI i) n str p1 h1 d1) n q) rfl (st' := []) rfl ?_
          refine AW.blk (amX0_liveQuarter _) 59 2 (h' := hC S.1 car wal (sSkH (nI i) n str p1 h1) Y.2.2 rain (sSkP (nI i) n str wal p1 h1) str S.2.1 Y.2.1 S.2.2 (sSkD (nI i) n str p1 h1 d1) n q) (pc' := 76) (lv' := [(4, .int ((nI i) + 1)), (3, .int Y.1), (0, .ref 0)]) (st' := []) (L := []) rfl trivial ?_
          rw [nI_1 i]
          exact ih (i + 1) _ _ _ (by omega) (by rw [← hf]; simp only [lpS, sLk1, if_neg c1, if_neg c2, if_pos c3])
  have J : AW G (yX0_liveQuarter.cls, cX0_liveQuarter, 5, 13) (hC S.1 car wal hol Y.2.2 rain place str S.2.1 Y.2.1 S.2.2 dri n q) 0 0 73 [(3, .int Y.1), (0, .ref 0)] [] := by
    refine AW.blk (amX0_liveQuarter _) 43 2 (h' := hC S.1 car wal hol Y.2.2 rain place str S.2.1 Y.2.1 S.2.2 dri n q) (pc' := 76) (lv' := [(4, .int 0), (3, .int Y.1), (0, .ref 0)]) (st' := []) (L := []) rfl trivial ?_
    exact K2 8 0 place hol dri rfl hL.symm
  have E1 : ∀ (m1 : Nat → Int32), m1 = sMd w car mud → AW G (yX0_liveQuarter.cls, cX0_liveQuarter, 5, 13) (hC m1 car wal hol paid rain place str bro pen swe dri n q) 0 0 56 [(2, .int w), (0, .ref 0)] [] := by
    intro m1 hf
    refine AW.blk (amX0_liveQuarter _) 33 4 (h' := hC m1 car wal hol paid rain place str bro pen swe dri n q) (pc' := 61) (lv' := [(3, .int 0), (2, .int w), (0, .ref 0)]) (st' := [.int 6, .int w]) (L := []) rfl trivial ?_
    refine AW.br (amX0_liveQuarter _) 37 (tgt := 73) (C := 6 ≤ w) (C' := ¬ 6 ≤ w) (st' := []) rfl rfl rfl (fun c1 => ?_) (fun c1 => ?_)
    · have hS' : S = (m1, bro, swe) := by rw [hS, hf, sSwQ, if_pos c1]
      have hY' : Y = (0, pen, paid) := by rw [hY, sPyQ, if_pos c1]
      rw [hS', hY'] at J
      refine AW.pick [0, 2] (lv' := [(3, .int 0), (0, .ref 0)]) rfl ?_
      exact J
    · refine AW.blk (amX0_liveQuarter _) 38 1 (h' := hC m1 car wal hol paid rain place str bro pen swe dri n q) (pc' := 65) (lv' := [(3, .int 0), (2, .int w), (0, .ref 0)]) (st' := [.ref 0]) (L := []) rfl trivial ?_
      refine AW.callV (amX0_liveQuarter _) 39 (kX0_sweepAll m1 car wal hol paid rain place str bro pen swe dri n q) rfl rfl [0, 1, 2, 3, 4, 5, 6, 7, 8, 9, 10, 11, 12] [] ykX0_sweepAll yiX0_sweepAll yvX0_sweepAll mlX0_82 rfl rfl rfl rfl hR ⟨Nat.le_of_ble_eq_true rfl, Nat.le_of_ble_eq_true rfl, Nat.le_of_ble_eq_true rfl, Nat.le_of_ble_eq_true rfl⟩ rfl rfl rfl rfl rfl (fun _ => rfl) (h1 := hC ((sSweep n place hol str (m1, bro, swe)).1) car wal hol paid rain place str ((sSweep n place hol str (m1, bro, swe)).2.1) pen ((sSweep n place hol str (m1, bro, swe)).2.2) dri n q) rfl (st' := []) rfl ?_
      have hS' : sSweep n place hol str (m1, bro, swe) = S := by rw [hS, hf, sSwQ, if_neg c1]
      rw [hS']
      refine AW.blk (amX0_liveQuarter _) 40 1 (h' := hC S.1 car wal hol paid rain place str S.2.1 pen S.2.2 dri n q) (pc' := 69) (lv' := [(3, .int 0), (2, .int w), (0, .ref 0)]) (st' := [.ref 0]) (L := []) rfl trivial ?_
      refine AW.callV (amX0_liveQuarter _) 41 (kX0_payAll S.1 car wal hol paid rain place str S.2.1 pen S.2.2 dri n q) rfl rfl [0, 1, 2, 3, 4, 5, 6, 7, 8, 9, 10, 11, 12] [] ykX0_payAll yiX0_payAll yvX0_payAll mlX0_85 rfl rfl rfl rfl hR ⟨Nat.le_of_ble_eq_true rfl, Nat.le_of_ble_eq_true rfl, Nat.le_of_ble_eq_true rfl, Nat.le_of_ble_eq_true rfl⟩ rfl rfl rfl rfl rfl (fun _ => rfl) (h1 := hC S.1 car wal hol ((sPay n hol S.1 wal (0, pen, paid)).2.2) rain place str S.2.1 ((sPay n hol S.1 wal (0, pen, paid)).2.1) S.2.2 dri n q) rfl (st' := [.int ((sPay n hol S.1 wal (0, pen, paid)).1)]) rfl ?_
      have hY' : sPay n hol S.1 wal (0, pen, paid) = Y := by rw [hY, sPyQ, if_neg c1]
      rw [hY']
      refine AW.blk (amX0_liveQuarter _) 42 1 (h' := hC S.1 car wal hol Y.2.2 rain place str S.2.1 Y.2.1 S.2.2 dri n q) (pc' := 73) (lv' := [(3, .int Y.1), (2, .int w), (0, .ref 0)]) (st' := []) (L := []) rfl trivial ?_
      refine AW.pick [0, 2] (lv' := [(3, .int Y.1), (0, .ref 0)]) rfl ?_
      exact J
  have K1 : ∀ (k i : Nat) (m1 : Nat → Int32), i + k = 9 → lpN (sMd1 w car) k i m1 = sMd w car mud → AW G (yX0_liveQuarter.cls, cX0_liveQuarter, 5, 13) (hC m1 car wal hol paid rain place str bro pen swe dri n q) 0 0 31 [(3, .int (nI i)), (2, .int w), (0, .ref 0)] [] := by
    intro k
    induction k with
    | zero =>
      intro i m1 hi hf
      refine AW.blk (amX0_liveQuarter _) 19 2 (h' := hC m1 car wal hol paid rain place str bro pen swe dri n q) (pc' := 34) (lv' := [(3, .int (nI i)), (2, .int w), (0, .ref 0)]) (st' := [.int 9, .int (nI i)]) (L := []) rfl trivial ?_
      refine AW.br (amX0_liveQuarter _) 21 (tgt := 56) (C := 9 ≤ (nI i)) (C' := ¬ 9 ≤ (nI i)) (st' := []) rfl rfl rfl (fun c1 => ?_) (fun c1 => absurd (nI_le (a := 9) (b := i) (by omega) (by omega)) c1)
      refine AW.pick [1, 2] (lv' := [(2, .int w), (0, .ref 0)]) rfl ?_
      exact E1 _ hf
    | succ k ih =>
      intro i m1 hi hf
      refine AW.blk (amX0_liveQuarter _) 19 2 (h' := hC m1 car wal hol paid rain place str bro pen swe dri n q) (pc' := 34) (lv' := [(3, .int (nI i)), (2, .int w), (0, .ref 0)]) (st' := [.int 9, .int (nI i)]) (L := []) rfl trivial ?_
      refine AW.br (amX0_liveQuarter _) 21 (tgt := 56) (C := 9 ≤ (nI i)) (C' := ¬ 9 ≤ (nI i)) (st' := []) rfl rfl rfl (fun c1 => absurd c1 (nI_ge (a := i) (b := 9) (by omega) (by decide))) (fun c1 => ?_)
      refine AW.blk (amX0_liveQuarter _) 22 8 (h' := hC m1 car wal hol paid rain place str bro pen swe dri n q) (pc' := 47) (lv' := [(3, .int (nI i)), (2, .int w), (0, .ref 0)]) (st' := [.int ((car (nI i).toNatClampNeg) + w), .int (nI i), .ref 0]) (L := [vp_in (nI i) 9]) rfl (vpi (by omega) rfl) ?_
      refine AW.callV (amX0_liveQuarter _) 30 (kX0_addMud m1 car wal hol paid rain place str bro pen swe dri n q (nI i) ((car (nI i).toNatClampNeg) + w)) rfl rfl [0, 1, 2, 3, 4, 5, 6, 7, 8, 9, 10, 11, 12] [] ykX0_addMud yiX0_addMud yvX0_addMud mlX0_78 rfl rfl rfl rfl hR ⟨Nat.le_of_ble_eq_true rfl, Nat.le_of_ble_eq_true rfl, Nat.le_of_ble_eq_true rfl, Nat.le_of_ble_eq_true rfl⟩ rfl rfl rfl rfl rfl (fun _ => rfl) (h1 := hC (sAM (nI i) ((car (nI i).toNatClampNeg) + w) m1) car wal hol paid rain place str bro pen swe dri n q) rfl (st' := []) rfl ?_
      refine AW.blk (amX0_liveQuarter _) 31 2 (h' := hC (sAM (nI i) ((car (nI i).toNatClampNeg) + w) m1) car wal hol paid rain place str bro pen swe dri n q) (pc' := 31) (lv' := [(3, .int ((nI i) + 1)), (2, .int w), (0, .ref 0)]) (st' := []) (L := []) rfl trivial ?_
      rw [nI_1 i]
      exact ih (i + 1) _ (by omega) (by rw [← hf]; simp only [lpN, sMd1, if_neg c1])
  have J0 : AW G (yX0_liveQuarter.cls, cX0_liveQuarter, 5, 13) (hC mud car wal hol paid rain place str bro pen swe dri n q) 0 0 28 [(1, .int (q - q / 8 * 8)), (0, .ref 0)] [.int w] := by
    refine AW.blk (amX0_liveQuarter _) 16 3 (h' := hC mud car wal hol paid rain place str bro pen swe dri n q) (pc' := 31) (lv' := [(3, .int 0), (2, .int w), (1, .int (q - q / 8 * 8)), (0, .ref 0)]) (st' := []) (L := []) rfl trivial ?_
    refine AW.pick [0, 1, 3] (lv' := [(3, .int 0), (2, .int w), (0, .ref 0)]) rfl ?_
    exact K1 9 0 mud rfl rfl
  refine AW.blk (amX0_liveQuarter _) 0 6 (h' := hC mud car wal hol paid rain place str bro pen swe dri n q) (pc' := 9) (lv' := [(1, .int (q - q / 8 * 8)), (0, .ref 0)]) (st' := [.int (q - q / 8 * 8)]) (L := [¬ 8 = 0]) rfl (show ¬ (8 : Int32) = 0 by decide) ?_
  refine AW.br (amX0_liveQuarter _) 6 (tgt := 27) (C := (q - q / 8 * 8) < 0) (C' := ¬ (q - q / 8 * 8) < 0) (st' := []) rfl rfl rfl (fun c1 => ?_) (fun c1 => ?_)
  · refine AW.blk (amX0_liveQuarter _) 15 1 (h' := hC mud car wal hol paid rain place str bro pen swe dri n q) (pc' := 28) (lv' := [(1, .int (q - q / 8 * 8)), (0, .ref 0)]) (st' := [.int 0]) (L := []) rfl trivial ?_
    have hw' : w = 0 := by simp only [hw, sWet, if_pos c1]
    rw [hw'] at J0
    exact J0
  · refine AW.blk (amX0_liveQuarter _) 7 2 (h' := hC mud car wal hol paid rain place str bro pen swe dri n q) (pc' := 15) (lv' := [(1, .int (q - q / 8 * 8)), (0, .ref 0)]) (st' := [.int 8, .int (q - q / 8 * 8)]) (L := []) rfl trivial ?_
    refine AW.br (amX0_liveQuarter _) 9 (tgt := 27) (C := 8 ≤ (q - q / 8 * 8)) (C' := ¬ 8 ≤ (q - q / 8 * 8)) (st' := []) rfl rfl rfl (fun c2 => ?_) (fun c2 => ?_)
    · refine AW.blk (amX0_liveQuarter _) 15 1 (h' := hC mud car wal hol paid rain place str bro pen swe dri n q) (pc' := 28) (lv' := [(1, .int (q - q / 8 * 8)), (0, .ref 0)]) (st' := [.int 0]) (L := []) rfl trivial ?_
      have hw' : w = 0 := by simp only [hw, sWet, if_neg c1, if_pos c2]
      rw [hw'] at J0
      exact J0
    · refine AW.blk (amX0_liveQuarter _) 10 5 (h' := hC mud car wal hol paid rain place str bro pen swe dri n q) (pc' := 28) (lv' := [(1, .int (q - q / 8 * 8)), (0, .ref 0)]) (st' := [.int (rain (q - q / 8 * 8).toNatClampNeg)]) (L := [vp_in (q - q / 8 * 8) 8]) rfl (vp_in_of_lt (M := 8) (by decide) c1 c2) ?_
      have hw' : w = rain (q - q / 8 * 8).toNatClampNeg := by simp only [hw, sWet, if_neg c1, if_neg c2]
      rw [hw'] at J0
      exact J0
theorem kQ (C : CS) : AMet yX0_liveQuarter cX0_liveQuarter 5 (some .int) { frames := 3, cells := 0, slots := 0, locals := 69 } [.ref 0] (hCt C) (some (.int (sQ C).1)) (hCt (sQ C).2) := by
  obtain ⟨mud, car, wal, hol, paid, rain, place, str, bro, pen, swe, dri, n, q⟩ := C
  exact kX0_liveQuarter mud car wal hol paid rain place str bro pen swe dri n q
/-- quarters -/
def sLv1 (_ : Nat) (a : Int32 × CS) : Int32 × CS := (a.1 + (sQ a.2).1, (sQ a.2).2)
def sLive (k : Int32) (C : CS) : Int32 × CS := lpS k sLv1 96 0 (0, C)
set_option maxHeartbeats 1000000 in
theorem kX0_live (C : CS) (t : Int32) : AMet yX0_live cX0_live 4 (some .int) { frames := 4, cells := 0, slots := 0, locals := 93 } [.ref 0, .int t] (hCt C) (some (.int (sLive t C).1)) (hCt (sLive t C).2) := by
  refine AMet.of (by decide) rfl ?_
  intro G hR hE hI
  have E : ∀ (all : Int32) (D : CS), (all, D) = sLive t C → AW G (yX0_live.cls, cX0_live, 4, 13) (hCt D) 0 0 28 [(2, .int all), (0, .ref 0)] [] := by
    intro all D hf
    refine AW.blk (amX0_live _) 17 1 (h' := hCt D) (pc' := 29) (lv' := [(2, .int all), (0, .ref 0)]) (st' := [.int all]) (L := []) rfl trivial ?_
    exact AW.iretE (amX0_live _) 18 hE rfl rfl (by first | rfl | exact narrow_b _ (by decide)) rfl rfl (by rw [← hf]) (by first | rfl | (rw [← hf]))
  have K : ∀ (k i : Nat) (all : Int32) (D : CS), i + k = 96 → lpS t sLv1 k i (all, D) = sLive t C → AW G (yX0_live.cls, cX0_live, 4, 13) (hCt D) 0 0 4 [(3, .int (nI i)), (2, .int all), (1, .int t), (0, .ref 0)] [] := by
    intro k
    induction k with
    | zero =>
      intro i all D hi hf
      refine AW.blk (amX0_live _) 4 2 (h' := hCt D) (pc' := 7) (lv' := [(3, .int (nI i)), (2, .int all), (1, .int t), (0, .ref 0)]) (st' := [.int 96, .int (nI i)]) (L := []) rfl trivial ?_
      refine AW.br (amX0_live _) 6 (tgt := 28) (C := 96 ≤ (nI i)) (C' := ¬ 96 ≤ (nI i)) (st' := []) rfl rfl rfl (fun c1 => ?_) (fun c1 => absurd (nI_le (a := 96) (b := i) (by omega) (by omega)) c1)
      refine AW.pick [1, 3] (lv' := [(2, .int all), (0, .ref 0)]) rfl ?_
      exact E _ _ hf
    | succ k ih =>
      intro i all D hi hf
      refine AW.blk (amX0_live _) 4 2 (h' := hCt D) (pc' := 7) (lv' := [(3, .int (nI i)), (2, .int all), (1, .int t), (0, .ref 0)]) (st' := [.int 96, .int (nI i)]) (L := []) rfl trivial ?_
      refine AW.br (amX0_live _) 6 (tgt := 28) (C := 96 ≤ (nI i)) (C' := ¬ 96 ≤ (nI i)) (st' := []) rfl rfl rfl (fun c1 => absurd c1 (nI_ge (a := i) (b := 96) (by omega) (by decide))) (fun c1 => ?_)
      refine AW.blk (amX0_live _) 7 2 (h' := hCt D) (pc' := 12) (lv' := [(3, .int (nI i)), (2, .int all), (1, .int t), (0, .ref 0)]) (st' := [.int t, .int (nI i)]) (L := []) rfl trivial ?_
      refine AW.br (amX0_live _) 9 (tgt := 28) (C := t ≤ (nI i)) (C' := ¬ t ≤ (nI i)) (st' := []) rfl rfl rfl (fun c2 => ?_) (fun c2 => ?_)
      · refine AW.pick [1, 3] (lv' := [(2, .int all), (0, .ref 0)]) rfl ?_
        exact E _ _ (by rw [← hf]; simp only [lpS, if_neg c1, if_pos c2])
      · refine AW.blk (amX0_live _) 10 2 (h' := hCt D) (pc' := 17) (lv' := [(3, .int (nI i)), (2, .int all), (1, .int t), (0, .ref 0)]) (st' := [.ref 0, .int all]) (L := []) rfl trivial ?_
        refine AW.callV (amX0_live _) 12 (kQ D) rfl rfl [0, 1, 2, 3, 4, 5, 6, 7, 8, 9, 10, 11, 12] [] ykX0_liveQuarter yiX0_liveQuarter yvX0_liveQuarter mlX0_74 rfl rfl rfl rfl hR ⟨Nat.le_of_ble_eq_true rfl, Nat.le_of_ble_eq_true rfl, Nat.le_of_ble_eq_true rfl, Nat.le_of_ble_eq_true rfl⟩ rfl rfl rfl rfl rfl (fun _ => rfl) (h1 := hCt ((sQ D).2)) rfl (st' := [.int ((sQ D).1), .int all]) rfl ?_
        refine AW.blk (amX0_live _) 13 4 (h' := hCt ((sQ D).2)) (pc' := 4) (lv' := [(3, .int ((nI i) + 1)), (2, .int (all + ((sQ D).1))), (1, .int t), (0, .ref 0)]) (st' := []) (L := []) rfl trivial ?_
        rw [nI_1 i]
        exact ih (i + 1) _ _ (by omega) (by rw [← hf]; simp only [lpS, sLv1, if_neg c1, if_neg c2])
  refine AW.blk (amX0_live _) 0 4 (h' := hCt C) (pc' := 4) (lv' := [(3, .int 0), (2, .int 0), (0, .ref 0), (1, .int t)]) (st' := []) (L := []) rfl trivial ?_
  refine AW.pick [0, 1, 3, 2] (lv' := [(3, .int 0), (2, .int 0), (1, .int t), (0, .ref 0)]) rfl ?_
  exact K 96 0 0 C rfl rfl
end
section
/-- sums -/
def sSu1 (f : Nat → Int32) (i : Nat) (a : Int32) : Int32 := a + f (nI i).toNatClampNeg
def sSum (f : Nat → Int32) (N : Nat) : Int32 := lpN (sSu1 f) N 0 0
def sHe1 (n : Int32) (hol : Nat → Int32) (i : Nat) (a : Int32) : Int32 := if sSw (hol (nI i).toNatClampNeg) n = 0 then a else a + 1
def sHeld (n : Int32) (hol : Nat → Int32) : Int32 := lpN (sHe1 n hol) 9 0 0
def sAt1 (c : Int32) (place : Nat → Int32) (i : Nat) (a : Int32) : Int32 := if place (nI i).toNatClampNeg = c then a + 1 else a
def sAt (c n : Int32) (place : Nat → Int32) : Int32 := lpS n (sAt1 c place) 8 0 0
def sCl1 (mud : Nat → Int32) (i : Nat) (a : Int32) : Int32 := if 5 < mud (nI i).toNatClampNeg then a else a + 1
def sClean (mud : Nat → Int32) : Int32 := lpN (sCl1 mud) 9 0 0
set_option maxHeartbeats 1000000 in
theorem kX0_sum_8 (f : Nat → Int32) : AMet yX0_sum cX0_sum 3 (some .int) { frames := 0, cells := 0, slots := 0, locals := 0 } [.ref 0] ([aI 8 f]) (some (.int (sSum f 8))) ([aI 8 f]) := by
  refine AMet.of (by decide) rfl ?_
  intro G hR hE hI
  have E : ∀ (a : Int32), a = sSum f 8 → AW G (yX0_sum.cls, cX0_sum, 3, 1) ([aI 8 f]) 0 0 26 [(1, .int a), (0, .ref 0)] [] := by
    intro a hf
    refine AW.blk (amX0_sum _) 18 1 (h' := [aI 8 f]) (pc' := 27) (lv' := [(1, .int a), (0, .ref 0)]) (st' := [.int a]) (L := []) rfl trivial ?_
    exact AW.iretE (amX0_sum _) 19 hE rfl rfl (by first | rfl | exact narrow_b _ (by decide)) rfl rfl (by rw [← hf]) (by first | rfl | (rw [← hf]))
  have K : ∀ (k i : Nat) (a : Int32), i + k = 8 → lpN (sSu1 f) k i a = sSum f 8 → AW G (yX0_sum.cls, cX0_sum, 3, 1) ([aI 8 f]) 0 0 8 [(2, .int (nI i)), (1, .int a), (0, .ref 0)] [] := by
    intro k
    induction k with
    | zero =>
      intro i a hi hf
      refine AW.blk (amX0_sum _) 6 3 (h' := [aI 8 f]) (pc' := 11) (lv' := [(2, .int (nI i)), (1, .int a), (0, .ref 0)]) (st' := [.int (Int32.ofNat 8), .int (nI i)]) (L := []) rfl trivial ?_
      refine AW.br (amX0_sum _) 9 (tgt := 26) (C := (Int32.ofNat 8) ≤ (nI i)) (C' := ¬ (Int32.ofNat 8) ≤ (nI i)) (st' := []) rfl rfl rfl (fun c1 => ?_) (fun c1 => absurd (nI_le (a := 8) (b := i) (by omega) (by omega)) c1)
      refine AW.pick [1, 2] (lv' := [(1, .int a), (0, .ref 0)]) rfl ?_
      exact E _ hf
    | succ k ih =>
      intro i a hi hf
      refine AW.blk (amX0_sum _) 6 3 (h' := [aI 8 f]) (pc' := 11) (lv' := [(2, .int (nI i)), (1, .int a), (0, .ref 0)]) (st' := [.int (Int32.ofNat 8), .int (nI i)]) (L := []) rfl trivial ?_
      refine AW.br (amX0_sum _) 9 (tgt := 26) (C := (Int32.ofNat 8) ≤ (nI i)) (C' := ¬ (Int32.ofNat 8) ≤ (nI i)) (st' := []) rfl rfl rfl (fun c1 => absurd c1 (nI_ge (a := i) (b := 8) (by omega) (by decide))) (fun c1 => ?_)
      refine AW.blk (amX0_sum _) 10 8 (h' := [aI 8 f]) (pc' := 8) (lv' := [(2, .int ((nI i) + 1)), (1, .int (a + (f (nI i).toNatClampNeg))), (0, .ref 0)]) (st' := []) (L := [vp_in (nI i) 8]) rfl (vpi (by omega) rfl) ?_
      rw [nI_1 i]
      exact ih (i + 1) _ (by omega) (by rw [← hf]; simp only [lpN, sSu1, if_neg c1])
  refine AW.blk (amX0_sum _) 0 3 (h' := [aI 8 f]) (pc' := 3) (lv' := [(1, .int 0), (0, .ref 0)]) (st' := [.ref 0]) (L := []) rfl trivial ?_
  refine AW.ifnull (amX0_sum _) 3 rfl ?_
  refine AW.blk (amX0_sum _) 4 2 (h' := [aI 8 f]) (pc' := 8) (lv' := [(2, .int 0), (1, .int 0), (0, .ref 0)]) (st' := []) (L := []) rfl trivial ?_
  exact K 8 0 0 rfl rfl
set_option maxHeartbeats 1000000 in
theorem kX0_sum_9 (f : Nat → Int32) : AMet yX0_sum cX0_sum 3 (some .int) { frames := 0, cells := 0, slots := 0, locals := 0 } [.ref 0] ([aI 9 f]) (some (.int (sSum f 9))) ([aI 9 f]) := by
  refine AMet.of (by decide) rfl ?_
  intro G hR hE hI
  have E : ∀ (a : Int32), a = sSum f 9 → AW G (yX0_sum.cls, cX0_sum, 3, 1) ([aI 9 f]) 0 0 26 [(1, .int a), (0, .ref 0)] [] := by
    intro a hf
    refine AW.blk (amX0_sum _) 18 1 (h' := [aI 9 f]) (pc' := 27) (lv' := [(1, .int a), (0, .ref 0)]) (st' := [.int a]) (L := []) rfl trivial ?_
    exact AW.iretE (amX0_sum _) 19 hE rfl rfl (by first | rfl | exact narrow_b _ (by decide)) rfl rfl (by rw [← hf]) (by first | rfl | (rw [← hf]))
  have K : ∀ (k i : Nat) (a : Int32), i + k = 9 → lpN (sSu1 f) k i a = sSum f 9 → AW G (yX0_sum.cls, cX0_sum, 3, 1) ([aI 9 f]) 0 0 8 [(2, .int (nI i)), (1, .int a), (0, .ref 0)] [] := by
    intro k
    induction k with
    | zero =>
      intro i a hi hf
      refine AW.blk (amX0_sum _) 6 3 (h' := [aI 9 f]) (pc' := 11) (lv' := [(2, .int (nI i)), (1, .int a), (0, .ref 0)]) (st' := [.int (Int32.ofNat 9), .int (nI i)]) (L := []) rfl trivial ?_
      refine AW.br (amX0_sum _) 9 (tgt := 26) (C := (Int32.ofNat 9) ≤ (nI i)) (C' := ¬ (Int32.ofNat 9) ≤ (nI i)) (st' := []) rfl rfl rfl (fun c1 => ?_) (fun c1 => absurd (nI_le (a := 9) (b := i) (by omega) (by omega)) c1)
      refine AW.pick [1, 2] (lv' := [(1, .int a), (0, .ref 0)]) rfl ?_
      exact E _ hf
    | succ k ih =>
      intro i a hi hf
      refine AW.blk (amX0_sum _) 6 3 (h' := [aI 9 f]) (pc' := 11) (lv' := [(2, .int (nI i)), (1, .int a), (0, .ref 0)]) (st' := [.int (Int32.ofNat 9), .int (nI i)]) (L := []) rfl trivial ?_
      refine AW.br (amX0_sum _) 9 (tgt := 26) (C := (Int32.ofNat 9) ≤ (nI i)) (C' := ¬ (Int32.ofNat 9) ≤ (nI i)) (st' := []) rfl rfl rfl (fun c1 => absurd c1 (nI_ge (a := i) (b := 9) (by omega) (by decide))) (fun c1 => ?_)
      refine AW.blk (amX0_sum _) 10 8 (h' := [aI 9 f]) (pc' := 8) (lv' := [(2, .int ((nI i) + 1)), (1, .int (a + (f (nI i).toNatClampNeg))), (0, .ref 0)]) (st' := []) (L := [vp_in (nI i) 9]) rfl (vpi (by omega) rfl) ?_
      rw [nI_1 i]
      exact ih (i + 1) _ (by omega) (by rw [← hf]; simp only [lpN, sSu1, if_neg c1])
  refine AW.blk (amX0_sum _) 0 3 (h' := [aI 9 f]) (pc' := 3) (lv' := [(1, .int 0), (0, .ref 0)]) (st' := [.ref 0]) (L := []) rfl trivial ?_
  refine AW.ifnull (amX0_sum _) 3 rfl ?_
  refine AW.blk (amX0_sum _) 4 2 (h' := [aI 9 f]) (pc' := 8) (lv' := [(2, .int 0), (1, .int 0), (0, .ref 0)]) (st' := []) (L := []) rfl trivial ?_
  exact K 9 0 0 rfl rfl
set_option maxHeartbeats 1000000 in
theorem kX0_heldPitches (mud car wal hol paid rain place str bro pen swe dri : Nat → Int32) (n q : Int32) : AMet yX0_heldPitches cX0_heldPitches 3 (some .int) { frames := 1, cells := 0, slots := 0, locals := 21 } [.ref 0] (hC mud car wal hol paid rain place str bro pen swe dri n q) (some (.int (sHeld n hol))) (hC mud car wal hol paid rain place str bro pen swe dri n q) := by
  refine AMet.of (by decide) rfl ?_
  intro G hR hE hI
  have E : ∀ (a : Int32), a = sHeld n hol → AW G (yX0_heldPitches.cls, cX0_heldPitches, 3, 13) (hC mud car wal hol paid rain place str bro pen swe dri n q) 0 0 32 [(1, .int a), (0, .ref 0)] [] := by
    intro a hf
    refine AW.blk (amX0_heldPitches _) 17 1 (h' := hC mud car wal hol paid rain place str bro pen swe dri n q) (pc' := 33) (lv' := [(1, .int a), (0, .ref 0)]) (st' := [.int a]) (L := []) rfl trivial ?_
    exact AW.iretE (amX0_heldPitches _) 18 hE rfl rfl (by first | rfl | exact narrow_b _ (by decide)) rfl rfl (by rw [← hf]) (by first | rfl | (rw [← hf]))
  have K : ∀ (k i : Nat) (a : Int32), i + k = 9 → lpN (sHe1 n hol) k i a = sHeld n hol → AW G (yX0_heldPitches.cls, cX0_heldPitches, 3, 13) (hC mud car wal hol paid rain place str bro pen swe dri n q) 0 0 4 [(2, .int (nI i)), (1, .int a), (0, .ref 0)] [] := by
    intro k
    induction k with
    | zero =>
      intro i a hi hf
      refine AW.blk (amX0_heldPitches _) 4 2 (h' := hC mud car wal hol paid rain place str bro pen swe dri n q) (pc' := 7) (lv' := [(2, .int (nI i)), (1, .int a), (0, .ref 0)]) (st' := [.int 9, .int (nI i)]) (L := []) rfl trivial ?_
      refine AW.br (amX0_heldPitches _) 6 (tgt := 32) (C := 9 ≤ (nI i)) (C' := ¬ 9 ≤ (nI i)) (st' := []) rfl rfl rfl (fun c1 => ?_) (fun c1 => absurd (nI_le (a := 9) (b := i) (by omega) (by omega)) c1)
      refine AW.pick [1, 2] (lv' := [(1, .int a), (0, .ref 0)]) rfl ?_
      exact E _ hf
    | succ k ih =>
      intro i a hi hf
      refine AW.blk (amX0_heldPitches _) 4 2 (h' := hC mud car wal hol paid rain place str bro pen swe dri n q) (pc' := 7) (lv' := [(2, .int (nI i)), (1, .int a), (0, .ref 0)]) (st' := [.int 9, .int (nI i)]) (L := []) rfl trivial ?_
      refine AW.br (amX0_heldPitches _) 6 (tgt := 32) (C := 9 ≤ (nI i)) (C' := ¬ 9 ≤ (nI i)) (st' := []) rfl rfl rfl (fun c1 => absurd c1 (nI_ge (a := i) (b := 9) (by omega) (by decide))) (fun c1 => ?_)
      refine AW.blk (amX0_heldPitches _) 7 5 (h' := hC mud car wal hol paid rain place str bro pen swe dri n q) (pc' := 17) (lv' := [(2, .int (nI i)), (1, .int a), (0, .ref 0)]) (st' := [.int (hol (nI i).toNatClampNeg), .ref 0]) (L := [vp_in (nI i) 9]) rfl (vpi (by omega) rfl) ?_
      refine AW.callV (amX0_heldPitches _) 12 (kX0_isSweeper mud car wal hol paid rain place str bro pen swe dri n q (hol (nI i).toNatClampNeg)) rfl rfl [0, 1, 2, 3, 4, 5, 6, 7, 8, 9, 10, 11, 12] [] ykX0_isSweeper yiX0_isSweeper yvX0_isSweeper mlX0_61 rfl rfl rfl rfl hR ⟨Nat.le_of_ble_eq_true rfl, Nat.le_of_ble_eq_true rfl, Nat.le_of_ble_eq_true rfl, Nat.le_of_ble_eq_true rfl⟩ rfl rfl rfl rfl rfl (fun _ => rfl) (h1 := hC mud car wal hol paid rain place str bro pen swe dri n q) rfl (st' := [.int (sSw (hol (nI i).toNatClampNeg) n)]) rfl ?_
      refine AW.br (amX0_heldPitches _) 13 (tgt := 26) (C := (sSw (hol (nI i).toNatClampNeg) n) = 0) (C' := ¬ (sSw (hol (nI i).toNatClampNeg) n) = 0) (st' := []) rfl rfl rfl (fun c2 => ?_) (fun c2 => ?_)
      · refine AW.blk (amX0_heldPitches _) 15 2 (h' := hC mud car wal hol paid rain place str bro pen swe dri n q) (pc' := 4) (lv' := [(2, .int ((nI i) + 1)), (1, .int a), (0, .ref 0)]) (st' := []) (L := []) rfl trivial ?_
        rw [nI_1 i]
        exact ih (i + 1) _ (by omega) (by rw [← hf]; simp only [lpN, sHe1, if_neg c1, if_pos c2])
      · refine AW.blk (amX0_heldPitches _) 14 3 (h' := hC mud car wal hol paid rain place str bro pen swe dri n q) (pc' := 4) (lv' := [(2, .int ((nI i) + 1)), (1, .int (a + 1)), (0, .ref 0)]) (st' := []) (L := []) rfl trivial ?_
        rw [nI_1 i]
        exact ih (i + 1) _ (by omega) (by rw [← hf]; simp only [lpN, sHe1, if_neg c1, if_neg c2])
  refine AW.blk (amX0_heldPitches _) 0 4 (h' := hC mud car wal hol paid rain place str bro pen swe dri n q) (pc' := 4) (lv' := [(2, .int 0), (1, .int 0), (0, .ref 0)]) (st' := []) (L := []) rfl trivial ?_
  exact K 9 0 0 rfl rfl
set_option maxHeartbeats 1000000 in
theorem kX0_sweepersAt (mud car wal hol paid rain place str bro pen swe dri : Nat → Int32) (n q : Int32) (c : Int32) : AMet yX0_sweepersAt cX0_sweepersAt 4 (some .int) { frames := 0, cells := 0, slots := 0, locals := 0 } [.ref 0, .int c] (hC mud car wal hol paid rain place str bro pen swe dri n q) (some (.int (sAt c n place))) (hC mud car wal hol paid rain place str bro pen swe dri n q) := by
  refine AMet.of (by decide) rfl ?_
  intro G hR hE hI
  have E : ∀ (a : Int32), a = sAt c n place → AW G (yX0_sweepersAt.cls, cX0_sweepersAt, 4, 13) (hC mud car wal hol paid rain place str bro pen swe dri n q) 0 0 37 [(2, .int a), (1, .int c), (0, .ref 0)] [] := by
    intro a hf
    refine AW.blk (amX0_sweepersAt _) 20 1 (h' := hC mud car wal hol paid rain place str bro pen swe dri n q) (pc' := 38) (lv' := [(2, .int a), (1, .int c), (0, .ref 0)]) (st' := [.int a]) (L := []) rfl trivial ?_
    exact AW.iretE (amX0_sweepersAt _) 21 hE rfl rfl (by first | rfl | exact narrow_b _ (by decide)) rfl rfl (by rw [← hf]) (by first | rfl | (rw [← hf]))
  have K : ∀ (k i : Nat) (a : Int32), i + k = 8 → lpS n (sAt1 c place) k i a = sAt c n place → AW G (yX0_sweepersAt.cls, cX0_sweepersAt, 4, 13) (hC mud car wal hol paid rain place str bro pen swe dri n q) 0 0 4 [(3, .int (nI i)), (2, .int a), (1, .int c), (0, .ref 0)] [] := by
    intro k
    induction k with
    | zero =>
      intro i a hi hf
      refine AW.blk (amX0_sweepersAt _) 4 2 (h' := hC mud car wal hol paid rain place str bro pen swe dri n q) (pc' := 7) (lv' := [(3, .int (nI i)), (2, .int a), (1, .int c), (0, .ref 0)]) (st' := [.int 8, .int (nI i)]) (L := []) rfl trivial ?_
      refine AW.br (amX0_sweepersAt _) 6 (tgt := 37) (C := 8 ≤ (nI i)) (C' := ¬ 8 ≤ (nI i)) (st' := []) rfl rfl rfl (fun c1 => ?_) (fun c1 => absurd (nI_le (a := 8) (b := i) (by omega) (by omega)) c1)
      refine AW.pick [1, 2, 3] (lv' := [(2, .int a), (1, .int c), (0, .ref 0)]) rfl ?_
      exact E _ hf
    | succ k ih =>
      intro i a hi hf
      refine AW.blk (amX0_sweepersAt _) 4 2 (h' := hC mud car wal hol paid rain place str bro pen swe dri n q) (pc' := 7) (lv' := [(3, .int (nI i)), (2, .int a), (1, .int c), (0, .ref 0)]) (st' := [.int 8, .int (nI i)]) (L := []) rfl trivial ?_
      refine AW.br (amX0_sweepersAt _) 6 (tgt := 37) (C := 8 ≤ (nI i)) (C' := ¬ 8 ≤ (nI i)) (st' := []) rfl rfl rfl (fun c1 => absurd c1 (nI_ge (a := i) (b := 8) (by omega) (by decide))) (fun c1 => ?_)
      refine AW.blk (amX0_sweepersAt _) 7 3 (h' := hC mud car wal hol paid rain place str bro pen swe dri n q) (pc' := 15) (lv' := [(3, .int (nI i)), (2, .int a), (1, .int c), (0, .ref 0)]) (st' := [.int n, .int (nI i)]) (L := []) rfl trivial ?_
      refine AW.br (amX0_sweepersAt _) 10 (tgt := 37) (C := n ≤ (nI i)) (C' := ¬ n ≤ (nI i)) (st' := []) rfl rfl rfl (fun c2 => ?_) (fun c2 => ?_)
      · refine AW.pick [1, 2, 3] (lv' := [(2, .int a), (1, .int c), (0, .ref 0)]) rfl ?_
        exact E _ (by rw [← hf]; simp only [lpS, if_neg c1, if_pos c2])
      · refine AW.blk (amX0_sweepersAt _) 11 5 (h' := hC mud car wal hol paid rain place str bro pen swe dri n q) (pc' := 25) (lv' := [(3, .int (nI i)), (2, .int a), (1, .int c), (0, .ref 0)]) (st' := [.int c, .int (place (nI i).toNatClampNeg)]) (L := [vp_in (nI i) 8]) rfl (vpi (by omega) rfl) ?_
        refine AW.br (amX0_sweepersAt _) 16 (tgt := 31) (C := ¬ (place (nI i).toNatClampNeg) = c) (C' := (place (nI i).toNatClampNeg) = c) (st' := []) rfl rfl rfl (fun c3 => ?_) (fun c3 => ?_)
        · refine AW.blk (amX0_sweepersAt _) 18 2 (h' := hC mud car wal hol paid rain place str bro pen swe dri n q) (pc' := 4) (lv' := [(3, .int ((nI i) + 1)), (2, .int a), (1, .int c), (0, .ref 0)]) (st' := []) (L := []) rfl trivial ?_
          rw [nI_1 i]
          exact ih (i + 1) _ (by omega) (by rw [← hf]; simp only [lpS, sAt1, if_neg c1, if_neg c2, if_neg c3])
        · refine AW.blk (amX0_sweepersAt _) 17 3 (h' := hC mud car wal hol paid rain place str bro pen swe dri n q) (pc' := 4) (lv' := [(3, .int ((nI i) + 1)), (2, .int (a + 1)), (1, .int c), (0, .ref 0)]) (st' := []) (L := []) rfl trivial ?_
          rw [nI_1 i]
          exact ih (i + 1) _ (by omega) (by rw [← hf]; simp only [lpS, sAt1, if_neg c1, if_neg c2, if_pos c3])
  refine AW.blk (amX0_sweepersAt _) 0 4 (h' := hC mud car wal hol paid rain place str bro pen swe dri n q) (pc' := 4) (lv' := [(3, .int 0), (2, .int 0), (0, .ref 0), (1, .int c)]) (st' := []) (L := []) rfl trivial ?_
  refine AW.pick [0, 1, 3, 2] (lv' := [(3, .int 0), (2, .int 0), (1, .int c), (0, .ref 0)]) rfl ?_
  exact K 8 0 0 rfl rfl
set_option maxHeartbeats 1000000 in
theorem kX0_cleanCrossings (mud car wal hol paid rain place str bro pen swe dri : Nat → Int32) (n q : Int32) : AMet yX0_cleanCrossings cX0_cleanCrossings 3 (some .int) { frames := 0, cells := 0, slots := 0, locals := 0 } [.ref 0] (hC mud car wal hol paid rain place str bro pen swe dri n q) (some (.int (sClean mud))) (hC mud car wal hol paid rain place str bro pen swe dri n q) := by
  refine AMet.of (by decide) rfl ?_
  intro G hR hE hI
  have E : ∀ (a : Int32), a = sClean mud → AW G (yX0_cleanCrossings.cls, cX0_cleanCrossings, 3, 13) (hC mud car wal hol paid rain place str bro pen swe dri n q) 0 0 29 [(1, .int a), (0, .ref 0)] [] := by
    intro a hf
    refine AW.blk (amX0_cleanCrossings _) 16 1 (h' := hC mud car wal hol paid rain place str bro pen swe dri n q) (pc' := 30) (lv' := [(1, .int a), (0, .ref 0)]) (st' := [.int a]) (L := []) rfl trivial ?_
    exact AW.iretE (amX0_cleanCrossings _) 17 hE rfl rfl (by first | rfl | exact narrow_b _ (by decide)) rfl rfl (by rw [← hf]) (by first | rfl | (rw [← hf]))
  have K : ∀ (k i : Nat) (a : Int32), i + k = 9 → lpN (sCl1 mud) k i a = sClean mud → AW G (yX0_cleanCrossings.cls, cX0_cleanCrossings, 3, 13) (hC mud car wal hol paid rain place str bro pen swe dri n q) 0 0 4 [(2, .int (nI i)), (1, .int a), (0, .ref 0)] [] := by
    intro k
    induction k with
    | zero =>
      intro i a hi hf
      refine AW.blk (amX0_cleanCrossings _) 4 2 (h' := hC mud car wal hol paid rain place str bro pen swe dri n q) (pc' := 7) (lv' := [(2, .int (nI i)), (1, .int a), (0, .ref 0)]) (st' := [.int 9, .int (nI i)]) (L := []) rfl trivial ?_
      refine AW.br (amX0_cleanCrossings _) 6 (tgt := 29) (C := 9 ≤ (nI i)) (C' := ¬ 9 ≤ (nI i)) (st' := []) rfl rfl rfl (fun c1 => ?_) (fun c1 => absurd (nI_le (a := 9) (b := i) (by omega) (by omega)) c1)
      refine AW.pick [1, 2] (lv' := [(1, .int a), (0, .ref 0)]) rfl ?_
      exact E _ hf
    | succ k ih =>
      intro i a hi hf
      refine AW.blk (amX0_cleanCrossings _) 4 2 (h' := hC mud car wal hol paid rain place str bro pen swe dri n q) (pc' := 7) (lv' := [(2, .int (nI i)), (1, .int a), (0, .ref 0)]) (st' := [.int 9, .int (nI i)]) (L := []) rfl trivial ?_
      refine AW.br (amX0_cleanCrossings _) 6 (tgt := 29) (C := 9 ≤ (nI i)) (C' := ¬ 9 ≤ (nI i)) (st' := []) rfl rfl rfl (fun c1 => absurd c1 (nI_ge (a := i) (b := 9) (by omega) (by decide))) (fun c1 => ?_)
      refine AW.blk (amX0_cleanCrossings _) 7 5 (h' := hC mud car wal hol paid rain place str bro pen swe dri n q) (pc' := 17) (lv' := [(2, .int (nI i)), (1, .int a), (0, .ref 0)]) (st' := [.int 5, .int (mud (nI i).toNatClampNeg)]) (L := [vp_in (nI i) 9]) rfl (vpi (by omega) rfl) ?_
      refine AW.br (amX0_cleanCrossings _) 12 (tgt := 23) (C := 5 < (mud (nI i).toNatClampNeg)) (C' := ¬ 5 < (mud (nI i).toNatClampNeg)) (st' := []) rfl rfl rfl (fun c2 => ?_) (fun c2 => ?_)
      · refine AW.blk (amX0_cleanCrossings _) 14 2 (h' := hC mud car wal hol paid rain place str bro pen swe dri n q) (pc' := 4) (lv' := [(2, .int ((nI i) + 1)), (1, .int a), (0, .ref 0)]) (st' := []) (L := []) rfl trivial ?_
        rw [nI_1 i]
        exact ih (i + 1) _ (by omega) (by rw [← hf]; simp only [lpN, sCl1, if_neg c1, if_pos c2])
      · refine AW.blk (amX0_cleanCrossings _) 13 3 (h' := hC mud car wal hol paid rain place str bro pen swe dri n q) (pc' := 4) (lv' := [(2, .int ((nI i) + 1)), (1, .int (a + 1)), (0, .ref 0)]) (st' := []) (L := []) rfl trivial ?_
        rw [nI_1 i]
        exact ih (i + 1) _ (by omega) (by rw [← hf]; simp only [lpN, sCl1, if_neg c1, if_neg c2])
  refine AW.blk (amX0_cleanCrossings _) 0 4 (h' := hC mud car wal hol paid rain place str bro pen swe dri n q) (pc' := 4) (lv' := [(2, .int 0), (1, .int 0), (0, .ref 0)]) (st' := []) (L := []) rfl trivial ?_
  exact K 9 0 0 rfl rfl
set_option maxHeartbeats 1000000 in
theorem kX0_allMud (mud car wal hol paid rain place str bro pen swe dri : Nat → Int32) (n q : Int32) : AMet yX0_allMud cX0_allMud 1 (some .int) { frames := 1, cells := 0, slots := 0, locals := 22 } [.ref 0] (hC mud car wal hol paid rain place str bro pen swe dri n q) (some (.int (sSum mud 9))) (hC mud car wal hol paid rain place str bro pen swe dri n q) := by
  refine AMet.of (by decide) rfl ?_
  intro G hR hE hI
  refine AW.blk (amX0_allMud _) 0 2 (h' := hC mud car wal hol paid rain place str bro pen swe dri n q) (pc' := 4) (lv' := [(0, .ref 0)]) (st' := [.ref 1]) (L := []) rfl trivial ?_
  refine AW.callS (amX0_allMud _) 2 (kX0_sum_9 mud) [1] [] ykX0_sum ysX0_sum mlX0_120 rfl rfl rfl rfl hR ⟨Nat.le_of_ble_eq_true rfl, Nat.le_of_ble_eq_true rfl, Nat.le_of_ble_eq_true rfl, Nat.le_of_ble_eq_true rfl⟩ rfl rfl rfl rfl rfl (fun _ => rfl) (h1 := hC mud car wal hol paid rain place str bro pen swe dri n q) rfl (st' := [.int (sSum mud 9)]) rfl ?_
  exact AW.iretE (amX0_allMud _) 3 hE rfl rfl (by first | rfl | exact narrow_b _ (by decide)) rfl rfl (rfl) rfl
/-- facts of a sweeper, of a crossing, of the city -/
def sSF (s n : Int32) (hol place str bro pen swe dri : Nat → Int32) : Nat → Int32
  | 0 => place s.toNatClampNeg
  | 1 => str s.toNatClampNeg
  | 2 => bro s.toNatClampNeg
  | 3 => pen s.toNatClampNeg
  | 4 => if sHP s n place hol = 0 then 0 else 1
  | 5 => swe s.toNatClampNeg
  | 6 => dri s.toNatClampNeg
  | _ => sRe s n str bro
def sCF (c n : Int32) (mud car wal hol paid place : Nat → Int32) : Nat → Int32
  | 0 => mud c.toNatClampNeg
  | 1 => car c.toNatClampNeg
  | 2 => wal c.toNatClampNeg
  | 3 => hol c.toNatClampNeg
  | 4 => sAt c n place
  | _ => paid c.toNatClampNeg
def sGF (n q : Int32) (mud hol pen swe dri : Nat → Int32) : Nat → Int32
  | 0 => q
  | 1 => n
  | 2 => sHeld n hol
  | 3 => sSum mud 9
  | 4 => sSum pen 8
  | 5 => sClean mud
  | 6 => sSum swe 8
  | _ => sSum dri 8
set_option maxHeartbeats 1000000 in
theorem kX0_sweeperFact_0 (mud car wal hol paid rain place str bro pen swe dri : Nat → Int32) (n q : Int32) (s : Int32) (hs : ¬ sSw s n = 0) : AMet yX0_sweeperFact cX0_sweeperFact 3 (some .int) { frames := 2, cells := 0, slots := 0, locals := 42 } [.ref 0, .int s, .int (nI 0)] (hC mud car wal hol paid rain place str bro pen swe dri n q) (some (.int (sSF s n hol place str bro pen swe dri 0))) (hC mud car wal hol paid rain place str bro pen swe dri n q) := by
  refine AMet.of (by decide) rfl ?_
  intro G hR hE hI
  refine AW.blk (amX0_sweeperFact _) 0 2 (h' := hC mud car wal hol paid rain place str bro pen swe dri n q) (pc' := 2) (lv' := [(0, .ref 0), (1, .int s), (2, .int (nI 0))]) (st' := [.int s, .ref 0]) (L := []) rfl trivial ?_
  refine AW.callV (amX0_sweeperFact _) 2 (kX0_isSweeper mud car wal hol paid rain place str bro pen swe dri n q s) rfl rfl [0, 1, 2, 3, 4, 5, 6, 7, 8, 9, 10, 11, 12] [] ykX0_isSweeper yiX0_isSweeper yvX0_isSweeper mlX0_61 rfl rfl rfl rfl hR ⟨Nat.le_of_ble_eq_true rfl, Nat.le_of_ble_eq_true rfl, Nat.le_of_ble_eq_true rfl, Nat.le_of_ble_eq_true rfl⟩ rfl rfl rfl rfl rfl (fun _ => rfl) (h1 := hC mud car wal hol paid rain place str bro pen swe dri n q) rfl (st' := [.int (sSw s n)]) rfl ?_
  refine AW.br (amX0_sweeperFact _) 3 (tgt := 10) (C := ¬ (sSw s n) = 0) (C' := (sSw s n) = 0) (st' := []) rfl rfl rfl (fun c1 => ?_) (fun c1 => absurd c1 hs)
  refine AW.blk (amX0_sweeperFact _) 6 1 (h' := hC mud car wal hol paid rain place str bro pen swe dri n q) (pc' := 11) (lv' := [(0, .ref 0), (1, .int s), (2, .int (nI 0))]) (st' := [.int (nI 0)]) (L := []) rfl trivial ?_
  refine AW.swIn (tgt := 52) (off := 41) swX0_sweeperFact_11 (by decide) (by decide) rfl rfl ?_
  refine AW.blk (amX0_sweeperFact _) 7 4 (h' := hC mud car wal hol paid rain place str bro pen swe dri n q) (pc' := 58) (lv' := [(0, .ref 0), (1, .int s), (2, .int (nI 0))]) (st' := [.int (place s.toNatClampNeg)]) (L := [vp_in s 8]) rfl (sSw_in c1) ?_
  exact AW.iretE (amX0_sweeperFact _) 11 hE rfl rfl (by first | rfl | exact narrow_b _ (by decide)) rfl rfl (by simp only [sSF, if_neg c1]) rfl
set_option maxHeartbeats 1000000 in
theorem kX0_sweeperFact_1 (mud car wal hol paid rain place str bro pen swe dri : Nat → Int32) (n q : Int32) (s : Int32) (hs : ¬ sSw s n = 0) : AMet yX0_sweeperFact cX0_sweeperFact 3 (some .int) { frames := 2, cells := 0, slots := 0, locals := 42 } [.ref 0, .int s, .int (nI 1)] (hC mud car wal hol paid rain place str bro pen swe dri n q) (some (.int (sSF s n hol place str bro pen swe dri 1))) (hC mud car wal hol paid rain place str bro pen swe dri n q) := by
  refine AMet.of (by decide) rfl ?_
  intro G hR hE hI
  refine AW.blk (amX0_sweeperFact _) 0 2 (h' := hC mud car wal hol paid rain place str bro pen swe dri n q) (pc' := 2) (lv' := [(0, .ref 0), (1, .int s), (2, .int (nI 1))]) (st' := [.int s, .ref 0]) (L := []) rfl trivial ?_
  refine AW.callV (amX0_sweeperFact _) 2 (kX0_isSweeper mud car wal hol paid rain place str bro pen swe dri n q s) rfl rfl [0, 1, 2, 3, 4, 5, 6, 7, 8, 9, 10, 11, 12] [] ykX0_isSweeper yiX0_isSweeper yvX0_isSweeper mlX0_61 rfl rfl rfl rfl hR ⟨Nat.le_of_ble_eq_true rfl, Nat.le_of_ble_eq_true rfl, Nat.le_of_ble_eq_true rfl, Nat.le_of_ble_eq_true rfl⟩ rfl rfl rfl rfl rfl (fun _ => rfl) (h1 := hC mud car wal hol paid rain place str bro pen swe dri n q) rfl (st' := [.int (sSw s n)]) rfl ?_
  refine AW.br (amX0_sweeperFact _) 3 (tgt := 10) (C := ¬ (sSw s n) = 0) (C' := (sSw s n) = 0) (st' := []) rfl rfl rfl (fun c1 => ?_) (fun c1 => absurd c1 hs)
  refine AW.blk (amX0_sweeperFact _) 6 1 (h' := hC mud car wal hol paid rain place str bro pen swe dri n q) (pc' := 11) (lv' := [(0, .ref 0), (1, .int s), (2, .int (nI 1))]) (st' := [.int (nI 1)]) (L := []) rfl trivial ?_
  refine AW.swIn (tgt := 59) (off := 48) swX0_sweeperFact_11 (by decide) (by decide) rfl rfl ?_
  refine AW.blk (amX0_sweeperFact _) 12 4 (h' := hC mud car wal hol paid rain place str bro pen swe dri n q) (pc' := 65) (lv' := [(0, .ref 0), (1, .int s), (2, .int (nI 1))]) (st' := [.int (str s.toNatClampNeg)]) (L := [vp_in s 8]) rfl (sSw_in c1) ?_
  exact AW.iretE (amX0_sweeperFact _) 16 hE rfl rfl (by first | rfl | exact narrow_b _ (by decide)) rfl rfl (by simp only [sSF, if_neg c1]) rfl
set_option maxHeartbeats 1000000 in
theorem kX0_sweeperFact_2 (mud car wal hol paid rain place str bro pen swe dri : Nat → Int32) (n q : Int32) (s : Int32) (hs : ¬ sSw s n = 0) : AMet yX0_sweeperFact cX0_sweeperFact 3 (some .int) { frames := 2, cells := 0, slots := 0, locals := 42 } [.ref 0, .int s, .int (nI 2)] (hC mud car wal hol paid rain place str bro pen swe dri n q) (some (.int (sSF s n hol place str bro pen swe dri 2))) (hC mud car wal hol paid rain place str bro pen swe dri n q) := by
  refine AMet.of (by decide) rfl ?_
  intro G hR hE hI
  refine AW.blk (amX0_sweeperFact _) 0 2 (h' := hC mud car wal hol paid rain place str bro pen swe dri n q) (pc' := 2) (lv' := [(0, .ref 0), (1, .int s), (2, .int (nI 2))]) (st' := [.int s, .ref 0]) (L := []) rfl trivial ?_
  refine AW.callV (amX0_sweeperFact _) 2 (kX0_isSweeper mud car wal hol paid rain place str bro pen swe dri n q s) rfl rfl [0, 1, 2, 3, 4, 5, 6, 7, 8, 9, 10, 11, 12] [] ykX0_isSweeper yiX0_isSweeper yvX0_isSweeper mlX0_61 rfl rfl rfl rfl hR ⟨Nat.le_of_ble_eq_true rfl, Nat.le_of_ble_eq_true rfl, Nat.le_of_ble_eq_true rfl, Nat.le_of_ble_eq_true rfl⟩ rfl rfl rfl rfl rfl (fun _ => rfl) (h1 := hC mud car wal hol paid rain place str bro pen swe dri n q) rfl (st' := [.int (sSw s n)]) rfl ?_
  refine AW.br (amX0_sweeperFact _) 3 (tgt := 10) (C := ¬ (sSw s n) = 0) (C' := (sSw s n) = 0) (st' := []) rfl rfl rfl (fun c1 => ?_) (fun c1 => absurd c1 hs)
  refine AW.blk (amX0_sweeperFact _) 6 1 (h' := hC mud car wal hol paid rain place str bro pen swe dri n q) (pc' := 11) (lv' := [(0, .ref 0), (1, .int s), (2, .int (nI 2))]) (st' := [.int (nI 2)]) (L := []) rfl trivial ?_
  refine AW.swIn (tgt := 66) (off := 55) swX0_sweeperFact_11 (by decide) (by decide) rfl rfl ?_
  refine AW.blk (amX0_sweeperFact _) 17 4 (h' := hC mud car wal hol paid rain place str bro pen swe dri n q) (pc' := 72) (lv' := [(0, .ref 0), (1, .int s), (2, .int (nI 2))]) (st' := [.int (bro s.toNatClampNeg)]) (L := [vp_in s 8]) rfl (sSw_in c1) ?_
  exact AW.iretE (amX0_sweeperFact _) 21 hE rfl rfl (by first | rfl | exact narrow_b _ (by decide)) rfl rfl (by simp only [sSF, if_neg c1]) rfl
set_option maxHeartbeats 1000000 in
theorem kX0_sweeperFact_3 (mud car wal hol paid rain place str bro pen swe dri : Nat → Int32) (n q : Int32) (s : Int32) (hs : ¬ sSw s n = 0) : AMet yX0_sweeperFact cX0_sweeperFact 3 (some .int) { frames := 2, cells := 0, slots := 0, locals := 42 } [.ref 0, .int s, .int (nI 3)] (hC mud car wal hol paid rain place str bro pen swe dri n q) (some (.int (sSF s n hol place str bro pen swe dri 3))) (hC mud car wal hol paid rain place str bro pen swe dri n q) := by
  refine AMet.of (by decide) rfl ?_
  intro G hR hE hI
  refine AW.blk (amX0_sweeperFact _) 0 2 (h' := hC mud car wal hol paid rain place str bro pen swe dri n q) (pc' := 2) (lv' := [(0, .ref 0), (1, .int s), (2, .int (nI 3))]) (st' := [.int s, .ref 0]) (L := []) rfl trivial ?_
  refine AW.callV (amX0_sweeperFact _) 2 (kX0_isSweeper mud car wal hol paid rain place str bro pen swe dri n q s) rfl rfl [0, 1, 2, 3, 4, 5, 6, 7, 8, 9, 10, 11, 12] [] ykX0_isSweeper yiX0_isSweeper yvX0_isSweeper mlX0_61 rfl rfl rfl rfl hR ⟨Nat.le_of_ble_eq_true rfl, Nat.le_of_ble_eq_true rfl, Nat.le_of_ble_eq_true rfl, Nat.le_of_ble_eq_true rfl⟩ rfl rfl rfl rfl rfl (fun _ => rfl) (h1 := hC mud car wal hol paid rain place str bro pen swe dri n q) rfl (st' := [.int (sSw s n)]) rfl ?_
  refine AW.br (amX0_sweeperFact _) 3 (tgt := 10) (C := ¬ (sSw s n) = 0) (C' := (sSw s n) = 0) (st' := []) rfl rfl rfl (fun c1 => ?_) (fun c1 => absurd c1 hs)
  refine AW.blk (amX0_sweeperFact _) 6 1 (h' := hC mud car wal hol paid rain place str bro pen swe dri n q) (pc' := 11) (lv' := [(0, .ref 0), (1, .int s), (2, .int (nI 3))]) (st' := [.int (nI 3)]) (L := []) rfl trivial ?_
  refine AW.swIn (tgt := 73) (off := 62) swX0_sweeperFact_11 (by decide) (by decide) rfl rfl ?_
  refine AW.blk (amX0_sweeperFact _) 22 4 (h' := hC mud car wal hol paid rain place str bro pen swe dri n q) (pc' := 79) (lv' := [(0, .ref 0), (1, .int s), (2, .int (nI 3))]) (st' := [.int (pen s.toNatClampNeg)]) (L := [vp_in s 8]) rfl (sSw_in c1) ?_
  exact AW.iretE (amX0_sweeperFact _) 26 hE rfl rfl (by first | rfl | exact narrow_b _ (by decide)) rfl rfl (by simp only [sSF, if_neg c1]) rfl
set_option maxHeartbeats 1000000 in
theorem kX0_sweeperFact_4 (mud car wal hol paid rain place str bro pen swe dri : Nat → Int32) (n q : Int32) (s : Int32) (hs : ¬ sSw s n = 0) : AMet yX0_sweeperFact cX0_sweeperFact 3 (some .int) { frames := 2, cells := 0, slots := 0, locals := 42 } [.ref 0, .int s, .int (nI 4)] (hC mud car wal hol paid rain place str bro pen swe dri n q) (some (.int (sSF s n hol place str bro pen swe dri 4))) (hC mud car wal hol paid rain place str bro pen swe dri n q) := by
  refine AMet.of (by decide) rfl ?_
  intro G hR hE hI
  refine AW.blk (amX0_sweeperFact _) 0 2 (h' := hC mud car wal hol paid rain place str bro pen swe dri n q) (pc' := 2) (lv' := [(0, .ref 0), (1, .int s), (2, .int (nI 4))]) (st' := [.int s, .ref 0]) (L := []) rfl trivial ?_
  refine AW.callV (amX0_sweeperFact _) 2 (kX0_isSweeper mud car wal hol paid rain place str bro pen swe dri n q s) rfl rfl [0, 1, 2, 3, 4, 5, 6, 7, 8, 9, 10, 11, 12] [] ykX0_isSweeper yiX0_isSweeper yvX0_isSweeper mlX0_61 rfl rfl rfl rfl hR ⟨Nat.le_of_ble_eq_true rfl, Nat.le_of_ble_eq_true rfl, Nat.le_of_ble_eq_true rfl, Nat.le_of_ble_eq_true rfl⟩ rfl rfl rfl rfl rfl (fun _ => rfl) (h1 := hC mud car wal hol paid rain place str bro pen swe dri n q) rfl (st' := [.int (sSw s n)]) rfl ?_
  refine AW.br (amX0_sweeperFact _) 3 (tgt := 10) (C := ¬ (sSw s n) = 0) (C' := (sSw s n) = 0) (st' := []) rfl rfl rfl (fun c1 => ?_) (fun c1 => absurd c1 hs)
  refine AW.blk (amX0_sweeperFact _) 6 1 (h' := hC mud car wal hol paid rain place str bro pen swe dri n q) (pc' := 11) (lv' := [(0, .ref 0), (1, .int s), (2, .int (nI 4))]) (st' := [.int (nI 4)]) (L := []) rfl trivial ?_
  refine AW.swIn (tgt := 80) (off := 69) swX0_sweeperFact_11 (by decide) (by decide) rfl rfl ?_
  refine AW.blk (amX0_sweeperFact _) 27 2 (h' := hC mud car wal hol paid rain place str bro pen swe dri n q) (pc' := 82) (lv' := [(0, .ref 0), (1, .int s), (2, .int (nI 4))]) (st' := [.int s, .ref 0]) (L := []) rfl trivial ?_
  refine AW.callV (amX0_sweeperFact _) 29 (kX0_holdsPitch mud car wal hol paid rain place str bro pen swe dri n q s) rfl rfl [0, 1, 2, 3, 4, 5, 6, 7, 8, 9, 10, 11, 12] [] ykX0_holdsPitch yiX0_holdsPitch yvX0_holdsPitch mlX0_88 rfl rfl rfl rfl hR ⟨Nat.le_of_ble_eq_true rfl, Nat.le_of_ble_eq_true rfl, Nat.le_of_ble_eq_true rfl, Nat.le_of_ble_eq_true rfl⟩ rfl rfl rfl rfl rfl (fun _ => rfl) (h1 := hC mud car wal hol paid rain place str bro pen swe dri n q) rfl (st' := [.int (sHP s n place hol)]) rfl ?_
  refine AW.br (amX0_sweeperFact _) 30 (tgt := 92) (C := (sHP s n place hol) = 0) (C' := ¬ (sHP s n place hol) = 0) (st' := []) rfl rfl rfl (fun c2 => ?_) (fun c2 => ?_)
  · refine AW.blk (amX0_sweeperFact _) 33 1 (h' := hC mud car wal hol paid rain place str bro pen swe dri n q) (pc' := 93) (lv' := [(0, .ref 0), (1, .int s), (2, .int (nI 4))]) (st' := [.int 0]) (L := []) rfl trivial ?_
    exact AW.iretE (amX0_sweeperFact _) 34 hE rfl rfl (by first | rfl | exact narrow_b _ (by decide)) rfl rfl (by simp only [sSF, if_neg c1, if_pos c2]) rfl
  · refine AW.blk (amX0_sweeperFact _) 31 2 (h' := hC mud car wal hol paid rain place str bro pen swe dri n q) (pc' := 93) (lv' := [(0, .ref 0), (1, .int s), (2, .int (nI 4))]) (st' := [.int 1]) (L := []) rfl trivial ?_
    exact AW.iretE (amX0_sweeperFact _) 34 hE rfl rfl (by first | rfl | exact narrow_b _ (by decide)) rfl rfl (by simp only [sSF, if_neg c1, if_neg c2]) rfl
set_option maxHeartbeats 1000000 in
theorem kX0_sweeperFact_5 (mud car wal hol paid rain place str bro pen swe dri : Nat → Int32) (n q : Int32) (s : Int32) (hs : ¬ sSw s n = 0) : AMet yX0_sweeperFact cX0_sweeperFact 3 (some .int) { frames := 2, cells := 0, slots := 0, locals := 42 } [.ref 0, .int s, .int (nI 5)] (hC mud car wal hol paid rain place str bro pen swe dri n q) (some (.int (sSF s n hol place str bro pen swe dri 5))) (hC mud car wal hol paid rain place str bro pen swe dri n q) := by
  refine AMet.of (by decide) rfl ?_
  intro G hR hE hI
  refine AW.blk (amX0_sweeperFact _) 0 2 (h' := hC mud car wal hol paid rain place str bro pen swe dri n q) (pc' := 2) (lv' := [(0, .ref 0), (1, .int s), (2, .int (nI 5))]) (st' := [.int s, .ref 0]) (L := []) rfl trivial ?_
  refine AW.callV (amX0_sweeperFact _) 2 (kX0_isSweeper mud car wal hol paid rain place str bro pen swe dri n q s) rfl rfl [0, 1, 2, 3, 4, 5, 6, 7, 8, 9, 10, 11, 12] [] ykX0_isSweeper yiX0_isSweeper yvX0_isSweeper mlX0_61 rfl rfl rfl rfl hR ⟨Nat.le_of_ble_eq_true rfl, Nat.le_of_ble_eq_true rfl, Nat.le_of_ble_eq_true rfl, Nat.le_of_ble_eq_true rfl⟩ rfl rfl rfl rfl rfl (fun _ => rfl) (h1 := hC mud car wal hol paid rain place str bro pen swe dri n q) rfl (st' := [.int (sSw s n)]) rfl ?_
  refine AW.br (amX0_sweeperFact _) 3 (tgt := 10) (C := ¬ (sSw s n) = 0) (C' := (sSw s n) = 0) (st' := []) rfl rfl rfl (fun c1 => ?_) (fun c1 => absurd c1 hs)
  refine AW.blk (amX0_sweeperFact _) 6 1 (h' := hC mud car wal hol paid rain place str bro pen swe dri n q) (pc' := 11) (lv' := [(0, .ref 0), (1, .int s), (2, .int (nI 5))]) (st' := [.int (nI 5)]) (L := []) rfl trivial ?_
  refine AW.swIn (tgt := 94) (off := 83) swX0_sweeperFact_11 (by decide) (by decide) rfl rfl ?_
  refine AW.blk (amX0_sweeperFact _) 35 4 (h' := hC mud car wal hol paid rain place str bro pen swe dri n q) (pc' := 100) (lv' := [(0, .ref 0), (1, .int s), (2, .int (nI 5))]) (st' := [.int (swe s.toNatClampNeg)]) (L := [vp_in s 8]) rfl (sSw_in c1) ?_
  exact AW.iretE (amX0_sweeperFact _) 39 hE rfl rfl (by first | rfl | exact narrow_b _ (by decide)) rfl rfl (by simp only [sSF, if_neg c1]) rfl
set_option maxHeartbeats 1000000 in
theorem kX0_sweeperFact_6 (mud car wal hol paid rain place str bro pen swe dri : Nat → Int32) (n q : Int32) (s : Int32) (hs : ¬ sSw s n = 0) : AMet yX0_sweeperFact cX0_sweeperFact 3 (some .int) { frames := 2, cells := 0, slots := 0, locals := 42 } [.ref 0, .int s, .int (nI 6)] (hC mud car wal hol paid rain place str bro pen swe dri n q) (some (.int (sSF s n hol place str bro pen swe dri 6))) (hC mud car wal hol paid rain place str bro pen swe dri n q) := by
  refine AMet.of (by decide) rfl ?_
  intro G hR hE hI
  refine AW.blk (amX0_sweeperFact _) 0 2 (h' := hC mud car wal hol paid rain place str bro pen swe dri n q) (pc' := 2) (lv' := [(0, .ref 0), (1, .int s), (2, .int (nI 6))]) (st' := [.int s, .ref 0]) (L := []) rfl trivial ?_
  refine AW.callV (amX0_sweeperFact _) 2 (kX0_isSweeper mud car wal hol paid rain place str bro pen swe dri n q s) rfl rfl [0, 1, 2, 3, 4, 5, 6, 7, 8, 9, 10, 11, 12] [] ykX0_isSweeper yiX0_isSweeper yvX0_isSweeper mlX0_61 rfl rfl rfl rfl hR ⟨Nat.le_of_ble_eq_true rfl, Nat.le_of_ble_eq_true rfl, Nat.le_of_ble_eq_true rfl, Nat.le_of_ble_eq_true rfl⟩ rfl rfl rfl rfl rfl (fun _ => rfl) (h1 := hC mud car wal hol paid rain place str bro pen swe dri n q) rfl (st' := [.int (sSw s n)]) rfl ?_
  refine AW.br (amX0_sweeperFact _) 3 (tgt := 10) (C := ¬ (sSw s n) = 0) (C' := (sSw s n) = 0) (st' := []) rfl rfl rfl (fun c1 => ?_) (fun c1 => absurd c1 hs)
  refine AW.blk (amX0_sweeperFact _) 6 1 (h' := hC mud car wal hol paid rain place str bro pen swe dri n q) (pc' := 11) (lv' := [(0, .ref 0), (1, .int s), (2, .int (nI 6))]) (st' := [.int (nI 6)]) (L := []) rfl trivial ?_
  refine AW.swIn (tgt := 101) (off := 90) swX0_sweeperFact_11 (by decide) (by decide) rfl rfl ?_
  refine AW.blk (amX0_sweeperFact _) 40 4 (h' := hC mud car wal hol paid rain place str bro pen swe dri n q) (pc' := 107) (lv' := [(0, .ref 0), (1, .int s), (2, .int (nI 6))]) (st' := [.int (dri s.toNatClampNeg)]) (L := [vp_in s 8]) rfl (sSw_in c1) ?_
  exact AW.iretE (amX0_sweeperFact _) 44 hE rfl rfl (by first | rfl | exact narrow_b _ (by decide)) rfl rfl (by simp only [sSF, if_neg c1]) rfl
set_option maxHeartbeats 1000000 in
theorem kX0_sweeperFact_7 (mud car wal hol paid rain place str bro pen swe dri : Nat → Int32) (n q : Int32) (s : Int32) (hs : ¬ sSw s n = 0) : AMet yX0_sweeperFact cX0_sweeperFact 3 (some .int) { frames := 2, cells := 0, slots := 0, locals := 42 } [.ref 0, .int s, .int (nI 7)] (hC mud car wal hol paid rain place str bro pen swe dri n q) (some (.int (sSF s n hol place str bro pen swe dri 7))) (hC mud car wal hol paid rain place str bro pen swe dri n q) := by
  refine AMet.of (by decide) rfl ?_
  intro G hR hE hI
  refine AW.blk (amX0_sweeperFact _) 0 2 (h' := hC mud car wal hol paid rain place str bro pen swe dri n q) (pc' := 2) (lv' := [(0, .ref 0), (1, .int s), (2, .int (nI 7))]) (st' := [.int s, .ref 0]) (L := []) rfl trivial ?_
  refine AW.callV (amX0_sweeperFact _) 2 (kX0_isSweeper mud car wal hol paid rain place str bro pen swe dri n q s) rfl rfl [0, 1, 2, 3, 4, 5, 6, 7, 8, 9, 10, 11, 12] [] ykX0_isSweeper yiX0_isSweeper yvX0_isSweeper mlX0_61 rfl rfl rfl rfl hR ⟨Nat.le_of_ble_eq_true rfl, Nat.le_of_ble_eq_true rfl, Nat.le_of_ble_eq_true rfl, Nat.le_of_ble_eq_true rfl⟩ rfl rfl rfl rfl rfl (fun _ => rfl) (h1 := hC mud car wal hol paid rain place str bro pen swe dri n q) rfl (st' := [.int (sSw s n)]) rfl ?_
  refine AW.br (amX0_sweeperFact _) 3 (tgt := 10) (C := ¬ (sSw s n) = 0) (C' := (sSw s n) = 0) (st' := []) rfl rfl rfl (fun c1 => ?_) (fun c1 => absurd c1 hs)
  refine AW.blk (amX0_sweeperFact _) 6 1 (h' := hC mud car wal hol paid rain place str bro pen swe dri n q) (pc' := 11) (lv' := [(0, .ref 0), (1, .int s), (2, .int (nI 7))]) (st' := [.int (nI 7)]) (L := []) rfl trivial ?_
  refine AW.swOut (tgt := 108) swX0_sweeperFact_11 (by decide) rfl ?_
  refine AW.blk (amX0_sweeperFact _) 45 2 (h' := hC mud car wal hol paid rain place str bro pen swe dri n q) (pc' := 110) (lv' := [(0, .ref 0), (1, .int s), (2, .int (nI 7))]) (st' := [.int s, .ref 0]) (L := []) rfl trivial ?_
  refine AW.callV (amX0_sweeperFact _) 47 (kX0_reach mud car wal hol paid rain place str bro pen swe dri n q s) rfl rfl [0, 1, 2, 3, 4, 5, 6, 7, 8, 9, 10, 11, 12] [] ykX0_reach yiX0_reach yvX0_reach mlX0_95 rfl rfl rfl rfl hR ⟨Nat.le_of_ble_eq_true rfl, Nat.le_of_ble_eq_true rfl, Nat.le_of_ble_eq_true rfl, Nat.le_of_ble_eq_true rfl⟩ rfl rfl rfl rfl rfl (fun _ => rfl) (h1 := hC mud car wal hol paid rain place str bro pen swe dri n q) rfl (st' := [.int (sRe s n str bro)]) rfl ?_
  exact AW.iretE (amX0_sweeperFact _) 48 hE rfl rfl (by first | rfl | exact narrow_b _ (by decide)) rfl rfl (by simp only [sSF, if_neg c1]) rfl
theorem kX0_sweeperFact (mud car wal hol paid rain place str bro pen swe dri : Nat → Int32) (n q : Int32) (s : Int32) (hs : ¬ sSw s n = 0) : ∀ (w : Nat), w < 8 → AMet yX0_sweeperFact cX0_sweeperFact 3 (some .int) { frames := 2, cells := 0, slots := 0, locals := 42 } [.ref 0, .int s, .int (nI w)] (hC mud car wal hol paid rain place str bro pen swe dri n q) (some (.int (sSF s n hol place str bro pen swe dri w))) (hC mud car wal hol paid rain place str bro pen swe dri n q)
  | 0, _ => kX0_sweeperFact_0 mud car wal hol paid rain place str bro pen swe dri n q s hs
  | 1, _ => kX0_sweeperFact_1 mud car wal hol paid rain place str bro pen swe dri n q s hs
  | 2, _ => kX0_sweeperFact_2 mud car wal hol paid rain place str bro pen swe dri n q s hs
  | 3, _ => kX0_sweeperFact_3 mud car wal hol paid rain place str bro pen swe dri n q s hs
  | 4, _ => kX0_sweeperFact_4 mud car wal hol paid rain place str bro pen swe dri n q s hs
  | 5, _ => kX0_sweeperFact_5 mud car wal hol paid rain place str bro pen swe dri n q s hs
  | 6, _ => kX0_sweeperFact_6 mud car wal hol paid rain place str bro pen swe dri n q s hs
  | 7, _ => kX0_sweeperFact_7 mud car wal hol paid rain place str bro pen swe dri n q s hs
  | w + 8, h => absurd h (by omega)
set_option maxHeartbeats 1000000 in
theorem kX0_crossingFact_0 (mud car wal hol paid rain place str bro pen swe dri : Nat → Int32) (n q : Int32) (c : Int32) (hs : ¬ sCr c = 0) : AMet yX0_crossingFact cX0_crossingFact 3 (some .int) { frames := 1, cells := 0, slots := 0, locals := 23 } [.ref 0, .int c, .int (nI 0)] (hC mud car wal hol paid rain place str bro pen swe dri n q) (some (.int (sCF c n mud car wal hol paid place 0))) (hC mud car wal hol paid rain place str bro pen swe dri n q) := by
  refine AMet.of (by decide) rfl ?_
  intro G hR hE hI
  refine AW.blk (amX0_crossingFact _) 0 1 (h' := hC mud car wal hol paid rain place str bro pen swe dri n q) (pc' := 1) (lv' := [(0, .ref 0), (1, .int c), (2, .int (nI 0))]) (st' := [.int c]) (L := []) rfl trivial ?_
  refine AW.callS (amX0_crossingFact _) 1 (kX1_isCrossing c) [] [] ykX1_isCrossing ysX1_isCrossing mlX0_65 rfl rfl rfl rfl hR ⟨Nat.le_of_ble_eq_true rfl, Nat.le_of_ble_eq_true rfl, Nat.le_of_ble_eq_true rfl, Nat.le_of_ble_eq_true rfl⟩ rfl rfl rfl rfl rfl (fun _ => rfl) (h1 := hC mud car wal hol paid rain place str bro pen swe dri n q) rfl (st' := [.int (sCr c)]) rfl ?_
  refine AW.br (amX0_crossingFact _) 2 (tgt := 9) (C := ¬ (sCr c) = 0) (C' := (sCr c) = 0) (st' := []) rfl rfl rfl (fun c1 => ?_) (fun c1 => absurd c1 hs)
  refine AW.blk (amX0_crossingFact _) 5 1 (h' := hC mud car wal hol paid rain place str bro pen swe dri n q) (pc' := 10) (lv' := [(0, .ref 0), (1, .int c), (2, .int (nI 0))]) (st' := [.int (nI 0)]) (L := []) rfl trivial ?_
  refine AW.swIn (tgt := 44) (off := 34) swX0_crossingFact_10 (by decide) (by decide) rfl rfl ?_
  refine AW.blk (amX0_crossingFact _) 6 4 (h' := hC mud car wal hol paid rain place str bro pen swe dri n q) (pc' := 50) (lv' := [(0, .ref 0), (1, .int c), (2, .int (nI 0))]) (st' := [.int (mud c.toNatClampNeg)]) (L := [vp_in c 9]) rfl (sCr_in c1) ?_
  exact AW.iretE (amX0_crossingFact _) 10 hE rfl rfl (by first | rfl | exact narrow_b _ (by decide)) rfl rfl (by simp only [sCF, if_neg c1]) rfl
set_option maxHeartbeats 1000000 in
theorem kX0_crossingFact_1 (mud car wal hol paid rain place str bro pen swe dri : Nat → Int32) (n q : Int32) (c : Int32) (hs : ¬ sCr c = 0) : AMet yX0_crossingFact cX0_crossingFact 3 (some .int) { frames := 1, cells := 0, slots := 0, locals := 23 } [.ref 0, .int c, .int (nI 1)] (hC mud car wal hol paid rain place str bro pen swe dri n q) (some (.int (sCF c n mud car wal hol paid place 1))) (hC mud car wal hol paid rain place str bro pen swe dri n q) := by
  refine AMet.of (by decide) rfl ?_
  intro G hR hE hI
  refine AW.blk (amX0_crossingFact _) 0 1 (h' := hC mud car wal hol paid rain place str bro pen swe dri n q) (pc' := 1) (lv' := [(0, .ref 0), (1, .int c), (2, .int (nI 1))]) (st' := [.int c]) (L := []) rfl trivial ?_
  refine AW.callS (amX0_crossingFact _) 1 (kX1_isCrossing c) [] [] ykX1_isCrossing ysX1_isCrossing mlX0_65 rfl rfl rfl rfl hR ⟨Nat.le_of_ble_eq_true rfl, Nat.le_of_ble_eq_true rfl, Nat.le_of_ble_eq_true rfl, Nat.le_of_ble_eq_true rfl⟩ rfl rfl rfl rfl rfl (fun _ => rfl) (h1 := hC mud car wal hol paid rain place str bro pen swe dri n q) rfl (st' := [.int (sCr c)]) rfl ?_
  refine AW.br (amX0_crossingFact _) 2 (tgt := 9) (C := ¬ (sCr c) = 0) (C' := (sCr c) = 0) (st' := []) rfl rfl rfl (fun c1 => ?_) (fun c1 => absurd c1 hs)
  refine AW.blk (amX0_crossingFact _) 5 1 (h' := hC mud car wal hol paid rain place str bro pen swe dri n q) (pc' := 10) (lv' := [(0, .ref 0), (1, .int c), (2, .int (nI 1))]) (st' := [.int (nI 1)]) (L := []) rfl trivial ?_
  refine AW.swIn (tgt := 51) (off := 41) swX0_crossingFact_10 (by decide) (by decide) rfl rfl ?_
  refine AW.blk (amX0_crossingFact _) 11 4 (h' := hC mud car wal hol paid rain place str bro pen swe dri n q) (pc' := 57) (lv' := [(0, .ref 0), (1, .int c), (2, .int (nI 1))]) (st' := [.int (car c.toNatClampNeg)]) (L := [vp_in c 9]) rfl (sCr_in c1) ?_
  exact AW.iretE (amX0_crossingFact _) 15 hE rfl rfl (by first | rfl | exact narrow_b _ (by decide)) rfl rfl (by simp only [sCF, if_neg c1]) rfl
set_option maxHeartbeats 1000000 in
theorem kX0_crossingFact_2 (mud car wal hol paid rain place str bro pen swe dri : Nat → Int32) (n q : Int32) (c : Int32) (hs : ¬ sCr c = 0) : AMet yX0_crossingFact cX0_crossingFact 3 (some .int) { frames := 1, cells := 0, slots := 0, locals := 23 } [.ref 0, .int c, .int (nI 2)] (hC mud car wal hol paid rain place str bro pen swe dri n q) (some (.int (sCF c n mud car wal hol paid place 2))) (hC mud car wal hol paid rain place str bro pen swe dri n q) := by
  refine AMet.of (by decide) rfl ?_
  intro G hR hE hI
  refine AW.blk (amX0_crossingFact _) 0 1 (h' := hC mud car wal hol paid rain place str bro pen swe dri n q) (pc' := 1) (lv' := [(0, .ref 0), (1, .int c), (2, .int (nI 2))]) (st' := [.int c]) (L := []) rfl trivial ?_
  refine AW.callS (amX0_crossingFact _) 1 (kX1_isCrossing c) [] [] ykX1_isCrossing ysX1_isCrossing mlX0_65 rfl rfl rfl rfl hR ⟨Nat.le_of_ble_eq_true rfl, Nat.le_of_ble_eq_true rfl, Nat.le_of_ble_eq_true rfl, Nat.le_of_ble_eq_true rfl⟩ rfl rfl rfl rfl rfl (fun _ => rfl) (h1 := hC mud car wal hol paid rain place str bro pen swe dri n q) rfl (st' := [.int (sCr c)]) rfl ?_
  refine AW.br (amX0_crossingFact _) 2 (tgt := 9) (C := ¬ (sCr c) = 0) (C' := (sCr c) = 0) (st' := []) rfl rfl rfl (fun c1 => ?_) (fun c1 => absurd c1 hs)
  refine AW.blk (amX0_crossingFact _) 5 1 (h' := hC mud car wal hol paid rain place str bro pen swe dri n q) (pc' := 10) (lv' := [(0, .ref 0), (1, .int c), (2, .int (nI 2))]) (st' := [.int (nI 2)]) (L := []) rfl trivial ?_
  refine AW.swIn (tgt := 58) (off := 48) swX0_crossingFact_10 (by decide) (by decide) rfl rfl ?_
  refine AW.blk (amX0_crossingFact _) 16 4 (h' := hC mud car wal hol paid rain place str bro pen swe dri n q) (pc' := 64) (lv' := [(0, .ref 0), (1, .int c), (2, .int (nI 2))]) (st' := [.int (wal c.toNatClampNeg)]) (L := [vp_in c 9]) rfl (sCr_in c1) ?_
  exact AW.iretE (amX0_crossingFact _) 20 hE rfl rfl (by first | rfl | exact narrow_b _ (by decide)) rfl rfl (by simp only [sCF, if_neg c1]) rfl
set_option maxHeartbeats 1000000 in
theorem kX0_crossingFact_3 (mud car wal hol paid rain place str bro pen swe dri : Nat → Int32) (n q : Int32) (c : Int32) (hs : ¬ sCr c = 0) : AMet yX0_crossingFact cX0_crossingFact 3 (some .int) { frames := 1, cells := 0, slots := 0, locals := 23 } [.ref 0, .int c, .int (nI 3)] (hC mud car wal hol paid rain place str bro pen swe dri n q) (some (.int (sCF c n mud car wal hol paid place 3))) (hC mud car wal hol paid rain place str bro pen swe dri n q) := by
  refine AMet.of (by decide) rfl ?_
  intro G hR hE hI
  refine AW.blk (amX0_crossingFact _) 0 1 (h' := hC mud car wal hol paid rain place str bro pen swe dri n q) (pc' := 1) (lv' := [(0, .ref 0), (1, .int c), (2, .int (nI 3))]) (st' := [.int c]) (L := []) rfl trivial ?_
  refine AW.callS (amX0_crossingFact _) 1 (kX1_isCrossing c) [] [] ykX1_isCrossing ysX1_isCrossing mlX0_65 rfl rfl rfl rfl hR ⟨Nat.le_of_ble_eq_true rfl, Nat.le_of_ble_eq_true rfl, Nat.le_of_ble_eq_true rfl, Nat.le_of_ble_eq_true rfl⟩ rfl rfl rfl rfl rfl (fun _ => rfl) (h1 := hC mud car wal hol paid rain place str bro pen swe dri n q) rfl (st' := [.int (sCr c)]) rfl ?_
  refine AW.br (amX0_crossingFact _) 2 (tgt := 9) (C := ¬ (sCr c) = 0) (C' := (sCr c) = 0) (st' := []) rfl rfl rfl (fun c1 => ?_) (fun c1 => absurd c1 hs)
  refine AW.blk (amX0_crossingFact _) 5 1 (h' := hC mud car wal hol paid rain place str bro pen swe dri n q) (pc' := 10) (lv' := [(0, .ref 0), (1, .int c), (2, .int (nI 3))]) (st' := [.int (nI 3)]) (L := []) rfl trivial ?_
  refine AW.swIn (tgt := 65) (off := 55) swX0_crossingFact_10 (by decide) (by decide) rfl rfl ?_
  refine AW.blk (amX0_crossingFact _) 21 4 (h' := hC mud car wal hol paid rain place str bro pen swe dri n q) (pc' := 71) (lv' := [(0, .ref 0), (1, .int c), (2, .int (nI 3))]) (st' := [.int (hol c.toNatClampNeg)]) (L := [vp_in c 9]) rfl (sCr_in c1) ?_
  exact AW.iretE (amX0_crossingFact _) 25 hE rfl rfl (by first | rfl | exact narrow_b _ (by decide)) rfl rfl (by simp only [sCF, if_neg c1]) rfl
set_option maxHeartbeats 1000000 in
theorem kX0_crossingFact_4 (mud car wal hol paid rain place str bro pen swe dri : Nat → Int32) (n q : Int32) (c : Int32) (hs : ¬ sCr c = 0) : AMet yX0_crossingFact cX0_crossingFact 3 (some .int) { frames := 1, cells := 0, slots := 0, locals := 23 } [.ref 0, .int c, .int (nI 4)] (hC mud car wal hol paid rain place str bro pen swe dri n q) (some (.int (sCF c n mud car wal hol paid place 4))) (hC mud car wal hol paid rain place str bro pen swe dri n q) := by
  refine AMet.of (by decide) rfl ?_
  intro G hR hE hI
  refine AW.blk (amX0_crossingFact _) 0 1 (h' := hC mud car wal hol paid rain place str bro pen swe dri n q) (pc' := 1) (lv' := [(0, .ref 0), (1, .int c), (2, .int (nI 4))]) (st' := [.int c]) (L := []) rfl trivial ?_
  refine AW.callS (amX0_crossingFact _) 1 (kX1_isCrossing c) [] [] ykX1_isCrossing ysX1_isCrossing mlX0_65 rfl rfl rfl rfl hR ⟨Nat.le_of_ble_eq_true rfl, Nat.le_of_ble_eq_true rfl, Nat.le_of_ble_eq_true rfl, Nat.le_of_ble_eq_true rfl⟩ rfl rfl rfl rfl rfl (fun _ => rfl) (h1 := hC mud car wal hol paid rain place str bro pen swe dri n q) rfl (st' := [.int (sCr c)]) rfl ?_
  refine AW.br (amX0_crossingFact _) 2 (tgt := 9) (C := ¬ (sCr c) = 0) (C' := (sCr c) = 0) (st' := []) rfl rfl rfl (fun c1 => ?_) (fun c1 => absurd c1 hs)
  refine AW.blk (amX0_crossingFact _) 5 1 (h' := hC mud car wal hol paid rain place str bro pen swe dri n q) (pc' := 10) (lv' := [(0, .ref 0), (1, .int c), (2, .int (nI 4))]) (st' := [.int (nI 4)]) (L := []) rfl trivial ?_
  refine AW.swIn (tgt := 72) (off := 62) swX0_crossingFact_10 (by decide) (by decide) rfl rfl ?_
  refine AW.blk (amX0_crossingFact _) 26 2 (h' := hC mud car wal hol paid rain place str bro pen swe dri n q) (pc' := 74) (lv' := [(0, .ref 0), (1, .int c), (2, .int (nI 4))]) (st' := [.int c, .ref 0]) (L := []) rfl trivial ?_
  refine AW.callV (amX0_crossingFact _) 28 (kX0_sweepersAt mud car wal hol paid rain place str bro pen swe dri n q c) rfl rfl [0, 1, 2, 3, 4, 5, 6, 7, 8, 9, 10, 11, 12] [] ykX0_sweepersAt yiX0_sweepersAt yvX0_sweepersAt mlX0_111 rfl rfl rfl rfl hR ⟨Nat.le_of_ble_eq_true rfl, Nat.le_of_ble_eq_true rfl, Nat.le_of_ble_eq_true rfl, Nat.le_of_ble_eq_true rfl⟩ rfl rfl rfl rfl rfl (fun _ => rfl) (h1 := hC mud car wal hol paid rain place str bro pen swe dri n q) rfl (st' := [.int (sAt c n place)]) rfl ?_
  exact AW.iretE (amX0_crossingFact _) 29 hE rfl rfl (by first | rfl | exact narrow_b _ (by decide)) rfl rfl (by simp only [sCF, if_neg c1]) rfl
set_option maxHeartbeats 1000000 in
theorem kX0_crossingFact_5 (mud car wal hol paid rain place str bro pen swe dri : Nat → Int32) (n q : Int32) (c : Int32) (hs : ¬ sCr c = 0) : AMet yX0_crossingFact cX0_crossingFact 3 (some .int) { frames := 1, cells := 0, slots := 0, locals := 23 } [.ref 0, .int c, .int (nI 5)] (hC mud car wal hol paid rain place str bro pen swe dri n q) (some (.int (sCF c n mud car wal hol paid place 5))) (hC mud car wal hol paid rain place str bro pen swe dri n q) := by
  refine AMet.of (by decide) rfl ?_
  intro G hR hE hI
  refine AW.blk (amX0_crossingFact _) 0 1 (h' := hC mud car wal hol paid rain place str bro pen swe dri n q) (pc' := 1) (lv' := [(0, .ref 0), (1, .int c), (2, .int (nI 5))]) (st' := [.int c]) (L := []) rfl trivial ?_
  refine AW.callS (amX0_crossingFact _) 1 (kX1_isCrossing c) [] [] ykX1_isCrossing ysX1_isCrossing mlX0_65 rfl rfl rfl rfl hR ⟨Nat.le_of_ble_eq_true rfl, Nat.le_of_ble_eq_true rfl, Nat.le_of_ble_eq_true rfl, Nat.le_of_ble_eq_true rfl⟩ rfl rfl rfl rfl rfl (fun _ => rfl) (h1 := hC mud car wal hol paid rain place str bro pen swe dri n q) rfl (st' := [.int (sCr c)]) rfl ?_
  refine AW.br (amX0_crossingFact _) 2 (tgt := 9) (C := ¬ (sCr c) = 0) (C' := (sCr c) = 0) (st' := []) rfl rfl rfl (fun c1 => ?_) (fun c1 => absurd c1 hs)
  refine AW.blk (amX0_crossingFact _) 5 1 (h' := hC mud car wal hol paid rain place str bro pen swe dri n q) (pc' := 10) (lv' := [(0, .ref 0), (1, .int c), (2, .int (nI 5))]) (st' := [.int (nI 5)]) (L := []) rfl trivial ?_
  refine AW.swOut (tgt := 78) swX0_crossingFact_10 (by decide) rfl ?_
  refine AW.blk (amX0_crossingFact _) 30 4 (h' := hC mud car wal hol paid rain place str bro pen swe dri n q) (pc' := 84) (lv' := [(0, .ref 0), (1, .int c), (2, .int (nI 5))]) (st' := [.int (paid c.toNatClampNeg)]) (L := [vp_in c 9]) rfl (sCr_in c1) ?_
  exact AW.iretE (amX0_crossingFact _) 34 hE rfl rfl (by first | rfl | exact narrow_b _ (by decide)) rfl rfl (by simp only [sCF, if_neg c1]) rfl
theorem kX0_crossingFact (mud car wal hol paid rain place str bro pen swe dri : Nat → Int32) (n q : Int32) (c : Int32) (hs : ¬ sCr c = 0) : ∀ (w : Nat), w < 6 → AMet yX0_crossingFact cX0_crossingFact 3 (some .int) { frames := 1, cells := 0, slots := 0, locals := 23 } [.ref 0, .int c, .int (nI w)] (hC mud car wal hol paid rain place str bro pen swe dri n q) (some (.int (sCF c n mud car wal hol paid place w))) (hC mud car wal hol paid rain place str bro pen swe dri n q)
  | 0, _ => kX0_crossingFact_0 mud car wal hol paid rain place str bro pen swe dri n q c hs
  | 1, _ => kX0_crossingFact_1 mud car wal hol paid rain place str bro pen swe dri n q c hs
  | 2, _ => kX0_crossingFact_2 mud car wal hol paid rain place str bro pen swe dri n q c hs
  | 3, _ => kX0_crossingFact_3 mud car wal hol paid rain place str bro pen swe dri n q c hs
  | 4, _ => kX0_crossingFact_4 mud car wal hol paid rain place str bro pen swe dri n q c hs
  | 5, _ => kX0_crossingFact_5 mud car wal hol paid rain place str bro pen swe dri n q c hs
  | w + 6, h => absurd h (by omega)
set_option maxHeartbeats 1000000 in
theorem kX0_cityFact_0 (mud car wal hol paid rain place str bro pen swe dri : Nat → Int32) (n q : Int32)  : AMet yX0_cityFact cX0_cityFact 2 (some .int) { frames := 2, cells := 0, slots := 0, locals := 43 } [.ref 0, .int (nI 0)] (hC mud car wal hol paid rain place str bro pen swe dri n q) (some (.int (sGF n q mud hol pen swe dri 0))) (hC mud car wal hol paid rain place str bro pen swe dri n q) := by
  refine AMet.of (by decide) rfl ?_
  intro G hR hE hI
  refine AW.blk (amX0_cityFact _) 0 1 (h' := hC mud car wal hol paid rain place str bro pen swe dri n q) (pc' := 1) (lv' := [(0, .ref 0), (1, .int (nI 0))]) (st' := [.int (nI 0)]) (L := []) rfl trivial ?_
  refine AW.swIn (tgt := 44) (off := 43) swX0_cityFact_1 (by decide) (by decide) rfl rfl ?_
  refine AW.blk (amX0_cityFact _) 1 2 (h' := hC mud car wal hol paid rain place str bro pen swe dri n q) (pc' := 48) (lv' := [(0, .ref 0), (1, .int (nI 0))]) (st' := [.int q]) (L := []) rfl trivial ?_
  exact AW.iretE (amX0_cityFact _) 3 hE rfl rfl (by first | rfl | exact narrow_b _ (by decide)) rfl rfl (by simp only [sGF]) rfl
set_option maxHeartbeats 1000000 in
theorem kX0_cityFact_1 (mud car wal hol paid rain place str bro pen swe dri : Nat → Int32) (n q : Int32)  : AMet yX0_cityFact cX0_cityFact 2 (some .int) { frames := 2, cells := 0, slots := 0, locals := 43 } [.ref 0, .int (nI 1)] (hC mud car wal hol paid rain place str bro pen swe dri n q) (some (.int (sGF n q mud hol pen swe dri 1))) (hC mud car wal hol paid rain place str bro pen swe dri n q) := by
  refine AMet.of (by decide) rfl ?_
  intro G hR hE hI
  refine AW.blk (amX0_cityFact _) 0 1 (h' := hC mud car wal hol paid rain place str bro pen swe dri n q) (pc' := 1) (lv' := [(0, .ref 0), (1, .int (nI 1))]) (st' := [.int (nI 1)]) (L := []) rfl trivial ?_
  refine AW.swIn (tgt := 49) (off := 48) swX0_cityFact_1 (by decide) (by decide) rfl rfl ?_
  refine AW.blk (amX0_cityFact _) 4 2 (h' := hC mud car wal hol paid rain place str bro pen swe dri n q) (pc' := 53) (lv' := [(0, .ref 0), (1, .int (nI 1))]) (st' := [.int n]) (L := []) rfl trivial ?_
  exact AW.iretE (amX0_cityFact _) 6 hE rfl rfl (by first | rfl | exact narrow_b _ (by decide)) rfl rfl (by simp only [sGF]) rfl
set_option maxHeartbeats 1000000 in
theorem kX0_cityFact_2 (mud car wal hol paid rain place str bro pen swe dri : Nat → Int32) (n q : Int32)  : AMet yX0_cityFact cX0_cityFact 2 (some .int) { frames := 2, cells := 0, slots := 0, locals := 43 } [.ref 0, .int (nI 2)] (hC mud car wal hol paid rain place str bro pen swe dri n q) (some (.int (sGF n q mud hol pen swe dri 2))) (hC mud car wal hol paid rain place str bro pen swe dri n q) := by
  refine AMet.of (by decide) rfl ?_
  intro G hR hE hI
  refine AW.blk (amX0_cityFact _) 0 1 (h' := hC mud car wal hol paid rain place str bro pen swe dri n q) (pc' := 1) (lv' := [(0, .ref 0), (1, .int (nI 2))]) (st' := [.int (nI 2)]) (L := []) rfl trivial ?_
  refine AW.swIn (tgt := 54) (off := 53) swX0_cityFact_1 (by decide) (by decide) rfl rfl ?_
  refine AW.blk (amX0_cityFact _) 7 1 (h' := hC mud car wal hol paid rain place str bro pen swe dri n q) (pc' := 55) (lv' := [(0, .ref 0), (1, .int (nI 2))]) (st' := [.ref 0]) (L := []) rfl trivial ?_
  refine AW.callV (amX0_cityFact _) 8 (kX0_heldPitches mud car wal hol paid rain place str bro pen swe dri n q) rfl rfl [0, 1, 2, 3, 4, 5, 6, 7, 8, 9, 10, 11, 12] [] ykX0_heldPitches yiX0_heldPitches yvX0_heldPitches mlX0_114 rfl rfl rfl rfl hR ⟨Nat.le_of_ble_eq_true rfl, Nat.le_of_ble_eq_true rfl, Nat.le_of_ble_eq_true rfl, Nat.le_of_ble_eq_true rfl⟩ rfl rfl rfl rfl rfl (fun _ => rfl) (h1 := hC mud car wal hol paid rain place str bro pen swe dri n q) rfl (st' := [.int (sHeld n hol)]) rfl ?_
  exact AW.iretE (amX0_cityFact _) 9 hE rfl rfl (by first | rfl | exact narrow_b _ (by decide)) rfl rfl (by simp only [sGF]) rfl
set_option maxHeartbeats 1000000 in
theorem kX0_cityFact_3 (mud car wal hol paid rain place str bro pen swe dri : Nat → Int32) (n q : Int32)  : AMet yX0_cityFact cX0_cityFact 2 (some .int) { frames := 2, cells := 0, slots := 0, locals := 43 } [.ref 0, .int (nI 3)] (hC mud car wal hol paid rain place str bro pen swe dri n q) (some (.int (sGF n q mud hol pen swe dri 3))) (hC mud car wal hol paid rain place str bro pen swe dri n q) := by
  refine AMet.of (by decide) rfl ?_
  intro G hR hE hI
  refine AW.blk (amX0_cityFact _) 0 1 (h' := hC mud car wal hol paid rain place str bro pen swe dri n q) (pc' := 1) (lv' := [(0, .ref 0), (1, .int (nI 3))]) (st' := [.int (nI 3)]) (L := []) rfl trivial ?_
  refine AW.swIn (tgt := 59) (off := 58) swX0_cityFact_1 (by decide) (by decide) rfl rfl ?_
  refine AW.blk (amX0_cityFact _) 10 1 (h' := hC mud car wal hol paid rain place str bro pen swe dri n q) (pc' := 60) (lv' := [(0, .ref 0), (1, .int (nI 3))]) (st' := [.ref 0]) (L := []) rfl trivial ?_
  refine AW.callV (amX0_cityFact _) 11 (kX0_allMud mud car wal hol paid rain place str bro pen swe dri n q) rfl rfl [0, 1, 2, 3, 4, 5, 6, 7, 8, 9, 10, 11, 12] [] ykX0_allMud yiX0_allMud yvX0_allMud mlX0_117 rfl rfl rfl rfl hR ⟨Nat.le_of_ble_eq_true rfl, Nat.le_of_ble_eq_true rfl, Nat.le_of_ble_eq_true rfl, Nat.le_of_ble_eq_true rfl⟩ rfl rfl rfl rfl rfl (fun _ => rfl) (h1 := hC mud car wal hol paid rain place str bro pen swe dri n q) rfl (st' := [.int (sSum mud 9)]) rfl ?_
  exact AW.iretE (amX0_cityFact _) 12 hE rfl rfl (by first | rfl | exact narrow_b _ (by decide)) rfl rfl (by simp only [sGF]) rfl
set_option maxHeartbeats 1000000 in
theorem kX0_cityFact_4 (mud car wal hol paid rain place str bro pen swe dri : Nat → Int32) (n q : Int32)  : AMet yX0_cityFact cX0_cityFact 2 (some .int) { frames := 2, cells := 0, slots := 0, locals := 43 } [.ref 0, .int (nI 4)] (hC mud car wal hol paid rain place str bro pen swe dri n q) (some (.int (sGF n q mud hol pen swe dri 4))) (hC mud car wal hol paid rain place str bro pen swe dri n q) := by
  refine AMet.of (by decide) rfl ?_
  intro G hR hE hI
  refine AW.blk (amX0_cityFact _) 0 1 (h' := hC mud car wal hol paid rain place str bro pen swe dri n q) (pc' := 1) (lv' := [(0, .ref 0), (1, .int (nI 4))]) (st' := [.int (nI 4)]) (L := []) rfl trivial ?_
  refine AW.swIn (tgt := 64) (off := 63) swX0_cityFact_1 (by decide) (by decide) rfl rfl ?_
  refine AW.blk (amX0_cityFact _) 13 2 (h' := hC mud car wal hol paid rain place str bro pen swe dri n q) (pc' := 68) (lv' := [(0, .ref 0), (1, .int (nI 4))]) (st' := [.ref 10]) (L := []) rfl trivial ?_
  refine AW.callS (amX0_cityFact _) 15 (kX0_sum_8 pen) [10] [] ykX0_sum ysX0_sum mlX0_120 rfl rfl rfl rfl hR ⟨Nat.le_of_ble_eq_true rfl, Nat.le_of_ble_eq_true rfl, Nat.le_of_ble_eq_true rfl, Nat.le_of_ble_eq_true rfl⟩ rfl rfl rfl rfl rfl (fun _ => rfl) (h1 := hC mud car wal hol paid rain place str bro pen swe dri n q) rfl (st' := [.int (sSum pen 8)]) rfl ?_
  exact AW.iretE (amX0_cityFact _) 16 hE rfl rfl (by first | rfl | exact narrow_b _ (by decide)) rfl rfl (by simp only [sGF]) rfl
set_option maxHeartbeats 1000000 in
theorem kX0_cityFact_5 (mud car wal hol paid rain place str bro pen swe dri : Nat → Int32) (n q : Int32)  : AMet yX0_cityFact cX0_cityFact 2 (some .int) { frames := 2, cells := 0, slots := 0, locals := 43 } [.ref 0, .int (nI 5)] (hC mud car wal hol paid rain place str bro pen swe dri n q) (some (.int (sGF n q mud hol pen swe dri 5))) (hC mud car wal hol paid rain place str bro pen swe dri n q) := by
  refine AMet.of (by decide) rfl ?_
  intro G hR hE hI
  refine AW.blk (amX0_cityFact _) 0 1 (h' := hC mud car wal hol paid rain place str bro pen swe dri n q) (pc' := 1) (lv' := [(0, .ref 0), (1, .int (nI 5))]) (st' := [.int (nI 5)]) (L := []) rfl trivial ?_
  refine AW.swIn (tgt := 72) (off := 71) swX0_cityFact_1 (by decide) (by decide) rfl rfl ?_
  refine AW.blk (amX0_cityFact _) 17 1 (h' := hC mud car wal hol paid rain place str bro pen swe dri n q) (pc' := 73) (lv' := [(0, .ref 0), (1, .int (nI 5))]) (st' := [.ref 0]) (L := []) rfl trivial ?_
  refine AW.callV (amX0_cityFact _) 18 (kX0_cleanCrossings mud car wal hol paid rain place str bro pen swe dri n q) rfl rfl [0, 1, 2, 3, 4, 5, 6, 7, 8, 9, 10, 11, 12] [] ykX0_cleanCrossings yiX0_cleanCrossings yvX0_cleanCrossings mlX0_124 rfl rfl rfl rfl hR ⟨Nat.le_of_ble_eq_true rfl, Nat.le_of_ble_eq_true rfl, Nat.le_of_ble_eq_true rfl, Nat.le_of_ble_eq_true rfl⟩ rfl rfl rfl rfl rfl (fun _ => rfl) (h1 := hC mud car wal hol paid rain place str bro pen swe dri n q) rfl (st' := [.int (sClean mud)]) rfl ?_
  exact AW.iretE (amX0_cityFact _) 19 hE rfl rfl (by first | rfl | exact narrow_b _ (by decide)) rfl rfl (by simp only [sGF]) rfl
set_option maxHeartbeats 1000000 in
theorem kX0_cityFact_6 (mud car wal hol paid rain place str bro pen swe dri : Nat → Int32) (n q : Int32)  : AMet yX0_cityFact cX0_cityFact 2 (some .int) { frames := 2, cells := 0, slots := 0, locals := 43 } [.ref 0, .int (nI 6)] (hC mud car wal hol paid rain place str bro pen swe dri n q) (some (.int (sGF n q mud hol pen swe dri 6))) (hC mud car wal hol paid rain place str bro pen swe dri n q) := by
  refine AMet.of (by decide) rfl ?_
  intro G hR hE hI
  refine AW.blk (amX0_cityFact _) 0 1 (h' := hC mud car wal hol paid rain place str bro pen swe dri n q) (pc' := 1) (lv' := [(0, .ref 0), (1, .int (nI 6))]) (st' := [.int (nI 6)]) (L := []) rfl trivial ?_
  refine AW.swIn (tgt := 77) (off := 76) swX0_cityFact_1 (by decide) (by decide) rfl rfl ?_
  refine AW.blk (amX0_cityFact _) 20 2 (h' := hC mud car wal hol paid rain place str bro pen swe dri n q) (pc' := 81) (lv' := [(0, .ref 0), (1, .int (nI 6))]) (st' := [.ref 11]) (L := []) rfl trivial ?_
  refine AW.callS (amX0_cityFact _) 22 (kX0_sum_8 swe) [11] [] ykX0_sum ysX0_sum mlX0_120 rfl rfl rfl rfl hR ⟨Nat.le_of_ble_eq_true rfl, Nat.le_of_ble_eq_true rfl, Nat.le_of_ble_eq_true rfl, Nat.le_of_ble_eq_true rfl⟩ rfl rfl rfl rfl rfl (fun _ => rfl) (h1 := hC mud car wal hol paid rain place str bro pen swe dri n q) rfl (st' := [.int (sSum swe 8)]) rfl ?_
  exact AW.iretE (amX0_cityFact _) 23 hE rfl rfl (by first | rfl | exact narrow_b _ (by decide)) rfl rfl (by simp only [sGF]) rfl
set_option maxHeartbeats 1000000 in
theorem kX0_cityFact_7 (mud car wal hol paid rain place str bro pen swe dri : Nat → Int32) (n q : Int32)  : AMet yX0_cityFact cX0_cityFact 2 (some .int) { frames := 2, cells := 0, slots := 0, locals := 43 } [.ref 0, .int (nI 7)] (hC mud car wal hol paid rain place str bro pen swe dri n q) (some (.int (sGF n q mud hol pen swe dri 7))) (hC mud car wal hol paid rain place str bro pen swe dri n q) := by
  refine AMet.of (by decide) rfl ?_
  intro G hR hE hI
  refine AW.blk (amX0_cityFact _) 0 1 (h' := hC mud car wal hol paid rain place str bro pen swe dri n q) (pc' := 1) (lv' := [(0, .ref 0), (1, .int (nI 7))]) (st' := [.int (nI 7)]) (L := []) rfl trivial ?_
  refine AW.swOut (tgt := 85) swX0_cityFact_1 (by decide) rfl ?_
  refine AW.blk (amX0_cityFact _) 24 2 (h' := hC mud car wal hol paid rain place str bro pen swe dri n q) (pc' := 89) (lv' := [(0, .ref 0), (1, .int (nI 7))]) (st' := [.ref 12]) (L := []) rfl trivial ?_
  refine AW.callS (amX0_cityFact _) 26 (kX0_sum_8 dri) [12] [] ykX0_sum ysX0_sum mlX0_120 rfl rfl rfl rfl hR ⟨Nat.le_of_ble_eq_true rfl, Nat.le_of_ble_eq_true rfl, Nat.le_of_ble_eq_true rfl, Nat.le_of_ble_eq_true rfl⟩ rfl rfl rfl rfl rfl (fun _ => rfl) (h1 := hC mud car wal hol paid rain place str bro pen swe dri n q) rfl (st' := [.int (sSum dri 8)]) rfl ?_
  exact AW.iretE (amX0_cityFact _) 27 hE rfl rfl (by first | rfl | exact narrow_b _ (by decide)) rfl rfl (by simp only [sGF]) rfl
theorem kX0_cityFact (mud car wal hol paid rain place str bro pen swe dri : Nat → Int32) (n q : Int32)  : ∀ (w : Nat), w < 8 → AMet yX0_cityFact cX0_cityFact 2 (some .int) { frames := 2, cells := 0, slots := 0, locals := 43 } [.ref 0, .int (nI w)] (hC mud car wal hol paid rain place str bro pen swe dri n q) (some (.int (sGF n q mud hol pen swe dri w))) (hC mud car wal hol paid rain place str bro pen swe dri n q)
  | 0, _ => kX0_cityFact_0 mud car wal hol paid rain place str bro pen swe dri n q 
  | 1, _ => kX0_cityFact_1 mud car wal hol paid rain place str bro pen swe dri n q 
  | 2, _ => kX0_cityFact_2 mud car wal hol paid rain place str bro pen swe dri n q 
  | 3, _ => kX0_cityFact_3 mud car wal hol paid rain place str bro pen swe dri n q 
  | 4, _ => kX0_cityFact_4 mud car wal hol paid rain place str bro pen swe dri n q 
  | 5, _ => kX0_cityFact_5 mud car wal hol paid rain place str bro pen swe dri n q 
  | 6, _ => kX0_cityFact_6 mud car wal hol paid rain place str bro pen swe dri n q 
  | 7, _ => kX0_cityFact_7 mud car wal hol paid rain place str bro pen swe dri n q 
  | w + 8, h => absurd h (by omega)
end
section
/-! ===== making cells, copying rows, constructors ===== -/
theorem aarr : Cond.arrayClass .int ∈ kwl := by decide +kernel
theorem aarrL : Cond.arrayClass .long ∈ kwl := by decide +kernel
def okS (n : Nat) (h : aH) (lv : aV) (st : List Value) : Bool := h.all (okE n) && (lv.all (fun q => okv n q.2) && st.all (okv n))
theorem wl_agree {n : Nat} {cI cL : ClassId} {ad ad' : Nat → Nat} {h : aH} (ha : ∀ i, i < n ∨ 100 ≤ i → ad' i = ad i) (hn : h.length ≤ n) (hk : h.all (okE n) = true) : wl cI cL ad' h = wl cI cL ad h := by
  refine List.ext_getElem? fun k => ?_
  simp only [wl, List.getElem?_mapIdx]
  cases hb : h[k]? with
  | none => rfl
  | some e =>
    have hl : k < h.length := (List.getElem?_eq_some_iff.mp hb).1
    simp only [Option.map_some]
    rw [ha k (Or.inl (by omega)), ee_agree ha (List.all_eq_true.mp hk e (List.mem_of_getElem? hb))]
theorem el_agree {n : Nat} {ad ad' : Nat → Nat} {lv : aV} (ha : ∀ i, i < n ∨ 100 ≤ i → ad' i = ad i) (hk : lv.all (fun q => okv n q.2) = true) : el ad' lv = el ad lv := by
  refine List.map_congr_left fun q hq => ?_
  rw [ev_agree ha (List.all_eq_true.mp hk q hq)]
theorem evs_agree {n : Nat} {ad ad' : Nat → Nat} {st : List Value} (ha : ∀ i, i < n ∨ 100 ≤ i → ad' i = ad i) (hk : st.all (okv n) = true) : st.map (ev ad') = st.map (ev ad) :=
  List.map_congr_left fun v hv => ev_agree ha (List.all_eq_true.mp hk v hv)
-- the new place's address
def adn (n q : Nat) (ad : Nat → Nat) : Nat → Nat := fun i => if i = n then q else ad i
theorem adn_agree {n q : Nat} {ad : Nat → Nat} (hn : n < 100) : ∀ i, i < n ∨ 100 ≤ i → adn n q ad i = ad i := fun i h => by
  unfold adn
  rw [if_neg (by omega)]
theorem AW.newarr {G : aG} {M : aM} {tb : List (Nat × Instr)} {FT PT : List (Nat × Nat × Nat)} (hm : amok M tb FT PT) (i : Nat) {h h1 : aH} {kc ks pc : Nat} {lv : aV} {st st' : List Value} {n : Int32} {R : Room} (N : Nat) (hi : tb[i]? = some (pc, .newarray .int)) (hn : ¬ n < 0) (hN : n.toNatClampNeg = N) (hb : Nat.ble (N * 4) 536870912 = true) (hR : aRm G = R) (hc : kc + 1 ≤ R.cells) (hs : ks + N ≤ R.slots)
    (hM : Nat.ble M.2.2.2 h.length = true) (h100 : Nat.blt h.length 100 = true) (hok : okS h.length h lv st = true) (hh : h ++ [aI N (fun _ => 0)] = h1) (hst : .ref h.length :: st = st') (k : AW G M h1 (kc + 1) (ks + N) (pc + 2) lv st') : AW G M h kc ks pc lv (.int n :: st) := by
  have hd := tb_at hm.1 i hi
  obtain ⟨p, l, e, R0, s, m, args, below, meth, c, Q, D, cI, cL, A, ad0, X⟩ := G
  have hR : R0 = R := hR
  subst hR; subst hh; subst hst
  intro ok ad H locs ls ha hP hD hS hl
  obtain ⟨hx, hb2, hml, hown, hkw, hK, hA, hX⟩ := id ok
  have h100 : h.length < 100 := Nat.le_of_ble_eq_true h100
  have hM : M.2.2.2 ≤ h.length := Nat.le_of_ble_eq_true hM
  obtain ⟨o1, o2⟩ := (Bool.and_eq_true _ _).mp hok
  obtain ⟨o2, o3⟩ := (Bool.and_eq_true _ _).mp o2
  refine va_newa (a0 := (N, .inl (fun _ => 0))) (ty := .int) (atype := .int) hx hb2 (hkw.use _ aarr) rfl hK hP hD hS hA (fun cA => rfl) hn hN (Nat.le_of_ble_eq_true hb) hc hs hd (fun q cA H1 hK2 hP2 hD2 hS2 => ?_)
  have e1 : s.vm.findClass ("[" ++ (FieldType.int).toString) = some cA := (hK2.2 2 _ rfl).2
  have e2 : s.vm.findClass ("[" ++ (FieldType.int).toString) = some cI := (hK.2 0 _ rfl).2
  have e3 : cA = cI := Option.some.inj (e1.symm.trans e2)
  subst e3
  have hag := adn_agree (q := q) (ad := ad) h100
  have hw : wl cA cL (adn h.length q ad) (h ++ [aI N (fun _ => 0)]) = wl cA cL ad h ++ [(q, .inl (cA, N, .inl (fun _ => 0)))] := by
    rw [wl_snoc, wl_agree hag (Nat.le_refl _) o1]
    simp [adn, ee]
  have k2 := k ok (adn h.length q ad) H1 locs ls (fun j hj => by rw [hag j (by omega)]; exact ha j hj) (by rw [hw]; exact hP2) (by rw [hw]; exact hD2) hS2 (by rw [el_agree hag o2]; exact hl)
  have hs2 : (Value.ref h.length :: st).map (ev (adn h.length q ad)) = .ref q :: st.map (ev ad) := by
    rw [List.map_cons, evs_agree hag o3]
    simp [ev, adn]
  rw [hs2] at k2
  exact k2
theorem AW.newarrL {G : aG} {M : aM} {h h1 : aH} {kc ks pc : Nat} {lv : aV} {st st' : List Value} {n : Int32} {R : Room} (N : Nat) (hd : decode M.2.1 pc = .ok (.newarray .long, 2)) (hn : ¬ n < 0) (hN : n.toNatClampNeg = N) (hb : Nat.ble (N * 8) 536870912 = true) (hR : aRm G = R) (hc : kc + 1 ≤ R.cells) (hs : ks + N ≤ R.slots)
    (hM : Nat.ble M.2.2.2 h.length = true) (h100 : Nat.blt h.length 100 = true) (hok : okS h.length h lv st = true) (hh : h ++ [aL N (fun _ => 0)] = h1) (hst : .ref h.length :: st = st') (k : AW G M h1 (kc + 1) (ks + N) (pc + 2) lv st') : AW G M h kc ks pc lv (.int n :: st) := by
  obtain ⟨p, l, e, R0, s, m, args, below, meth, c, Q, D, cI, cL, A, ad0, X⟩ := G
  have hR : R0 = R := hR
  subst hR; subst hh; subst hst
  intro ok ad H locs ls ha hP hD hS hl
  obtain ⟨hx, hb2, hml, hown, hkw, hK, hA, hX⟩ := id ok
  have h100 : h.length < 100 := Nat.le_of_ble_eq_true h100
  have hM : M.2.2.2 ≤ h.length := Nat.le_of_ble_eq_true hM
  obtain ⟨o1, o2⟩ := (Bool.and_eq_true _ _).mp hok
  obtain ⟨o2, o3⟩ := (Bool.and_eq_true _ _).mp o2
  refine va_newa (a0 := (N, .inr (.inl (fun _ => 0)))) (ty := .long) (atype := .long) hx hb2 (hkw.use _ aarrL) rfl hK hP hD hS hA (fun cA => rfl) hn hN (Nat.le_of_ble_eq_true hb) hc hs hd (fun q cA H1 hK2 hP2 hD2 hS2 => ?_)
  have e1 : s.vm.findClass ("[" ++ (FieldType.long).toString) = some cA := (hK2.2 2 _ rfl).2
  have e2 : s.vm.findClass ("[" ++ (FieldType.long).toString) = some cL := (hK.2 1 _ rfl).2
  have e3 : cA = cL := Option.some.inj (e1.symm.trans e2)
  subst e3
  have hag := adn_agree (q := q) (ad := ad) h100
  have hw : wl cI cA (adn h.length q ad) (h ++ [aL N (fun _ => 0)]) = wl cI cA ad h ++ [(q, .inl (cA, N, .inr (.inl (fun _ => 0))))] := by
    rw [wl_snoc, wl_agree hag (Nat.le_refl _) o1]
    simp [adn, ee]
  have k2 := k ok (adn h.length q ad) H1 locs ls (fun j hj => by rw [hag j (by omega)]; exact ha j hj) (by rw [hw]; exact hP2) (by rw [hw]; exact hD2) hS2 (by rw [el_agree hag o2]; exact hl)
  have hs2 : (Value.ref h.length :: st).map (ev (adn h.length q ad)) = .ref q :: st.map (ev ad) := by
    rw [List.map_cons, evs_agree hag o3]
    simp [ev, adn]
  rw [hs2] at k2
  exact k2
def dfv : FieldType → Value := defaultValue
theorem AW.newobj {G : aG} {M : aM} {h h1 : aH} {kc ks pc idx ci N : Nat} {C : String} {T : u_T} {ty : Nat → FieldType} {lv : aV} {st st' fs : List Value} {R : Room} (hd : decode M.2.1 pc = .ok (.new idx, 3)) (hci : vwCl[ci]? = some (C, T, N)) (hty : ∀ k, k < N → parseFieldDescriptor (T k).2.2.1 = some (ty k)) (hcl : Cond.classLink M.1 idx C ∈ kwl) (hins : Cond.instantiable C N ∈ kwl) (hini : Cond.initialized C ∈ kwl) (hfs : ∀ ad : Nat → Nat, fs.map (ev ad) = fs) (hdf : ∀ j, j < N → defaultValue (ty j) = vp_V fs j) (hR : aRm G = R) (hc : kc + 1 ≤ R.cells) (hs : ks + N ≤ R.slots)
    (hM : Nat.ble M.2.2.2 h.length = true) (h100 : Nat.blt h.length 100 = true) (hok : okS h.length h lv st = true) (hh : h ++ [aO ci fs] = h1) (hst : .ref h.length :: st = st') (k : AW G M h1 (kc + 1) (ks + N) (pc + 3) lv st') : AW G M h kc ks pc lv st := by
  obtain ⟨p, l, e, R0, s, m, args, below, meth, c, Q, D, cI, cL, A, ad0, X⟩ := G
  have hR : R0 = R := hR
  subst hR; subst hh; subst hst
  intro ok ad H locs ls ha hP hD hS hl
  obtain ⟨hx, hb2, hml, hown, hkw, hK, hA, hX⟩ := id ok
  have h100 : h.length < 100 := Nat.le_of_ble_eq_true h100
  have hM : M.2.2.2 ≤ h.length := Nat.le_of_ble_eq_true hM
  obtain ⟨o1, o2⟩ := (Bool.and_eq_true _ _).mp hok
  obtain ⟨o2, o3⟩ := (Bool.and_eq_true _ _).mp o2
  refine va_new (ci := ci) (fs := fs) (C := C) (T := T) (N := N) hx hb2 hkw.use (vw_in hci) ty hty hown (hkw.use _ hcl) (hkw.use _ hins) (hkw.use _ hini) hK hP hD hS hA hci hdf hc hs hd (fun q H1 hP2 hD2 hS2 => ?_)
  have hag := adn_agree (q := q) (ad := ad) h100
  have hw : wl cI cL (adn h.length q ad) (h ++ [aO ci fs]) = wl cI cL ad h ++ [(q, .inr (ci, fs))] := by
    rw [wl_snoc, wl_agree hag (Nat.le_refl _) o1]
    simp [adn, ee, hfs]
  have k2 := k ok (adn h.length q ad) H1 locs ls (fun j hj => by rw [hag j (by omega)]; exact ha j hj) (by rw [hw]; exact hP2) (by rw [hw]; exact hD2) hS2 (by rw [el_agree hag o2]; exact hl)
  have hs2 : (Value.ref h.length :: st).map (ev (adn h.length q ad)) = .ref q :: st.map (ev ad) := by
    rw [List.map_cons, evs_agree hag o3]
    simp [ev, adn]
  rw [hs2] at k2
  exact k2
theorem kOb1 : Cond.instanceMethod objectInit ∈ kwl := by decide +kernel
theorem kOb2 : Cond.code objectInit ⟨#[0xb1]⟩ 1 none ∈ kwl := by decide +kernel
theorem AW.objInit {G : aG} {M : aM} {tb : List (Nat × Instr)} {FT PT : List (Nat × Nat × Nat)} (hm : amok M tb FT PT) (i : Nat) {h : aH} {kc ks pc idx a : Nat} {lv : aV} {st : List Value} {R : Room} (hi : tb[i]? = some (pc, .invokespecial idx)) (hlk : Cond.methodLink M.1 idx objectInit ∈ kwl) (hcat : Nat.ble (st.map fun v => v.category).sum 8 = true) (hR : aRm G = R) (hRR : 1 ≤ R.frames ∧ 20 ≤ R.locals) (k : AW G M h kc ks (pc + 3) lv st) : AW G M h kc ks pc lv (.ref a :: st) := by
  have hd := tb_at hm.1 i hi
  obtain ⟨p, l, e, R0, s, m, args, below, meth, c, Q, D, cI, cL, A, ad0, X⟩ := G
  have hR : R0 = R := hR
  subst hR
  intro ok ad H locs ls ha hP hD hS hl
  obtain ⟨hx, hb, hml, hown, hkw, hK, hA, hX⟩ := id ok
  have hc8 := Nat.le_of_ble_eq_true hcat
  refine W.objInit (a := ad a) (rest := st.map (ev ad)) hx hb hown (hkw.use _ hlk) (hkw.use _ kOb1) (hkw.use _ kOb2) rfl (by rw [hml]; exact hl.1) rfl hd hRR.1 ?_ (k ok ad H locs ls ha hP hD hS hl)
  show 2 * 0 + _ + 12 ≤ _
  rw [cats]; omega
theorem AW.putF {G : aG} {M : aM} {tb : List (Nat × Instr)} {FT PT : List (Nat × Nat × Nat)} (hm : amok M tb FT PT) (i : Nat) {h h1 : aH} {kc ks pc idx a b ci N j : Nat} {C : String} {T : u_T} {ty : FieldType} {lv : aV} {st fs : List Value} (hi : tb[i]? = some (pc, .putfield idx)) (hin : aIn G) (hci : vwCl[ci]? = some (C, T, N)) (hj : j < N) (hlk : Cond.fieldLink M.1 idx (T j).1 (T j).2.1 (T j).2.2.1 ∈ kwl) (hfin : (T j).2.2.2 = true) (hdecl : (T j).1 = M.1) (hdt : parseFieldDescriptor (T j).2.2.1 = some ty) (hr : ∀ q : Nat, narrow ty (.ref q) = .ref q ∧ fits ty (.ref q) = true)
    (ha0 : h[a]? = some (aO ci fs)) (hl0 : Nat.blt j fs.length = true) (hh : h.set a (aO ci (fs.set j (.ref b))) = h1) (k : AW G M h1 kc ks (pc + 3) lv st) : AW G M h kc ks pc lv (.ref b :: .ref a :: st) := by
  have hd := tb_at hm.1 i hi
  obtain ⟨p, l, e, R0, s, m, args, below, meth, c, Q, D, cI, cL, A, ad0, X⟩ := G
  subst hh
  intro ok ad H locs ls ha hP hD hS hl
  obtain ⟨hx, hb, hml, hown, hkw, hK, hA, hX⟩ := id ok
  obtain ⟨ty0, t1, t2⟩ := vw_ty hci
  have he := wl_get (cI := cI) (cL := cL) (ad := ad) ha0
  have hlen : j < (fs.map (ev ad)).length := by rw [List.length_map]; exact Nat.le_of_ble_eq_true hl0
  have hw : wl cI cL ad (h.set a (aO ci (fs.set j (.ref b)))) = (wl cI cL ad h).set a (ad a, .inr (ci, (fs.map (ev ad)).set j (.ref (ad b)))) := by rw [wl_set]; simp only [ee, List.map_set]; rfl
  exact va_putF (ci := ci) (C := C) (T := T) (N := N) (ty := ty) (v := .ref (ad b)) hx hb hkw.use (vw_in hci) ty0 t1 t2 hown hK hP hD hS a he hci j hj (hkw.use _ hlk) (fun _ h9 => h9) hfin hin hdecl hdt (hr _).1 (hr _).2 hlen hd (fun H1 locs1 hP hD hS => k ok ad H1 locs1 ls ha (by rw [hw]; exact hP) (by rw [hw]; exact hD) hS hl)
theorem kCp1 : Cond.native arraycopyName ∈ kwl := by decide +kernel
theorem kCp2 : Cond.static arraycopyName ∈ kwl := by decide +kernel
theorem kCp3 : Cond.initialized "java/lang/System" ∈ kwl := by decide +kernel
theorem AW.acopy {G : aG} {M : aM} {tb : List (Nat × Instr)} {FT PT : List (Nat × Nat × Nat)} (hm : amok M tb FT PT) (i : Nat) {h h1 : aH} {kc ks pc idx a0 a1 : Nat} {lv : aV} {st : List Value} {f g : Nat → Int32} {n : Int32} {R : Room} (N : Nat) (hi : tb[i]? = some (pc, .invokestatic idx)) (hlk : Cond.methodLink M.1 idx arraycopyName ∈ kwl) (hcat : Nat.ble (st.map fun v => v.category).sum 8 = true) (hR : aRm G = R) (hRR : 1 ≤ R.frames ∧ 40 ≤ R.locals) (hn : ¬ n < 0) (hN : n.toNatClampNeg = N)
    (h0 : h[a0]? = some (aI N f)) (h2 : h[a1]? = some (aI N g)) (hh : h.set a1 (aI N f) = h1) (k : AW G M h1 kc ks (pc + 3) lv st) : AW G M h kc ks pc lv (.int n :: .int 0 :: .ref a1 :: .int 0 :: .ref a0 :: st) := by
  have hd := tb_at hm.1 i hi
  obtain ⟨p, l, e, R0, s, m, args, below, meth, c, Q, D, cI, cL, A, ad0, X⟩ := G
  have hR : R0 = R := hR
  subst hR; subst hh
  intro ok ad H locs ls ha hP hD hS hl
  obtain ⟨hx, hb, hml, hown, hkw, hK, hA, hX⟩ := id ok
  have hc8 := Nat.le_of_ble_eq_true hcat
  have hz : (0 : Int32).toNatClampNeg = 0 := by decide
  refine va_copyi hx hb (by rw [hml]; exact hl.1.symm) hown (hkw.use _ hlk) (hkw.use _ kCp1) (hkw.use _ kCp2) (hkw.use _ kCp3) hK hP hD hS a0 a1 0 0 (wl_get h0) (wl_get h2) rfl rfl rfl (by decide) (by decide) hn (by rw [hz, hN]; omega) (by rw [hz, hN]; omega) (fun _ _ => rfl) hRR.1 ?_ hd (fun H1 locs1 hP hD hS => ?_)
  · rw [cats]
    have : nativeFrameWords "java/lang/System" "arraycopy" 5 + 11 ≤ 32 := by decide
    omega
  rw [hz, hN] at hP hD
  have hw : (wl cI cL ad h).set a1 (ad a1, .inl (cI, N, .inl (va_cpy f g 0 0 N))) = wl cI cL ad (h.set a1 (aI N (va_cpy f g 0 0 N))) := by rw [wl_set]; rfl
  rw [hw] at hP hD
  have hcq : ∀ (h : aH) (a : Nat), hq9 (h.set a (aI N (va_cpy f g 0 0 N))) (h.set a (aI N f)) := by
    have hrf : ∀ (h : aH), hq9 h h := by
      intro h
      induction h with
      | nil => trivial
      | cons x r ih => exact ⟨by rcases x with x | x | x <;> first | exact ⟨rfl, fun _ _ => rfl⟩ | rfl, ih⟩
    intro h
    induction h with
    | nil => intro a; trivial
    | cons x r ih =>
      intro a
      cases a with
      | zero => exact ⟨⟨rfl, fun j hj => by
          show va_cpy f g 0 0 N j = f j
          have hj : j < N := hj
          simp [va_cpy, hj]⟩, hrf r⟩
      | succ a => exact ⟨by rcases x with x | x | x <;> first | exact ⟨rfl, fun _ _ => rfl⟩ | rfl, ih a⟩
  exact k ok ad H1 locs1 ls ha (heq_P (hcq h a1) hP) (heq_D (hcq h a1) hD) hS hl
end
section
/-! ===== a call whose new cells are kept (constructors) ===== -/
def sgx (σ : List Nat) (n b : Nat) : List Nat := σ ++ (List.range b).map (fun j => n + j)
def adx (n m b : Nat) (ad' ad : Nat → Nat) : Nat → Nat := fun i => if n ≤ i ∧ i < n + b then ad' (m + (i - n)) else ad i
theorem adx_agree {n m b : Nat} {ad' ad : Nat → Nat} (hn : n + b ≤ 100) : ∀ i, i < n ∨ 100 ≤ i → adx n m b ad' ad i = ad i := fun i h => by
  unfold adx
  rw [if_neg (by omega)]
theorem sgx_old {σ δ : List Nat} {n b j i : Nat} (hj : j < 100) (hi : σ[j]? = some i) : sg (sgx σ n b) δ j = i := by
  refine sg_at hj ?_
  have hl : j < σ.length := (List.getElem?_eq_some_iff.mp hi).1
  rw [sgx, List.getElem?_append_left hl, hi]
theorem sgx_new {σ δ : List Nat} {n b j : Nat} (hj : σ.length + j < 100) (hb : j < b) : sg (sgx σ n b) δ (σ.length + j) = n + j := by
  refine sg_at hj ?_
  rw [sgx, List.getElem?_append_right (by omega)]
  simp [hb]
theorem sg_out {σ σ' δ : List Nat} {i : Nat} (hi : 100 ≤ i) : sg σ δ i = sg σ' δ i := by
  have hb : Nat.blt i 100 = false := by
    cases h : Nat.blt i 100 with
    | false => rfl
    | true => exact absurd (Nat.le_of_ble_eq_true h : i < 100) (by omega)
  simp [sg, hb]
def okD (n : Nat) (δ : List Nat) : Bool := δ.all (fun d => Nat.blt d n || Nat.ble 100 d)
theorem sg_okD {σ δ : List Nat} {n i : Nat} (hn : 0 < n) (hδ : okD n δ = true) (hi : 100 ≤ i) : sg σ δ i < n ∨ 100 ≤ sg σ δ i := by
  have hb : Nat.blt i 100 = false := by
    cases h : Nat.blt i 100 with
    | false => rfl
    | true => exact absurd (Nat.le_of_ble_eq_true h : i < 100) (by omega)
  simp only [sg, hb, cond_false, List.getD_eq_getElem?_getD]
  cases hd : δ[i - 100]? with
  | none => exact Or.inl hn
  | some d =>
    have := List.all_eq_true.mp hδ d (List.mem_of_getElem? hd)
    rcases (Bool.or_eq_true _ _).mp this with z | z
    · exact Or.inl (Nat.le_of_ble_eq_true z)
    · exact Or.inr (Nat.le_of_ble_eq_true z)
section CN
variable {p : Program} {l : Launch} {e : Env} {R : Room} {s : State} {m : MethodId} {args : Array Value} {below : List Frame} {meth : Method} {c : Code} {H : Heap} {locs : List Loc} {kc ks : Nat} {Q : State → Prop}
variable {D : va_G} {cI cL : ClassId} {ad : Nat → Nat} {A : Nat → Prop} {H0 : Heap}
set_option maxHeartbeats 1000000 in
theorem call_coreN {mc ms pc : Nat} {ls : Array Slot} {st0 rest : List Value} {σ δ : List Nat} {h hc hA' hB' : aH} {r : Option Value} {as : Array Value}
    (hr : va_Run p l e R s m args below meth c H locs kc ks mc ms (F0 m pc ls st0) rest (aQc r hc (hA' ++ hB') D cI cL (fun i => ad (sg σ δ i)) H.size as) (va_A (wl cI cL (fun i => ad (sg σ δ i)) hc) H.size))
    (hP : va_P D vwCl (wl cI cL ad h) H) (hD : va_D A (wl cI cL ad h)) (hS : va_S A H0 H locs) (hA : ∀ q, H0.size ≤ q → A q)
    (hsub : σ.map (fun i => h[i]?) = (hc.map (rE σ δ)).map some) (hnd : va_nd σ = true) (hlen : hA'.length = hc.length) (h100 : h.length + hB'.length ≤ 100) (h100c : hc.length + hB'.length ≤ 100) (hok : (hA' ++ hB').all (okE (hc.length + hB'.length)) = true) (hh0 : 0 < h.length) (hδ : okD h.length δ = true) (hokh : h.all (okE h.length) = true)
    (kk : ∀ (ad2 : Nat → Nat) (H1 : Heap) (locs1 : List Loc), (∀ i, i < h.length ∨ 100 ≤ i → ad2 i = ad i) → va_P D vwCl (wl cI cL ad2 (putb σ (hA'.map (rE (sgx σ h.length hB'.length) δ)) h ++ hB'.map (rE (sgx σ h.length hB'.length) δ))) H1 → va_D A (wl cI cL ad2 (putb σ (hA'.map (rE (sgx σ h.length hB'.length) δ)) h ++ hB'.map (rE (sgx σ h.length hB'.length) δ))) → va_S A H0 H1 locs1 → W p l e R s m args below meth c H1 locs1 (kc + mc) (ks + ms) Q (F0 m (pc + 3) ls (r.toList ++ rest))) :
    W p l e R s m args below meth c H locs kc ks Q (F0 m pc ls st0) := by
  intro T hT X
  obtain ⟨v, st₀, t, T', L, h0, X', hL, e1, e2, ⟨⟨ad', ha', hv, hP1, hD1⟩, hF⟩, st⟩ := hr T hT X
  cases hv
  have hσl : σ.length = hc.length := sub_len hsub
  -- the new map
  have hag := adx_agree (n := h.length) (m := hc.length) (ad' := ad') (ad := ad) h100
  have hσi : ∀ (j i : Nat), σ[j]? = some i → i < h.length := by
    intro j i hi
    have hjl : j < hc.length := by rw [← hσl]; exact (List.getElem?_eq_some_iff.mp hi).1
    obtain ⟨i2, hi2, hh2⟩ := sub_get hsub (List.getElem?_eq_getElem hjl)
    rw [hi] at hi2
    cases hi2
    exact (List.getElem?_eq_some_iff.mp hh2).1
  have hmap : ∀ i, i < hc.length + hB'.length ∨ 100 ≤ i → ad' i = (fun i => adx h.length hc.length hB'.length ad' ad (sg (sgx σ h.length hB'.length) δ i)) i := by
    intro i hi
    show ad' i = adx h.length hc.length hB'.length ad' ad (sg (sgx σ h.length hB'.length) δ i)
    by_cases h1 : i < hc.length
    · obtain ⟨i2, hi2, hh2⟩ := sub_get hsub (List.getElem?_eq_getElem h1)
      rw [sgx_old (by omega) hi2, hag i2 (Or.inl (hσi i i2 hi2)), ha' i (Or.inl h1)]
      show ad (sg σ δ i) = ad i2
      rw [sg_at (by omega) hi2]
    · by_cases h2 : i < hc.length + hB'.length
      · have e9 : i = σ.length + (i - hc.length) := by omega
        have e8 : sg (sgx σ h.length hB'.length) δ i = h.length + (i - hc.length) := by
          rw [show sg (sgx σ h.length hB'.length) δ i = sg (sgx σ h.length hB'.length) δ (σ.length + (i - hc.length)) by rw [← e9]]
          exact sgx_new (by omega) (by omega)
        rw [e8]
        unfold adx
        rw [if_pos (by omega)]
        congr 1
        omega
      · have h3 : 100 ≤ i := by omega
        rw [hag _ (sg_okD hh0 hδ h3), ha' i (Or.inr h3)]
        show ad (sg σ δ i) = _
        rw [sg_out (σ' := sgx σ h.length hB'.length) h3]
  have hAc : ∀ q, va_A (wl cI cL (fun i => ad (sg σ δ i)) hc) H.size q → A q := by
    intro q hq
    rcases hq with ⟨k, x, hk⟩ | hq
    · obtain ⟨e0, he0, hq2⟩ := wl_some hk
      have hjl : k < hc.length := (List.getElem?_eq_some_iff.mp he0).1
      obtain ⟨i, hi, hh⟩ := sub_get hsub he0
      have h3 := hD.2 i _ (wl_get hh)
      have h4 : q = ad i := by
        have := congrArg Prod.fst hq2
        simpa [sg_at (δ := δ) (by omega : k < 100) hi] using this
      rw [h4]; exact h3
    · exact hA q (Nat.le_trans hS.1 hq)
  have hz : H.size ≤ t.heap.size := by rw [← h0]; exact hF.1
  have hk : ∀ q : Nat, q < H.size → ¬ va_A (wl cI cL (fun i => ad (sg σ δ i)) hc) H.size q → t.heap[q]? = H[q]? := fun q h1 h2 => by
    have := hF.2 q (by rw [h0]; exact h1) h2
    rw [h0] at this
    exact this
  -- each new cell of the caller is one of the callee, or an old one
  have hnew : ∀ (k : Nat) (e0 : aE), (putb σ (hA'.map (rE (sgx σ h.length hB'.length) δ)) h ++ hB'.map (rE (sgx σ h.length hB'.length) δ))[k]? = some e0 →
      (∃ (j : Nat) (e' : aE), (hA' ++ hB')[j]? = some e' ∧ e0 = rE (sgx σ h.length hB'.length) δ e' ∧ adx h.length hc.length hB'.length ad' ad k = ad' j ∧ ((j < hc.length ∧ σ[j]? = some k) ∨ (hc.length ≤ j ∧ k = h.length + (j - hc.length)))) ∨ (k ∉ σ ∧ k < h.length ∧ h[k]? = some e0) := by
    intro k e0 he0
    by_cases hkl : k < h.length
    · rw [List.getElem?_append_left (by rw [putb_len]; exact hkl)] at he0
      by_cases hkσ : k ∈ σ
      · obtain ⟨j, hj⟩ := List.getElem?_of_mem hkσ
        have hjl : j < hc.length := by rw [← hσl]; exact (List.getElem?_eq_some_iff.mp hj).1
        have hjl' : j < hA'.length := by rw [hlen]; exact hjl
        have he' : hA'[j]? = some hA'[j] := List.getElem?_eq_getElem hjl'
        have h1 := putb_in σ (hA'.map (rE (sgx σ h.length hB'.length) δ)) h hnd hj (e := rE (sgx σ h.length hB'.length) δ hA'[j]) (by rw [List.getElem?_map, he']; rfl) hkl
        refine Or.inl ⟨j, hA'[j], by rw [List.getElem?_append_left hjl', he'], Option.some.inj (he0.symm.trans h1), ?_, Or.inl ⟨hjl, hj⟩⟩
        rw [hag k (Or.inl hkl), ha' j (Or.inl hjl)]
        show ad k = ad (sg σ δ j)
        rw [sg_at (by omega) hj]
      · rw [putb_out σ _ h hkσ] at he0
        exact Or.inr ⟨hkσ, hkl, he0⟩
    · rw [List.getElem?_append_right (by rw [putb_len]; omega), putb_len, List.getElem?_map] at he0
      cases hb : hB'[k - h.length]? with
      | none => rw [hb] at he0; simp at he0
      | some e' =>
        rw [hb] at he0
        have hbl : k - h.length < hB'.length := (List.getElem?_eq_some_iff.mp hb).1
        refine Or.inl ⟨hc.length + (k - h.length), e', ?_, (Option.some.inj he0).symm, ?_, Or.inr ⟨by omega, by omega⟩⟩
        · rw [List.getElem?_append_right (by omega), hlen]
          rw [show hc.length + (k - h.length) - hc.length = k - h.length by omega]
          exact hb
        · unfold adx
          rw [if_pos (by omega)]
  have hold : ∀ (k : Nat) (e0 : aE), k ∉ σ → h[k]? = some e0 → ¬ va_A (wl cI cL (fun i => ad (sg σ δ i)) hc) H.size (ad k) := by
    intro k e0 hkσ he0
    have hlt : ad k < H.size := (hP k _ (wl_get (cI := cI) (cL := cL) (ad := ad) he0)).lt
    rintro (⟨k2, x, hx⟩ | hx)
    · obtain ⟨e2, he2, hq2⟩ := wl_some hx
      have hjl : k2 < hc.length := (List.getElem?_eq_some_iff.mp he2).1
      obtain ⟨i, hi, hh⟩ := sub_get hsub he2
      have h4 : ad k = ad i := by
        have := congrArg Prod.fst hq2
        simpa [sg_at (δ := δ) (by omega : k2 < 100) hi] using this
      have h5 := hD.1 k i _ _ (wl_get he0) (wl_get hh) h4
      exact hkσ (h5 ▸ List.mem_of_getElem? hi)
    · omega
  have hPn : va_P D vwCl (wl cI cL (adx h.length hc.length hB'.length ad' ad) (putb σ (hA'.map (rE (sgx σ h.length hB'.length) δ)) h ++ hB'.map (rE (sgx σ h.length hB'.length) δ))) T'.heap := by
    intro k q hq
    obtain ⟨e0, he0, rfl⟩ := wl_some hq
    rcases hnew k e0 he0 with ⟨j, e', hj, rfl, had, -⟩ | ⟨hkσ, hkl, he1⟩
    · have h3 := hP1 j _ (wl_get hj)
      rw [ee_agree (n := hc.length + hB'.length) hmap (List.all_eq_true.mp hok e' (List.mem_of_getElem? hj))] at h3
      rw [ee_rE, had, e1]
      exact h3
    · have h1 := hP k _ (wl_get (cI := cI) (cL := cL) (ad := ad) he1)
      have hlt : ad k < H.size := h1.lt
      rw [hag k (Or.inl hkl), ee_agree hag (List.all_eq_true.mp hokh e0 (List.mem_of_getElem? he1))]
      refine h1.kept ?_
      rw [e1]
      exact hk (ad k) hlt (hold k e0 hkσ he1)
  have hDn : va_D A (wl cI cL (adx h.length hc.length hB'.length ad' ad) (putb σ (hA'.map (rE (sgx σ h.length hB'.length) δ)) h ++ hB'.map (rE (sgx σ h.length hB'.length) δ))) := by
    refine ⟨fun a b x y hx hy he => ?_, fun k q hk => ?_⟩
    · obtain ⟨ea, hea, rfl⟩ := wl_some hx
      obtain ⟨eb, heb, rfl⟩ := wl_some hy
      have he : adx h.length hc.length hB'.length ad' ad a = adx h.length hc.length hB'.length ad' ad b := he
      rcases hnew a ea hea with ⟨j, e', hj, -, had, hja⟩ | ⟨hkσ, hkl, he1⟩ <;> rcases hnew b eb heb with ⟨j2, e2', hj2, -, had2, hjb⟩ | ⟨hkσ2, hkl2, he12⟩
      · rw [had, had2] at he
        have hjj := hD1.1 j j2 _ _ (wl_get hj) (wl_get hj2) he
        subst hjj
        rcases hja with ⟨u1, u2⟩ | ⟨u1, u2⟩ <;> rcases hjb with ⟨v1, v2⟩ | ⟨v1, v2⟩
        · exact Option.some.inj (u2.symm.trans v2)
        · omega
        · omega
        · omega
      · exfalso
        rw [had, hag b (Or.inl hkl2)] at he
        have h6 := hD1.2 j _ (wl_get hj)
        have h6 : va_A (wl cI cL (fun i => ad (sg σ δ i)) hc) H.size (ad' j) := h6
        rw [he] at h6
        exact hold b eb hkσ2 he12 h6
      · exfalso
        rw [had2, hag a (Or.inl hkl)] at he
        have h6 := hD1.2 j2 _ (wl_get hj2)
        have h6 : va_A (wl cI cL (fun i => ad (sg σ δ i)) hc) H.size (ad' j2) := h6
        rw [← he] at h6
        exact hold a ea hkσ he1 h6
      · rw [hag a (Or.inl hkl), hag b (Or.inl hkl2)] at he
        exact hD.1 a b _ _ (wl_get he1) (wl_get he12) he
    · obtain ⟨e0, he0, rfl⟩ := wl_some hk
      rcases hnew k e0 he0 with ⟨j, e', hj, -, had, -⟩ | ⟨hkσ, hkl, he1⟩
      · have h6 := hD1.2 j _ (wl_get hj)
        show A (adx h.length hc.length hB'.length ad' ad k)
        rw [had]
        exact hAc _ h6
      · show A (adx h.length hc.length hB'.length ad' ad k)
        rw [hag k (Or.inl hkl)]
        exact hD.2 k _ (wl_get he1)
  have hSn : va_S A H0 T'.heap (locs ++ L) := ⟨Nat.le_trans hS.1 (by rw [e1]; exact hz), fun q h1 h2 => by rw [e1, hk q (Nat.lt_of_lt_of_le h1 hS.1) (fun z => h2 (hAc q z))]; exact hS.2.1 q h1 h2, fun q hq => by
      rcases List.mem_append.mp hq with h | h
      · exact hS.2.2 q h
      · exact hAc _ (hL q h)⟩
  obtain ⟨t2, a1, b1⟩ := kk _ T'.heap (locs ++ L) hag hPn hDn hSn T' rfl X'
  exact ⟨t2, st t2 a1, b1⟩
end CN
set_option maxHeartbeats 1000000 in
theorem AW.callI {G : aG} {M : aM} {tb : List (Nat × Instr)} {FT PT : List (Nat × Nat × Nat)} (hm : amok M tb FT PT) (i : Nat) {h hc hA' hB' h1 : aH} {kc ks pc idx maxL n : Nat} {lv : aV} {as rest st st' : List Value} {y : MethodName} {b : ByteArray} {rm R : Room} {r : Option Value}
    (hc0 : AMet y b maxL none rm (.ref 0 :: as) hc r (hA' ++ hB')) (σ δ : List Nat) (hy : yok y b maxL none n) (hinst : Cond.instanceMethod y ∈ kwl) (hinit : y.name = "<init>") (hlk : mlnk M.1 idx y) (hn : as.length = n)
    (hi : tb[i]? = some (pc, .invokespecial idx)) (hst : st = (as.map (rv σ δ)).reverse ++ .ref (sg σ δ 0) :: rest) (hcat : Nat.ble (rest.map fun v => v.category).sum 8 = true)
    (hR : aRm G = R) (hRR : rm.frames + 1 ≤ R.frames ∧ 8 + (maxL + 11) + rm.locals ≤ R.locals ∧ kc + rm.cells ≤ R.cells ∧ ks + rm.slots ≤ R.slots)
    (hsub : σ.map (fun i => h[i]?) = (hc.map (rE σ δ)).map some) (hnd : va_nd σ = true) (hlen : hA'.length = hc.length) (h100 : Nat.ble (h.length + hB'.length) 100 = true) (h100c : Nat.ble (hc.length + hB'.length) 100 = true) (hok : (hA' ++ hB').all (okE (hc.length + hB'.length)) = true) (hh0 : Nat.blt 0 h.length = true) (hδ : okD h.length δ = true) (hoks : okS h.length h lv rest = true) (hM : Nat.ble M.2.2.2 h.length = true) (hr0 : ∀ ad, r.map (ev ad) = r)
    (hh1 : putb σ (hA'.map (rE (sgx σ h.length hB'.length) δ)) h ++ hB'.map (rE (sgx σ h.length hB'.length) δ) = h1) (hst' : r.toList ++ rest = st') (k : AW G M h1 (kc + rm.cells) (ks + rm.slots) (pc + 3) lv st') : AW G M h kc ks pc lv st := by
  have hd := tb_at hm.1 i hi
  obtain ⟨p, l, e, R0, s, m, args, below, meth, c, Q, D, cI, cL, A, ad0, X⟩ := G
  have hR : R0 = R := hR
  subst hR; subst hh1; subst hst'; subst hst
  intro ok ad H locs ls ha hP hD hS hl
  obtain ⟨hx, hb, hml, hown, hkw, hK, hA, hX⟩ := id ok
  have h100 := Nat.le_of_ble_eq_true h100
  have h100c := Nat.le_of_ble_eq_true h100c
  have hM : M.2.2.2 ≤ h.length := Nat.le_of_ble_eq_true hM
  obtain ⟨o1, o2⟩ := (Bool.and_eq_true _ _).mp hoks
  obtain ⟨o2, o3⟩ := (Bool.and_eq_true _ _).mp o2
  obtain ⟨hPc, hDc⟩ := sub_PD (δ := δ) hP hD hsub hnd (by omega)
  have hws : ∀ w ∈ ([.code y b maxL none] : List Cond), ∀ (a' : Array Value) (U : State), s.WarmedH U.vm → w.before a' U = true := fun w hw a' U hW => (kw.moved hW hkw).use w (by rw [List.mem_singleton.mp hw]; exact hy.1)
  have hpre : PreS s H (aPc (.ref 0 :: as) hc D cI cL (fun i => ad (sg σ δ i)) H.size) (.ref (ad (sg σ δ 0)) :: as.map (ev (fun i => ad (sg σ δ i)))) := ⟨aPc_blind _ _ _ _ _ _ _, fun U hU hW => ⟨rfl, by rw [hU], by rw [hU]; exact hPc, va_K.moved hW.alike hK, hDc, kw.moved hW hkw⟩⟩
  have hstk : ((as.map (rv σ δ)).reverse ++ .ref (sg σ δ 0) :: rest).map (ev ad) = (as.map (ev (fun i => ad (sg σ δ i)))).reverse ++ .ref (ad (sg σ δ 0)) :: rest.map (ev ad) := by
    rw [List.map_append, List.map_reverse, evs_rv]
    rfl
  have hcat2 : 2 * (F0 m pc ls (((as.map (rv σ δ)).reverse ++ .ref (sg σ δ 0) :: rest).map (ev ad))).monitorRoom + ((rest.map (ev ad)).map fun v => v.category).sum ≤ 8 := lv_room (by rw [cats]; exact Nat.le_of_ble_eq_true hcat)
  have run : va_Run p l e R0 s m args below meth c H locs kc ks rm.cells rm.slots (F0 m pc ls (((as.map (rv σ δ)).reverse ++ .ref (sg σ δ 0) :: rest).map (ev ad))) (rest.map (ev ad)) (aQc r hc (hA' ++ hB') D cI cL (fun i => ad (sg σ δ i)) H.size (Value.ref (ad (sg σ δ 0)) :: as.map (ev (fun i => ad (sg σ δ i)))).toArray) (va_A (wl cI cL (fun i => ad (sg σ δ i)) hc) H.size) := by
    rcases hlk with hlk | ⟨host, hlk⟩
    · exact va_runI (Ts := kwl) (own := M.1) ⟨hx, hb, hml, hown, hkw.use⟩ (hc0 l D cI cL _ H.size) ⟨⟨rfl, rfl, hRR.1, hRR.2.1, hws, List.mem_singleton.mpr rfl, hkw.use _ hy.1, hkw.use _ hy.2.1, hy.2.2.1, yok_n hy, hkw.use _ hlk⟩, hinit, hkw.use _ hinst⟩ hpre rfl (by rw [List.length_map]; exact hn) hl.1 hstk hcat2 hd ⟨hRR.2.2.1, hRR.2.2.2⟩
    · exact va_runIN (Ts := kwl) (own := M.1) ⟨hx, hb, hml, hown, hkw.use⟩ (hc0 l D cI cL _ H.size) ⟨⟨⟨rfl, rfl, hRR.1, hRR.2.1, hws, List.mem_singleton.mpr rfl⟩, hkw.use _ hy.1, hkw.use _ hy.2.1, hy.2.2.1, yok_n hy, hkw.use _ hlk⟩, hinit, hkw.use _ hinst⟩ hpre rfl (by rw [List.length_map]; exact hn) hl.1 hstk hcat2 hd ⟨hRR.2.2.1, hRR.2.2.2⟩
  refine call_coreN run hP hD hS hA hsub hnd hlen h100 h100c hok (Nat.le_of_ble_eq_true hh0) hδ o1 (fun ad2 H1 locs1 hag hP hD hS => ?_)
  have k2 := k ok ad2 H1 locs1 ls (fun j hj => by rw [hag j (by omega)]; exact ha j hj) hP hD hS (by rw [el_agree hag o2]; exact hl)
  rw [List.map_append, evs_agree hag o3] at k2
  have hr1 : r.toList.map (ev ad2) = r.toList := by
    have := hr0 ad2
    cases r with
    | none => rfl
    | some v => simpa using this
  rw [hr1] at k2
  exact k2
end
section
/-! ===== copyFrom, new City(), new MudSweepers() ===== -/
def hCb (b : Nat) (C : CS) : aH := [aO 0 [.ref (b + 1), .ref (b + 2), .ref (b + 3), .ref (b + 4), .ref (b + 5), .ref (b + 6), .ref (b + 7), .ref (b + 8), .ref (b + 9), .ref (b + 10), .ref (b + 11), .ref (b + 12), .int C.2.2.2.2.2.2.2.2.2.2.2.2.1, .int C.2.2.2.2.2.2.2.2.2.2.2.2.2], aI 9 C.1, aI 9 C.2.1, aI 9 C.2.2.1, aI 9 C.2.2.2.1, aI 9 C.2.2.2.2.1, aI 8 C.2.2.2.2.2.1, aI 8 C.2.2.2.2.2.2.1, aI 8 C.2.2.2.2.2.2.2.1, aI 8 C.2.2.2.2.2.2.2.2.1, aI 8 C.2.2.2.2.2.2.2.2.2.1, aI 8 C.2.2.2.2.2.2.2.2.2.2.1, aI 8 C.2.2.2.2.2.2.2.2.2.2.2.1]
theorem kobX0_3 : Cond.methodLink RX0 3 objectInit ∈ kwl := by decide +kernel
theorem kcpX0_48 : Cond.methodLink RX0 48 arraycopyName ∈ kwl := by decide +kernel
theorem kobX1_1 : Cond.methodLink RX1 1 objectInit ∈ kwl := by decide +kernel
theorem kobX2_9 : Cond.methodLink RX2 9 objectInit ∈ kwl := by decide +kernel
theorem kcpX2_40 : Cond.methodLink RX2 40 arraycopyName ∈ kwl := by decide +kernel
theorem kobX3_1 : Cond.methodLink RX3 1 objectInit ∈ kwl := by decide +kernel
theorem kpfX0_9 : Cond.fieldLink RX0 9 (TX0 0).1 (TX0 0).2.1 (TX0 0).2.2.1 ∈ kwl := by decide +kernel
theorem kpfX0_15 : Cond.fieldLink RX0 15 (TX0 1).1 (TX0 1).2.1 (TX0 1).2.2.1 ∈ kwl := by decide +kernel
theorem kpfX0_18 : Cond.fieldLink RX0 18 (TX0 2).1 (TX0 2).2.1 (TX0 2).2.2.1 ∈ kwl := by decide +kernel
theorem kpfX0_21 : Cond.fieldLink RX0 21 (TX0 3).1 (TX0 3).2.1 (TX0 3).2.2.1 ∈ kwl := by decide +kernel
theorem kpfX0_24 : Cond.fieldLink RX0 24 (TX0 4).1 (TX0 4).2.1 (TX0 4).2.2.1 ∈ kwl := by decide +kernel
theorem kpfX0_27 : Cond.fieldLink RX0 27 (TX0 5).1 (TX0 5).2.1 (TX0 5).2.2.1 ∈ kwl := by decide +kernel
theorem kpfX0_30 : Cond.fieldLink RX0 30 (TX0 6).1 (TX0 6).2.1 (TX0 6).2.2.1 ∈ kwl := by decide +kernel
theorem kpfX0_33 : Cond.fieldLink RX0 33 (TX0 7).1 (TX0 7).2.1 (TX0 7).2.2.1 ∈ kwl := by decide +kernel
theorem kpfX0_36 : Cond.fieldLink RX0 36 (TX0 8).1 (TX0 8).2.1 (TX0 8).2.2.1 ∈ kwl := by decide +kernel
theorem kpfX0_39 : Cond.fieldLink RX0 39 (TX0 9).1 (TX0 9).2.1 (TX0 9).2.2.1 ∈ kwl := by decide +kernel
theorem kpfX0_42 : Cond.fieldLink RX0 42 (TX0 10).1 (TX0 10).2.1 (TX0 10).2.2.1 ∈ kwl := by decide +kernel
theorem kpfX0_45 : Cond.fieldLink RX0 45 (TX0 11).1 (TX0 11).2.1 (TX0 11).2.2.1 ∈ kwl := by decide +kernel
theorem kpfX1_10 : Cond.fieldLink RX1 10 (TX1 0).1 (TX1 0).2.1 (TX1 0).2.2.1 ∈ kwl := by decide +kernel
theorem kpfX1_16 : Cond.fieldLink RX1 16 (TX1 1).1 (TX1 1).2.1 (TX1 1).2.2.1 ∈ kwl := by decide +kernel
theorem kpfX1_19 : Cond.fieldLink RX1 19 (TX1 2).1 (TX1 2).2.1 (TX1 2).2.2.1 ∈ kwl := by decide +kernel
theorem kpfX2_3 : Cond.fieldLink RX2 3 (TX2 9).1 (TX2 9).2.1 (TX2 9).2.2.1 ∈ kwl := by decide +kernel
theorem kpfX2_15 : Cond.fieldLink RX2 15 (TX2 1).1 (TX2 1).2.1 (TX2 1).2.2.1 ∈ kwl := by decide +kernel
theorem kpfX2_19 : Cond.fieldLink RX2 19 (TX2 2).1 (TX2 2).2.1 (TX2 2).2.2.1 ∈ kwl := by decide +kernel
theorem kpfX2_22 : Cond.fieldLink RX2 22 (TX2 3).1 (TX2 3).2.1 (TX2 3).2.2.1 ∈ kwl := by decide +kernel
theorem kpfX2_25 : Cond.fieldLink RX2 25 (TX2 4).1 (TX2 4).2.1 (TX2 4).2.2.1 ∈ kwl := by decide +kernel
theorem kpfX2_28 : Cond.fieldLink RX2 28 (TX2 5).1 (TX2 5).2.1 (TX2 5).2.2.1 ∈ kwl := by decide +kernel
theorem kpfX2_31 : Cond.fieldLink RX2 31 (TX2 6).1 (TX2 6).2.1 (TX2 6).2.2.1 ∈ kwl := by decide +kernel
theorem kpfX2_34 : Cond.fieldLink RX2 34 (TX2 7).1 (TX2 7).2.1 (TX2 7).2.2.1 ∈ kwl := by decide +kernel
theorem kpfX2_37 : Cond.fieldLink RX2 37 (TX2 8).1 (TX2 8).2.1 (TX2 8).2.2.1 ∈ kwl := by decide +kernel
theorem kpfX3_9 : Cond.fieldLink RX3 9 (TX3 1).1 (TX3 1).2.1 (TX3 1).2.2.1 ∈ kwl := by decide +kernel
theorem kpfX3_13 : Cond.fieldLink RX3 13 (TX3 2).1 (TX3 2).2.1 (TX3 2).2.2.1 ∈ kwl := by decide +kernel
theorem kpfX3_16 : Cond.fieldLink RX3 16 (TX3 3).1 (TX3 3).2.1 (TX3 3).2.2.1 ∈ kwl := by decide +kernel
theorem kpfX3_19 : Cond.fieldLink RX3 19 (TX3 5).1 (TX3 5).2.1 (TX3 5).2.2.1 ∈ kwl := by decide +kernel
theorem kpfX3_22 : Cond.fieldLink RX3 22 (TX3 6).1 (TX3 6).2.1 (TX3 6).2.2.1 ∈ kwl := by decide +kernel
theorem kpfX3_30 : Cond.fieldLink RX3 30 (TX3 7).1 (TX3 7).2.1 (TX3 7).2.2.1 ∈ kwl := by decide +kernel
theorem kpfX3_34 : Cond.fieldLink RX3 34 (TX3 8).1 (TX3 8).2.1 (TX3 8).2.2.1 ∈ kwl := by decide +kernel
theorem kpd0_0 : parseFieldDescriptor (TX0 0).2.2.1 = some (.array .int) := by decide +kernel
theorem kpd0_1 : parseFieldDescriptor (TX0 1).2.2.1 = some (.array .int) := by decide +kernel
theorem kpd0_2 : parseFieldDescriptor (TX0 2).2.2.1 = some (.array .int) := by decide +kernel
theorem kpd0_3 : parseFieldDescriptor (TX0 3).2.2.1 = some (.array .int) := by decide +kernel
theorem kpd0_4 : parseFieldDescriptor (TX0 4).2.2.1 = some (.array .int) := by decide +kernel
theorem kpd0_5 : parseFieldDescriptor (TX0 5).2.2.1 = some (.array .int) := by decide +kernel
theorem kpd0_6 : parseFieldDescriptor (TX0 6).2.2.1 = some (.array .int) := by decide +kernel
theorem kpd0_7 : parseFieldDescriptor (TX0 7).2.2.1 = some (.array .int) := by decide +kernel
theorem kpd0_8 : parseFieldDescriptor (TX0 8).2.2.1 = some (.array .int) := by decide +kernel
theorem kpd0_9 : parseFieldDescriptor (TX0 9).2.2.1 = some (.array .int) := by decide +kernel
theorem kpd0_10 : parseFieldDescriptor (TX0 10).2.2.1 = some (.array .int) := by decide +kernel
theorem kpd0_11 : parseFieldDescriptor (TX0 11).2.2.1 = some (.array .int) := by decide +kernel
theorem kpd1_0 : parseFieldDescriptor (TX1 0).2.2.1 = some (.object "MudSweepers$City") := by decide +kernel
theorem kpd1_1 : parseFieldDescriptor (TX1 1).2.2.1 = some (.object "MudSweepers$City") := by decide +kernel
theorem kpd1_2 : parseFieldDescriptor (TX1 2).2.2.1 = some (.array .int) := by decide +kernel
theorem kpd2_1 : parseFieldDescriptor (TX2 1).2.2.1 = some (.array .int) := by decide +kernel
theorem kpd2_2 : parseFieldDescriptor (TX2 2).2.2.1 = some (.array .int) := by decide +kernel
theorem kpd2_3 : parseFieldDescriptor (TX2 3).2.2.1 = some (.array .int) := by decide +kernel
theorem kpd2_4 : parseFieldDescriptor (TX2 4).2.2.1 = some (.array .int) := by decide +kernel
theorem kpd2_5 : parseFieldDescriptor (TX2 5).2.2.1 = some (.array .int) := by decide +kernel
theorem kpd2_6 : parseFieldDescriptor (TX2 6).2.2.1 = some (.array .int) := by decide +kernel
theorem kpd2_7 : parseFieldDescriptor (TX2 7).2.2.1 = some (.array .int) := by decide +kernel
theorem kpd2_8 : parseFieldDescriptor (TX2 8).2.2.1 = some (.array .int) := by decide +kernel
theorem kpd2_9 : parseFieldDescriptor (TX2 9).2.2.1 = some (.object "MudSweepersModel") := by decide +kernel
theorem kpd3_1 : parseFieldDescriptor (TX3 1).2.2.1 = some (.array .int) := by decide +kernel
theorem kpd3_2 : parseFieldDescriptor (TX3 2).2.2.1 = some (.array .int) := by decide +kernel
theorem kpd3_3 : parseFieldDescriptor (TX3 3).2.2.1 = some (.array .int) := by decide +kernel
theorem kpd3_5 : parseFieldDescriptor (TX3 5).2.2.1 = some (.array .int) := by decide +kernel
theorem kpd3_6 : parseFieldDescriptor (TX3 6).2.2.1 = some (.array .int) := by decide +kernel
theorem kpd3_7 : parseFieldDescriptor (TX3 7).2.2.1 = some (.object "MudSweepersModel$State") := by decide +kernel
theorem kpd3_8 : parseFieldDescriptor (TX3 8).2.2.1 = some (.object "MudSweepersModel$State") := by decide +kernel
set_option maxHeartbeats 2000000 in
theorem kX0_copyFrom (T C : CS) : AMet yX0_copyFrom cX0_copyFrom 2 none { frames := 1, cells := 0, slots := 0, locals := 40 } [.ref 0, .ref 13] (hCt T ++ hCb 13 C) none (hCt C ++ hCb 13 C) := by
  refine AMet.of (by decide) rfl ?_
  intro G hR hE hI
  refine AW.blk (amX0_copyFrom _) 0 1 (h' := hCt T ++ hCb 13 C) (pc' := 1) (lv' := [(0, .ref 0), (1, .ref 13)]) (st' := [.ref 13]) (L := []) rfl trivial ?_
  refine AW.ifnonnull (amX0_copyFrom _) 1 (tgt := 5) rfl rfl ?_
  refine AW.blk (amX0_copyFrom _) 3 7 (h' := hCt T ++ hCb 13 C) (pc' := 17) (lv' := [(0, .ref 0), (1, .ref 13)]) (st' := [.int 9, .int 0, .ref 1, .int 0, .ref 14]) (L := []) rfl trivial ?_
  refine AW.acopy (amX0_copyFrom _) 10 9 (f := C.1) (g := T.1) rfl kcpX0_48 rfl hR ⟨(Nat.le_of_ble_eq_true rfl), (Nat.le_of_ble_eq_true rfl)⟩ (by decide) (by decide) rfl rfl (h1 := hCt (C.1, T.2.1, T.2.2.1, T.2.2.2.1, T.2.2.2.2.1, T.2.2.2.2.2.1, T.2.2.2.2.2.2.1, T.2.2.2.2.2.2.2.1, T.2.2.2.2.2.2.2.2.1, T.2.2.2.2.2.2.2.2.2.1, T.2.2.2.2.2.2.2.2.2.2.1, T.2.2.2.2.2.2.2.2.2.2.2.1, T.2.2.2.2.2.2.2.2.2.2.2.2.1, T.2.2.2.2.2.2.2.2.2.2.2.2.2) ++ hCb 13 C) rfl ?_
  refine AW.blk (amX0_copyFrom _) 11 7 (h' := hCt (C.1, T.2.1, T.2.2.1, T.2.2.2.1, T.2.2.2.2.1, T.2.2.2.2.2.1, T.2.2.2.2.2.2.1, T.2.2.2.2.2.2.2.1, T.2.2.2.2.2.2.2.2.1, T.2.2.2.2.2.2.2.2.2.1, T.2.2.2.2.2.2.2.2.2.2.1, T.2.2.2.2.2.2.2.2.2.2.2.1, T.2.2.2.2.2.2.2.2.2.2.2.2.1, T.2.2.2.2.2.2.2.2.2.2.2.2.2) ++ hCb 13 C) (pc' := 32) (lv' := [(0, .ref 0), (1, .ref 13)]) (st' := [.int 9, .int 0, .ref 2, .int 0, .ref 15]) (L := []) rfl trivial ?_
  refine AW.acopy (amX0_copyFrom _) 18 9 (f := C.2.1) (g := T.2.1) rfl kcpX0_48 rfl hR ⟨(Nat.le_of_ble_eq_true rfl), (Nat.le_of_ble_eq_true rfl)⟩ (by decide) (by decide) rfl rfl (h1 := hCt (C.1, C.2.1, T.2.2.1, T.2.2.2.1, T.2.2.2.2.1, T.2.2.2.2.2.1, T.2.2.2.2.2.2.1, T.2.2.2.2.2.2.2.1, T.2.2.2.2.2.2.2.2.1, T.2.2.2.2.2.2.2.2.2.1, T.2.2.2.2.2.2.2.2.2.2.1, T.2.2.2.2.2.2.2.2.2.2.2.1, T.2.2.2.2.2.2.2.2.2.2.2.2.1, T.2.2.2.2.2.2.2.2.2.2.2.2.2) ++ hCb 13 C) rfl ?_
  refine AW.blk (amX0_copyFrom _) 19 7 (h' := hCt (C.1, C.2.1, T.2.2.1, T.2.2.2.1, T.2.2.2.2.1, T.2.2.2.2.2.1, T.2.2.2.2.2.2.1, T.2.2.2.2.2.2.2.1, T.2.2.2.2.2.2.2.2.1, T.2.2.2.2.2.2.2.2.2.1, T.2.2.2.2.2.2.2.2.2.2.1, T.2.2.2.2.2.2.2.2.2.2.2.1, T.2.2.2.2.2.2.2.2.2.2.2.2.1, T.2.2.2.2.2.2.2.2.2.2.2.2.2) ++ hCb 13 C) (pc' := 47) (lv' := [(0, .ref 0), (1, .ref 13)]) (st' := [.int 9, .int 0, .ref 3, .int 0, .ref 16]) (L := []) rfl trivial ?_
  refine AW.acopy (amX0_copyFrom _) 26 9 (f := C.2.2.1) (g := T.2.2.1) rfl kcpX0_48 rfl hR ⟨(Nat.le_of_ble_eq_true rfl), (Nat.le_of_ble_eq_true rfl)⟩ (by decide) (by decide) rfl rfl (h1 := hCt (C.1, C.2.1, C.2.2.1, T.2.2.2.1, T.2.2.2.2.1, T.2.2.2.2.2.1, T.2.2.2.2.2.2.1, T.2.2.2.2.2.2.2.1, T.2.2.2.2.2.2.2.2.1, T.2.2.2.2.2.2.2.2.2.1, T.2.2.2.2.2.2.2.2.2.2.1, T.2.2.2.2.2.2.2.2.2.2.2.1, T.2.2.2.2.2.2.2.2.2.2.2.2.1, T.2.2.2.2.2.2.2.2.2.2.2.2.2) ++ hCb 13 C) rfl ?_
  refine AW.blk (amX0_copyFrom _) 27 7 (h' := hCt (C.1, C.2.1, C.2.2.1, T.2.2.2.1, T.2.2.2.2.1, T.2.2.2.2.2.1, T.2.2.2.2.2.2.1, T.2.2.2.2.2.2.2.1, T.2.2.2.2.2.2.2.2.1, T.2.2.2.2.2.2.2.2.2.1, T.2.2.2.2.2.2.2.2.2.2.1, T.2.2.2.2.2.2.2.2.2.2.2.1, T.2.2.2.2.2.2.2.2.2.2.2.2.1, T.2.2.2.2.2.2.2.2.2.2.2.2.2) ++ hCb 13 C) (pc' := 62) (lv' := [(0, .ref 0), (1, .ref 13)]) (st' := [.int 9, .int 0, .ref 4, .int 0, .ref 17]) (L := []) rfl trivial ?_
  refine AW.acopy (amX0_copyFrom _) 34 9 (f := C.2.2.2.1) (g := T.2.2.2.1) rfl kcpX0_48 rfl hR ⟨(Nat.le_of_ble_eq_true rfl), (Nat.le_of_ble_eq_true rfl)⟩ (by decide) (by decide) rfl rfl (h1 := hCt (C.1, C.2.1, C.2.2.1, C.2.2.2.1, T.2.2.2.2.1, T.2.2.2.2.2.1, T.2.2.2.2.2.2.1, T.2.2.2.2.2.2.2.1, T.2.2.2.2.2.2.2.2.1, T.2.2.2.2.2.2.2.2.2.1, T.2.2.2.2.2.2.2.2.2.2.1, T.2.2.2.2.2.2.2.2.2.2.2.1, T.2.2.2.2.2.2.2.2.2.2.2.2.1, T.2.2.2.2.2.2.2.2.2.2.2.2.2) ++ hCb 13 C) rfl ?_
  refine AW.blk (amX0_copyFrom _) 35 7 (h' := hCt (C.1, C.2.1, C.2.2.1, C.2.2.2.1, T.2.2.2.2.1, T.2.2.2.2.2.1, T.2.2.2.2.2.2.1, T.2.2.2.2.2.2.2.1, T.2.2.2.2.2.2.2.2.1, T.2.2.2.2.2.2.2.2.2.1, T.2.2.2.2.2.2.2.2.2.2.1, T.2.2.2.2.2.2.2.2.2.2.2.1, T.2.2.2.2.2.2.2.2.2.2.2.2.1, T.2.2.2.2.2.2.2.2.2.2.2.2.2) ++ hCb 13 C) (pc' := 77) (lv' := [(0, .ref 0), (1, .ref 13)]) (st' := [.int 9, .int 0, .ref 5, .int 0, .ref 18]) (L := []) rfl trivial ?_
  refine AW.acopy (amX0_copyFrom _) 42 9 (f := C.2.2.2.2.1) (g := T.2.2.2.2.1) rfl kcpX0_48 rfl hR ⟨(Nat.le_of_ble_eq_true rfl), (Nat.le_of_ble_eq_true rfl)⟩ (by decide) (by decide) rfl rfl (h1 := hCt (C.1, C.2.1, C.2.2.1, C.2.2.2.1, C.2.2.2.2.1, T.2.2.2.2.2.1, T.2.2.2.2.2.2.1, T.2.2.2.2.2.2.2.1, T.2.2.2.2.2.2.2.2.1, T.2.2.2.2.2.2.2.2.2.1, T.2.2.2.2.2.2.2.2.2.2.1, T.2.2.2.2.2.2.2.2.2.2.2.1, T.2.2.2.2.2.2.2.2.2.2.2.2.1, T.2.2.2.2.2.2.2.2.2.2.2.2.2) ++ hCb 13 C) rfl ?_
  refine AW.blk (amX0_copyFrom _) 43 7 (h' := hCt (C.1, C.2.1, C.2.2.1, C.2.2.2.1, C.2.2.2.2.1, T.2.2.2.2.2.1, T.2.2.2.2.2.2.1, T.2.2.2.2.2.2.2.1, T.2.2.2.2.2.2.2.2.1, T.2.2.2.2.2.2.2.2.2.1, T.2.2.2.2.2.2.2.2.2.2.1, T.2.2.2.2.2.2.2.2.2.2.2.1, T.2.2.2.2.2.2.2.2.2.2.2.2.1, T.2.2.2.2.2.2.2.2.2.2.2.2.2) ++ hCb 13 C) (pc' := 92) (lv' := [(0, .ref 0), (1, .ref 13)]) (st' := [.int 8, .int 0, .ref 6, .int 0, .ref 19]) (L := []) rfl trivial ?_
  refine AW.acopy (amX0_copyFrom _) 50 8 (f := C.2.2.2.2.2.1) (g := T.2.2.2.2.2.1) rfl kcpX0_48 rfl hR ⟨(Nat.le_of_ble_eq_true rfl), (Nat.le_of_ble_eq_true rfl)⟩ (by decide) (by decide) rfl rfl (h1 := hCt (C.1, C.2.1, C.2.2.1, C.2.2.2.1, C.2.2.2.2.1, C.2.2.2.2.2.1, T.2.2.2.2.2.2.1, T.2.2.2.2.2.2.2.1, T.2.2.2.2.2.2.2.2.1, T.2.2.2.2.2.2.2.2.2.1, T.2.2.2.2.2.2.2.2.2.2.1, T.2.2.2.2.2.2.2.2.2.2.2.1, T.2.2.2.2.2.2.2.2.2.2.2.2.1, T.2.2.2.2.2.2.2.2.2.2.2.2.2) ++ hCb 13 C) rfl ?_
  refine AW.blk (amX0_copyFrom _) 51 7 (h' := hCt (C.1, C.2.1, C.2.2.1, C.2.2.2.1, C.2.2.2.2.1, C.2.2.2.2.2.1, T.2.2.2.2.2.2.1, T.2.2.2.2.2.2.2.1, T.2.2.2.2.2.2.2.2.1, T.2.2.2.2.2.2.2.2.2.1, T.2.2.2.2.2.2.2.2.2.2.1, T.2.2.2.2.2.2.2.2.2.2.2.1, T.2.2.2.2.2.2.2.2.2.2.2.2.1, T.2.2.2.2.2.2.2.2.2.2.2.2.2) ++ hCb 13 C) (pc' := 107) (lv' := [(0, .ref 0), (1, .ref 13)]) (st' := [.int 8, .int 0, .ref 7, .int 0, .ref 20]) (L := []) rfl trivial ?_
  refine AW.acopy (amX0_copyFrom _) 58 8 (f := C.2.2.2.2.2.2.1) (g := T.2.2.2.2.2.2.1) rfl kcpX0_48 rfl hR ⟨(Nat.le_of_ble_eq_true rfl), (Nat.le_of_ble_eq_true rfl)⟩ (by decide) (by decide) rfl rfl (h1 := hCt (C.1, C.2.1, C.2.2.1, C.2.2.2.1, C.2.2.2.2.1, C.2.2.2.2.2.1, C.2.2.2.2.2.2.1, T.2.2.2.2.2.2.2.1, T.2.2.2.2.2.2.2.2.1, T.2.2.2.2.2.2.2.2.2.1, T.2.2.2.2.2.2.2.2.2.2.1, T.2.2.2.2.2.2.2.2.2.2.2.1, T.2.2.2.2.2.2.2.2.2.2.2.2.1, T.2.2.2.2.2.2.2.2.2.2.2.2.2) ++ hCb 13 C) rfl ?_
  refine AW.blk (amX0_copyFrom _) 59 7 (h' := hCt (C.1, C.2.1, C.2.2.1, C.2.2.2.1, C.2.2.2.2.1, C.2.2.2.2.2.1, C.2.2.2.2.2.2.1, T.2.2.2.2.2.2.2.1, T.2.2.2.2.2.2.2.2.1, T.2.2.2.2.2.2.2.2.2.1, T.2.2.2.2.2.2.2.2.2.2.1, T.2.2.2.2.2.2.2.2.2.2.2.1, T.2.2.2.2.2.2.2.2.2.2.2.2.1, T.2.2.2.2.2.2.2.2.2.2.2.2.2) ++ hCb 13 C) (pc' := 122) (lv' := [(0, .ref 0), (1, .ref 13)]) (st' := [.int 8, .int 0, .ref 8, .int 0, .ref 21]) (L := []) rfl trivial ?_
  refine AW.acopy (amX0_copyFrom _) 66 8 (f := C.2.2.2.2.2.2.2.1) (g := T.2.2.2.2.2.2.2.1) rfl kcpX0_48 rfl hR ⟨(Nat.le_of_ble_eq_true rfl), (Nat.le_of_ble_eq_true rfl)⟩ (by decide) (by decide) rfl rfl (h1 := hCt (C.1, C.2.1, C.2.2.1, C.2.2.2.1, C.2.2.2.2.1, C.2.2.2.2.2.1, C.2.2.2.2.2.2.1, C.2.2.2.2.2.2.2.1, T.2.2.2.2.2.2.2.2.1, T.2.2.2.2.2.2.2.2.2.1, T.2.2.2.2.2.2.2.2.2.2.1, T.2.2.2.2.2.2.2.2.2.2.2.1, T.2.2.2.2.2.2.2.2.2.2.2.2.1, T.2.2.2.2.2.2.2.2.2.2.2.2.2) ++ hCb 13 C) rfl ?_
  refine AW.blk (amX0_copyFrom _) 67 7 (h' := hCt (C.1, C.2.1, C.2.2.1, C.2.2.2.1, C.2.2.2.2.1, C.2.2.2.2.2.1, C.2.2.2.2.2.2.1, C.2.2.2.2.2.2.2.1, T.2.2.2.2.2.2.2.2.1, T.2.2.2.2.2.2.2.2.2.1, T.2.2.2.2.2.2.2.2.2.2.1, T.2.2.2.2.2.2.2.2.2.2.2.1, T.2.2.2.2.2.2.2.2.2.2.2.2.1, T.2.2.2.2.2.2.2.2.2.2.2.2.2) ++ hCb 13 C) (pc' := 137) (lv' := [(0, .ref 0), (1, .ref 13)]) (st' := [.int 8, .int 0, .ref 9, .int 0, .ref 22]) (L := []) rfl trivial ?_
  refine AW.acopy (amX0_copyFrom _) 74 8 (f := C.2.2.2.2.2.2.2.2.1) (g := T.2.2.2.2.2.2.2.2.1) rfl kcpX0_48 rfl hR ⟨(Nat.le_of_ble_eq_true rfl), (Nat.le_of_ble_eq_true rfl)⟩ (by decide) (by decide) rfl rfl (h1 := hCt (C.1, C.2.1, C.2.2.1, C.2.2.2.1, C.2.2.2.2.1, C.2.2.2.2.2.1, C.2.2.2.2.2.2.1, C.2.2.2.2.2.2.2.1, C.2.2.2.2.2.2.2.2.1, T.2.2.2.2.2.2.2.2.2.1, T.2.2.2.2.2.2.2.2.2.2.1, T.2.2.2.2.2.2.2.2.2.2.2.1, T.2.2.2.2.2.2.2.2.2.2.2.2.1, T.2.2.2.2.2.2.2.2.2.2.2.2.2) ++ hCb 13 C) rfl ?_
  refine AW.blk (amX0_copyFrom _) 75 7 (h' := hCt (C.1, C.2.1, C.2.2.1, C.2.2.2.1, C.2.2.2.2.1, C.2.2.2.2.2.1, C.2.2.2.2.2.2.1, C.2.2.2.2.2.2.2.1, C.2.2.2.2.2.2.2.2.1, T.2.2.2.2.2.2.2.2.2.1, T.2.2.2.2.2.2.2.2.2.2.1, T.2.2.2.2.2.2.2.2.2.2.2.1, T.2.2.2.2.2.2.2.2.2.2.2.2.1, T.2.2.2.2.2.2.2.2.2.2.2.2.2) ++ hCb 13 C) (pc' := 152) (lv' := [(0, .ref 0), (1, .ref 13)]) (st' := [.int 8, .int 0, .ref 10, .int 0, .ref 23]) (L := []) rfl trivial ?_
  refine AW.acopy (amX0_copyFrom _) 82 8 (f := C.2.2.2.2.2.2.2.2.2.1) (g := T.2.2.2.2.2.2.2.2.2.1) rfl kcpX0_48 rfl hR ⟨(Nat.le_of_ble_eq_true rfl), (Nat.le_of_ble_eq_true rfl)⟩ (by decide) (by decide) rfl rfl (h1 := hCt (C.1, C.2.1, C.2.2.1, C.2.2.2.1, C.2.2.2.2.1, C.2.2.2.2.2.1, C.2.2.2.2.2.2.1, C.2.2.2.2.2.2.2.1, C.2.2.2.2.2.2.2.2.1, C.2.2.2.2.2.2.2.2.2.1, T.2.2.2.2.2.2.2.2.2.2.1, T.2.2.2.2.2.2.2.2.2.2.2.1, T.2.2.2.2.2.2.2.2.2.2.2.2.1, T.2.2.2.2.2.2.2.2.2.2.2.2.2) ++ hCb 13 C) rfl ?_
  refine AW.blk (amX0_copyFrom _) 83 7 (h' := hCt (C.1, C.2.1, C.2.2.1, C.2.2.2.1, C.2.2.2.2.1, C.2.2.2.2.2.1, C.2.2.2.2.2.2.1, C.2.2.2.2.2.2.2.1, C.2.2.2.2.2.2.2.2.1, C.2.2.2.2.2.2.2.2.2.1, T.2.2.2.2.2.2.2.2.2.2.1, T.2.2.2.2.2.2.2.2.2.2.2.1, T.2.2.2.2.2.2.2.2.2.2.2.2.1, T.2.2.2.2.2.2.2.2.2.2.2.2.2) ++ hCb 13 C) (pc' := 167) (lv' := [(0, .ref 0), (1, .ref 13)]) (st' := [.int 8, .int 0, .ref 11, .int 0, .ref 24]) (L := []) rfl trivial ?_
  refine AW.acopy (amX0_copyFrom _) 90 8 (f := C.2.2.2.2.2.2.2.2.2.2.1) (g := T.2.2.2.2.2.2.2.2.2.2.1) rfl kcpX0_48 rfl hR ⟨(Nat.le_of_ble_eq_true rfl), (Nat.le_of_ble_eq_true rfl)⟩ (by decide) (by decide) rfl rfl (h1 := hCt (C.1, C.2.1, C.2.2.1, C.2.2.2.1, C.2.2.2.2.1, C.2.2.2.2.2.1, C.2.2.2.2.2.2.1, C.2.2.2.2.2.2.2.1, C.2.2.2.2.2.2.2.2.1, C.2.2.2.2.2.2.2.2.2.1, C.2.2.2.2.2.2.2.2.2.2.1, T.2.2.2.2.2.2.2.2.2.2.2.1, T.2.2.2.2.2.2.2.2.2.2.2.2.1, T.2.2.2.2.2.2.2.2.2.2.2.2.2) ++ hCb 13 C) rfl ?_
  refine AW.blk (amX0_copyFrom _) 91 7 (h' := hCt (C.1, C.2.1, C.2.2.1, C.2.2.2.1, C.2.2.2.2.1, C.2.2.2.2.2.1, C.2.2.2.2.2.2.1, C.2.2.2.2.2.2.2.1, C.2.2.2.2.2.2.2.2.1, C.2.2.2.2.2.2.2.2.2.1, C.2.2.2.2.2.2.2.2.2.2.1, T.2.2.2.2.2.2.2.2.2.2.2.1, T.2.2.2.2.2.2.2.2.2.2.2.2.1, T.2.2.2.2.2.2.2.2.2.2.2.2.2) ++ hCb 13 C) (pc' := 182) (lv' := [(0, .ref 0), (1, .ref 13)]) (st' := [.int 8, .int 0, .ref 12, .int 0, .ref 25]) (L := []) rfl trivial ?_
  refine AW.acopy (amX0_copyFrom _) 98 8 (f := C.2.2.2.2.2.2.2.2.2.2.2.1) (g := T.2.2.2.2.2.2.2.2.2.2.2.1) rfl kcpX0_48 rfl hR ⟨(Nat.le_of_ble_eq_true rfl), (Nat.le_of_ble_eq_true rfl)⟩ (by decide) (by decide) rfl rfl (h1 := hCt (C.1, C.2.1, C.2.2.1, C.2.2.2.1, C.2.2.2.2.1, C.2.2.2.2.2.1, C.2.2.2.2.2.2.1, C.2.2.2.2.2.2.2.1, C.2.2.2.2.2.2.2.2.1, C.2.2.2.2.2.2.2.2.2.1, C.2.2.2.2.2.2.2.2.2.2.1, C.2.2.2.2.2.2.2.2.2.2.2.1, T.2.2.2.2.2.2.2.2.2.2.2.2.1, T.2.2.2.2.2.2.2.2.2.2.2.2.2) ++ hCb 13 C) rfl ?_
  refine AW.blk (amX0_copyFrom _) 99 8 (h' := hCt C ++ hCb 13 C) (pc' := 201) (lv' := [(0, .ref 0), (1, .ref 13)]) (st' := []) (L := []) rfl trivial ?_
  exact AW.vretE (amX0_copyFrom _) 107 hE rfl rfl rfl rfl (rfl)
def sIn1 (i : Nat) (a : (Nat → Int32) × (Nat → Int32) × (Nat → Int32)) : (Nat → Int32) × (Nat → Int32) × (Nat → Int32) := (upd a.1 (nI i).toNatClampNeg 2, upd a.2.1 (nI i).toNatClampNeg 10, upd a.2.2 (nI i).toNatClampNeg (-1))
def sIn : (Nat → Int32) × (Nat → Int32) × (Nat → Int32) := lpN sIn1 9 0 (fun _ => 0, fun _ => 0, fun _ => 0)
def sC0 : CS := (fun _ => 0, sIn.1, sIn.2.1, sIn.2.2, fun _ => 0, fun _ => 0, fun _ => 0, fun _ => 0, fun _ => 0, fun _ => 0, fun _ => 0, fun _ => 0, 0, 0)
set_option maxHeartbeats 2000000 in
theorem kX0_init  : AMet yX0_init cX0_init 2 none { frames := 1, cells := 12, slots := 101, locals := 40 } [.ref 0] ([aO 0 [.null, .null, .null, .null, .null, .null, .null, .null, .null, .null, .null, .null, .int 0, .int 0]]) none (hCt sC0) := by
  refine AMet.of (by decide) rfl ?_
  intro G hR hE hI
  have E : ∀ (a b c : Nat → Int32), (a, b, c) = sIn → AW G (yX0_init.cls, cX0_init, 2, 1) (hCt (fun _ => 0, a, b, c, fun _ => 0, fun _ => 0, fun _ => 0, fun _ => 0, fun _ => 0, fun _ => 0, fun _ => 0, fun _ => 0, 0, 0)) 12 101 136 [(0, .ref 0)] [] := by
    intro a b c hf
    exact AW.vretE (amX0_init _) 72 hE rfl rfl rfl rfl (by rw [sC0, ← hf])
  have K : ∀ (k i : Nat) (a : Nat → Int32) (b : Nat → Int32) (c : Nat → Int32), i + k = 9 → lpN sIn1 k i (a, b, c) = sIn → AW G (yX0_init.cls, cX0_init, 2, 1) (hCt (fun _ => 0, a, b, c, fun _ => 0, fun _ => 0, fun _ => 0, fun _ => 0, fun _ => 0, fun _ => 0, fun _ => 0, fun _ => 0, 0, 0)) 12 101 102 [(1, .int (nI i)), (0, .ref 0)] [] := by
    intro k
    induction k with
    | zero =>
      intro i a b c hi hf
      refine AW.blk (amX0_init _) 52 2 (h' := hCt (fun _ => 0, a, b, c, fun _ => 0, fun _ => 0, fun _ => 0, fun _ => 0, fun _ => 0, fun _ => 0, fun _ => 0, fun _ => 0, 0, 0)) (pc' := 105) (lv' := [(1, .int (nI i)), (0, .ref 0)]) (st' := [.int 9, .int (nI i)]) (L := []) rfl trivial ?_
      refine AW.br (amX0_init _) 54 (tgt := 136) (C := 9 ≤ (nI i)) (C' := ¬ 9 ≤ (nI i)) (st' := []) rfl rfl rfl (fun c1 => ?_) (fun c1 => absurd (nI_le (a := 9) (b := i) (by omega) (by omega)) c1)
      refine AW.pick [1] (lv' := [(0, .ref 0)]) rfl ?_
      exact E _ _ _ hf
    | succ k ih =>
      intro i a b c hi hf
      refine AW.blk (amX0_init _) 52 2 (h' := hCt (fun _ => 0, a, b, c, fun _ => 0, fun _ => 0, fun _ => 0, fun _ => 0, fun _ => 0, fun _ => 0, fun _ => 0, fun _ => 0, 0, 0)) (pc' := 105) (lv' := [(1, .int (nI i)), (0, .ref 0)]) (st' := [.int 9, .int (nI i)]) (L := []) rfl trivial ?_
      refine AW.br (amX0_init _) 54 (tgt := 136) (C := 9 ≤ (nI i)) (C' := ¬ 9 ≤ (nI i)) (st' := []) rfl rfl rfl (fun c1 => absurd c1 (nI_ge (a := i) (b := 9) (by omega) (by decide))) (fun c1 => ?_)
      refine AW.blk (amX0_init _) 55 17 (h' := hCt (fun _ => 0, upd a (nI i).toNatClampNeg 2, upd b (nI i).toNatClampNeg 10, upd c (nI i).toNatClampNeg (-1), fun _ => 0, fun _ => 0, fun _ => 0, fun _ => 0, fun _ => 0, fun _ => 0, fun _ => 0, fun _ => 0, 0, 0)) (pc' := 102) (lv' := [(1, .int ((nI i) + 1)), (0, .ref 0)]) (st' := []) (L := [vp_in (nI i) 9, vp_in (nI i) 9, vp_in (nI i) 9]) rfl ⟨(vpi (by omega) rfl), (vpi (by omega) rfl), (vpi (by omega) rfl)⟩ ?_
      rw [nI_1 i]
      exact ih (i + 1) _ _ _ (by omega) (by rw [← hf]; simp only [lpN, sIn1, if_neg c1])
  refine AW.blk (amX0_init _) 0 1 (h' := [aO 0 [.null, .null, .null, .null, .null, .null, .null, .null, .null, .null, .null, .null, .int 0, .int 0]]) (pc' := 1) (lv' := [(0, .ref 0)]) (st' := [.ref 0]) (L := []) rfl trivial ?_
  refine AW.objInit (amX0_init _) 1 rfl kobX0_3 rfl hR ⟨(Nat.le_of_ble_eq_true rfl), (Nat.le_of_ble_eq_true rfl)⟩ ?_
  refine AW.blk (amX0_init _) 2 2 (h' := [aO 0 [.null, .null, .null, .null, .null, .null, .null, .null, .null, .null, .null, .null, .int 0, .int 0]]) (pc' := 7) (lv' := [(0, .ref 0)]) (st' := [.int 9, .ref 0]) (L := []) rfl trivial ?_
  refine AW.newarr (amX0_init _) 4 9 rfl (by decide) (by decide) rfl hR (Nat.le_of_ble_eq_true rfl) (Nat.le_of_ble_eq_true rfl) rfl rfl rfl (h1 := [aO 0 [.null, .null, .null, .null, .null, .null, .null, .null, .null, .null, .null, .null, .int 0, .int 0], aI 9 (fun _ => 0)]) rfl (st' := [.ref 1, .ref 0]) rfl ?_
  refine AW.putF (amX0_init _) 5 (ci := 0) (N := 14) (j := 0) (C := RX0) (T := TX0) rfl (hI rfl) rfl (by decide) kpfX0_9 rfl rfl kpd0_0 (fun _ => ⟨rfl, rfl⟩) rfl rfl (h1 := [aO 0 [.ref 1, .null, .null, .null, .null, .null, .null, .null, .null, .null, .null, .null, .int 0, .int 0], aI 9 (fun _ => 0)]) rfl ?_
  refine AW.blk (amX0_init _) 6 2 (h' := [aO 0 [.ref 1, .null, .null, .null, .null, .null, .null, .null, .null, .null, .null, .null, .int 0, .int 0], aI 9 (fun _ => 0)]) (pc' := 15) (lv' := [(0, .ref 0)]) (st' := [.int 9, .ref 0]) (L := []) rfl trivial ?_
  refine AW.newarr (amX0_init _) 8 9 rfl (by decide) (by decide) rfl hR (Nat.le_of_ble_eq_true rfl) (Nat.le_of_ble_eq_true rfl) rfl rfl rfl (h1 := [aO 0 [.ref 1, .null, .null, .null, .null, .null, .null, .null, .null, .null, .null, .null, .int 0, .int 0], aI 9 (fun _ => 0), aI 9 (fun _ => 0)]) rfl (st' := [.ref 2, .ref 0]) rfl ?_
  refine AW.putF (amX0_init _) 9 (ci := 0) (N := 14) (j := 1) (C := RX0) (T := TX0) rfl (hI rfl) rfl (by decide) kpfX0_15 rfl rfl kpd0_1 (fun _ => ⟨rfl, rfl⟩) rfl rfl (h1 := [aO 0 [.ref 1, .ref 2, .null, .null, .null, .null, .null, .null, .null, .null, .null, .null, .int 0, .int 0], aI 9 (fun _ => 0), aI 9 (fun _ => 0)]) rfl ?_
  refine AW.blk (amX0_init _) 10 2 (h' := [aO 0 [.ref 1, .ref 2, .null, .null, .null, .null, .null, .null, .null, .null, .null, .null, .int 0, .int 0], aI 9 (fun _ => 0), aI 9 (fun _ => 0)]) (pc' := 23) (lv' := [(0, .ref 0)]) (st' := [.int 9, .ref 0]) (L := []) rfl trivial ?_
  refine AW.newarr (amX0_init _) 12 9 rfl (by decide) (by decide) rfl hR (Nat.le_of_ble_eq_true rfl) (Nat.le_of_ble_eq_true rfl) rfl rfl rfl (h1 := [aO 0 [.ref 1, .ref 2, .null, .null, .null, .null, .null, .null, .null, .null, .null, .null, .int 0, .int 0], aI 9 (fun _ => 0), aI 9 (fun _ => 0), aI 9 (fun _ => 0)]) rfl (st' := [.ref 3, .ref 0]) rfl ?_
  refine AW.putF (amX0_init _) 13 (ci := 0) (N := 14) (j := 2) (C := RX0) (T := TX0) rfl (hI rfl) rfl (by decide) kpfX0_18 rfl rfl kpd0_2 (fun _ => ⟨rfl, rfl⟩) rfl rfl (h1 := [aO 0 [.ref 1, .ref 2, .ref 3, .null, .null, .null, .null, .null, .null, .null, .null, .null, .int 0, .int 0], aI 9 (fun _ => 0), aI 9 (fun _ => 0), aI 9 (fun _ => 0)]) rfl ?_
  refine AW.blk (amX0_init _) 14 2 (h' := [aO 0 [.ref 1, .ref 2, .ref 3, .null, .null, .null, .null, .null, .null, .null, .null, .null, .int 0, .int 0], aI 9 (fun _ => 0), aI 9 (fun _ => 0), aI 9 (fun _ => 0)]) (pc' := 31) (lv' := [(0, .ref 0)]) (st' := [.int 9, .ref 0]) (L := []) rfl trivial ?_
  refine AW.newarr (amX0_init _) 16 9 rfl (by decide) (by decide) rfl hR (Nat.le_of_ble_eq_true rfl) (Nat.le_of_ble_eq_true rfl) rfl rfl rfl (h1 := [aO 0 [.ref 1, .ref 2, .ref 3, .null, .null, .null, .null, .null, .null, .null, .null, .null, .int 0, .int 0], aI 9 (fun _ => 0), aI 9 (fun _ => 0), aI 9 (fun _ => 0), aI 9 (fun _ => 0)]) rfl (st' := [.ref 4, .ref 0]) rfl ?_
  refine AW.putF (amX0_init _) 17 (ci := 0) (N := 14) (j := 3) (C := RX0) (T := TX0) rfl (hI rfl) rfl (by decide) kpfX0_21 rfl rfl kpd0_3 (fun _ => ⟨rfl, rfl⟩) rfl rfl (h1 := [aO 0 [.ref 1, .ref 2, .ref 3, .ref 4, .null, .null, .null, .null, .null, .null, .null, .null, .int 0, .int 0], aI 9 (fun _ => 0), aI 9 (fun _ => 0), aI 9 (fun _ => 0), aI 9 (fun _ => 0)]) rfl ?_
  refine AW.blk (amX0_init _) 18 2 (h' := [aO 0 [.ref 1, .ref 2, .ref 3, .ref 4, .null, .null, .null, .null, .null, .null, .null, .null, .int 0, .int 0], aI 9 (fun _ => 0), aI 9 (fun _ => 0), aI 9 (fun _ => 0), aI 9 (fun _ => 0)]) (pc' := 39) (lv' := [(0, .ref 0)]) (st' := [.int 9, .ref 0]) (L := []) rfl trivial ?_
  refine AW.newarr (amX0_init _) 20 9 rfl (by decide) (by decide) rfl hR (Nat.le_of_ble_eq_true rfl) (Nat.le_of_ble_eq_true rfl) rfl rfl rfl (h1 := [aO 0 [.ref 1, .ref 2, .ref 3, .ref 4, .null, .null, .null, .null, .null, .null, .null, .null, .int 0, .int 0], aI 9 (fun _ => 0), aI 9 (fun _ => 0), aI 9 (fun _ => 0), aI 9 (fun _ => 0), aI 9 (fun _ => 0)]) rfl (st' := [.ref 5, .ref 0]) rfl ?_
  refine AW.putF (amX0_init _) 21 (ci := 0) (N := 14) (j := 4) (C := RX0) (T := TX0) rfl (hI rfl) rfl (by decide) kpfX0_24 rfl rfl kpd0_4 (fun _ => ⟨rfl, rfl⟩) rfl rfl (h1 := [aO 0 [.ref 1, .ref 2, .ref 3, .ref 4, .ref 5, .null, .null, .null, .null, .null, .null, .null, .int 0, .int 0], aI 9 (fun _ => 0), aI 9 (fun _ => 0), aI 9 (fun _ => 0), aI 9 (fun _ => 0), aI 9 (fun _ => 0)]) rfl ?_
  refine AW.blk (amX0_init _) 22 2 (h' := [aO 0 [.ref 1, .ref 2, .ref 3, .ref 4, .ref 5, .null, .null, .null, .null, .null, .null, .null, .int 0, .int 0], aI 9 (fun _ => 0), aI 9 (fun _ => 0), aI 9 (fun _ => 0), aI 9 (fun _ => 0), aI 9 (fun _ => 0)]) (pc' := 47) (lv' := [(0, .ref 0)]) (st' := [.int 8, .ref 0]) (L := []) rfl trivial ?_
  refine AW.newarr (amX0_init _) 24 8 rfl (by decide) (by decide) rfl hR (Nat.le_of_ble_eq_true rfl) (Nat.le_of_ble_eq_true rfl) rfl rfl rfl (h1 := [aO 0 [.ref 1, .ref 2, .ref 3, .ref 4, .ref 5, .null, .null, .null, .null, .null, .null, .null, .int 0, .int 0], aI 9 (fun _ => 0), aI 9 (fun _ => 0), aI 9 (fun _ => 0), aI 9 (fun _ => 0), aI 9 (fun _ => 0), aI 8 (fun _ => 0)]) rfl (st' := [.ref 6, .ref 0]) rfl ?_
  refine AW.putF (amX0_init _) 25 (ci := 0) (N := 14) (j := 5) (C := RX0) (T := TX0) rfl (hI rfl) rfl (by decide) kpfX0_27 rfl rfl kpd0_5 (fun _ => ⟨rfl, rfl⟩) rfl rfl (h1 := [aO 0 [.ref 1, .ref 2, .ref 3, .ref 4, .ref 5, .ref 6, .null, .null, .null, .null, .null, .null, .int 0, .int 0], aI 9 (fun _ => 0), aI 9 (fun _ => 0), aI 9 (fun _ => 0), aI 9 (fun _ => 0), aI 9 (fun _ => 0), aI 8 (fun _ => 0)]) rfl ?_
  refine AW.blk (amX0_init _) 26 2 (h' := [aO 0 [.ref 1, .ref 2, .ref 3, .ref 4, .ref 5, .ref 6, .null, .null, .null, .null, .null, .null, .int 0, .int 0], aI 9 (fun _ => 0), aI 9 (fun _ => 0), aI 9 (fun _ => 0), aI 9 (fun _ => 0), aI 9 (fun _ => 0), aI 8 (fun _ => 0)]) (pc' := 55) (lv' := [(0, .ref 0)]) (st' := [.int 8, .ref 0]) (L := []) rfl trivial ?_
  refine AW.newarr (amX0_init _) 28 8 rfl (by decide) (by decide) rfl hR (Nat.le_of_ble_eq_true rfl) (Nat.le_of_ble_eq_true rfl) rfl rfl rfl (h1 := [aO 0 [.ref 1, .ref 2, .ref 3, .ref 4, .ref 5, .ref 6, .null, .null, .null, .null, .null, .null, .int 0, .int 0], aI 9 (fun _ => 0), aI 9 (fun _ => 0), aI 9 (fun _ => 0), aI 9 (fun _ => 0), aI 9 (fun _ => 0), aI 8 (fun _ => 0), aI 8 (fun _ => 0)]) rfl (st' := [.ref 7, .ref 0]) rfl ?_
  refine AW.putF (amX0_init _) 29 (ci := 0) (N := 14) (j := 6) (C := RX0) (T := TX0) rfl (hI rfl) rfl (by decide) kpfX0_30 rfl rfl kpd0_6 (fun _ => ⟨rfl, rfl⟩) rfl rfl (h1 := [aO 0 [.ref 1, .ref 2, .ref 3, .ref 4, .ref 5, .ref 6, .ref 7, .null, .null, .null, .null, .null, .int 0, .int 0], aI 9 (fun _ => 0), aI 9 (fun _ => 0), aI 9 (fun _ => 0), aI 9 (fun _ => 0), aI 9 (fun _ => 0), aI 8 (fun _ => 0), aI 8 (fun _ => 0)]) rfl ?_
  refine AW.blk (amX0_init _) 30 2 (h' := [aO 0 [.ref 1, .ref 2, .ref 3, .ref 4, .ref 5, .ref 6, .ref 7, .null, .null, .null, .null, .null, .int 0, .int 0], aI 9 (fun _ => 0), aI 9 (fun _ => 0), aI 9 (fun _ => 0), aI 9 (fun _ => 0), aI 9 (fun _ => 0), aI 8 (fun _ => 0), aI 8 (fun _ => 0)]) (pc' := 63) (lv' := [(0, .ref 0)]) (st' := [.int 8, .ref 0]) (L := []) rfl trivial ?_
  refine AW.newarr (amX0_init _) 32 8 rfl (by decide) (by decide) rfl hR (Nat.le_of_ble_eq_true rfl) (Nat.le_of_ble_eq_true rfl) rfl rfl rfl (h1 := [aO 0 [.ref 1, .ref 2, .ref 3, .ref 4, .ref 5, .ref 6, .ref 7, .null, .null, .null, .null, .null, .int 0, .int 0], aI 9 (fun _ => 0), aI 9 (fun _ => 0), aI 9 (fun _ => 0), aI 9 (fun _ => 0), aI 9 (fun _ => 0), aI 8 (fun _ => 0), aI 8 (fun _ => 0), aI 8 (fun _ => 0)]) rfl (st' := [.ref 8, .ref 0]) rfl ?_
  refine AW.putF (amX0_init _) 33 (ci := 0) (N := 14) (j := 7) (C := RX0) (T := TX0) rfl (hI rfl) rfl (by decide) kpfX0_33 rfl rfl kpd0_7 (fun _ => ⟨rfl, rfl⟩) rfl rfl (h1 := [aO 0 [.ref 1, .ref 2, .ref 3, .ref 4, .ref 5, .ref 6, .ref 7, .ref 8, .null, .null, .null, .null, .int 0, .int 0], aI 9 (fun _ => 0), aI 9 (fun _ => 0), aI 9 (fun _ => 0), aI 9 (fun _ => 0), aI 9 (fun _ => 0), aI 8 (fun _ => 0), aI 8 (fun _ => 0), aI 8 (fun _ => 0)]) rfl ?_
  refine AW.blk (amX0_init _) 34 2 (h' := [aO 0 [.ref 1, .ref 2, .ref 3, .ref 4, .ref 5, .ref 6, .ref 7, .ref 8, .null, .null, .null, .null, .int 0, .int 0], aI 9 (fun _ => 0), aI 9 (fun _ => 0), aI 9 (fun _ => 0), aI 9 (fun _ => 0), aI 9 (fun _ => 0), aI 8 (fun _ => 0), aI 8 (fun _ => 0), aI 8 (fun _ => 0)]) (pc' := 71) (lv' := [(0, .ref 0)]) (st' := [.int 8, .ref 0]) (L := []) rfl trivial ?_
  refine AW.newarr (amX0_init _) 36 8 rfl (by decide) (by decide) rfl hR (Nat.le_of_ble_eq_true rfl) (Nat.le_of_ble_eq_true rfl) rfl rfl rfl (h1 := [aO 0 [.ref 1, .ref 2, .ref 3, .ref 4, .ref 5, .ref 6, .ref 7, .ref 8, .null, .null, .null, .null, .int 0, .int 0], aI 9 (fun _ => 0), aI 9 (fun _ => 0), aI 9 (fun _ => 0), aI 9 (fun _ => 0), aI 9 (fun _ => 0), aI 8 (fun _ => 0), aI 8 (fun _ => 0), aI 8 (fun _ => 0), aI 8 (fun _ => 0)]) rfl (st' := [.ref 9, .ref 0]) rfl ?_
  refine AW.putF (amX0_init _) 37 (ci := 0) (N := 14) (j := 8) (C := RX0) (T := TX0) rfl (hI rfl) rfl (by decide) kpfX0_36 rfl rfl kpd0_8 (fun _ => ⟨rfl, rfl⟩) rfl rfl (h1 := [aO 0 [.ref 1, .ref 2, .ref 3, .ref 4, .ref 5, .ref 6, .ref 7, .ref 8, .ref 9, .null, .null, .null, .int 0, .int 0], aI 9 (fun _ => 0), aI 9 (fun _ => 0), aI 9 (fun _ => 0), aI 9 (fun _ => 0), aI 9 (fun _ => 0), aI 8 (fun _ => 0), aI 8 (fun _ => 0), aI 8 (fun _ => 0), aI 8 (fun _ => 0)]) rfl ?_
  refine AW.blk (amX0_init _) 38 2 (h' := [aO 0 [.ref 1, .ref 2, .ref 3, .ref 4, .ref 5, .ref 6, .ref 7, .ref 8, .ref 9, .null, .null, .null, .int 0, .int 0], aI 9 (fun _ => 0), aI 9 (fun _ => 0), aI 9 (fun _ => 0), aI 9 (fun _ => 0), aI 9 (fun _ => 0), aI 8 (fun _ => 0), aI 8 (fun _ => 0), aI 8 (fun _ => 0), aI 8 (fun _ => 0)]) (pc' := 79) (lv' := [(0, .ref 0)]) (st' := [.int 8, .ref 0]) (L := []) rfl trivial ?_
  refine AW.newarr (amX0_init _) 40 8 rfl (by decide) (by decide) rfl hR (Nat.le_of_ble_eq_true rfl) (Nat.le_of_ble_eq_true rfl) rfl rfl rfl (h1 := [aO 0 [.ref 1, .ref 2, .ref 3, .ref 4, .ref 5, .ref 6, .ref 7, .ref 8, .ref 9, .null, .null, .null, .int 0, .int 0], aI 9 (fun _ => 0), aI 9 (fun _ => 0), aI 9 (fun _ => 0), aI 9 (fun _ => 0), aI 9 (fun _ => 0), aI 8 (fun _ => 0), aI 8 (fun _ => 0), aI 8 (fun _ => 0), aI 8 (fun _ => 0), aI 8 (fun _ => 0)]) rfl (st' := [.ref 10, .ref 0]) rfl ?_
  refine AW.putF (amX0_init _) 41 (ci := 0) (N := 14) (j := 9) (C := RX0) (T := TX0) rfl (hI rfl) rfl (by decide) kpfX0_39 rfl rfl kpd0_9 (fun _ => ⟨rfl, rfl⟩) rfl rfl (h1 := [aO 0 [.ref 1, .ref 2, .ref 3, .ref 4, .ref 5, .ref 6, .ref 7, .ref 8, .ref 9, .ref 10, .null, .null, .int 0, .int 0], aI 9 (fun _ => 0), aI 9 (fun _ => 0), aI 9 (fun _ => 0), aI 9 (fun _ => 0), aI 9 (fun _ => 0), aI 8 (fun _ => 0), aI 8 (fun _ => 0), aI 8 (fun _ => 0), aI 8 (fun _ => 0), aI 8 (fun _ => 0)]) rfl ?_
  refine AW.blk (amX0_init _) 42 2 (h' := [aO 0 [.ref 1, .ref 2, .ref 3, .ref 4, .ref 5, .ref 6, .ref 7, .ref 8, .ref 9, .ref 10, .null, .null, .int 0, .int 0], aI 9 (fun _ => 0), aI 9 (fun _ => 0), aI 9 (fun _ => 0), aI 9 (fun _ => 0), aI 9 (fun _ => 0), aI 8 (fun _ => 0), aI 8 (fun _ => 0), aI 8 (fun _ => 0), aI 8 (fun _ => 0), aI 8 (fun _ => 0)]) (pc' := 87) (lv' := [(0, .ref 0)]) (st' := [.int 8, .ref 0]) (L := []) rfl trivial ?_
  refine AW.newarr (amX0_init _) 44 8 rfl (by decide) (by decide) rfl hR (Nat.le_of_ble_eq_true rfl) (Nat.le_of_ble_eq_true rfl) rfl rfl rfl (h1 := [aO 0 [.ref 1, .ref 2, .ref 3, .ref 4, .ref 5, .ref 6, .ref 7, .ref 8, .ref 9, .ref 10, .null, .null, .int 0, .int 0], aI 9 (fun _ => 0), aI 9 (fun _ => 0), aI 9 (fun _ => 0), aI 9 (fun _ => 0), aI 9 (fun _ => 0), aI 8 (fun _ => 0), aI 8 (fun _ => 0), aI 8 (fun _ => 0), aI 8 (fun _ => 0), aI 8 (fun _ => 0), aI 8 (fun _ => 0)]) rfl (st' := [.ref 11, .ref 0]) rfl ?_
  refine AW.putF (amX0_init _) 45 (ci := 0) (N := 14) (j := 10) (C := RX0) (T := TX0) rfl (hI rfl) rfl (by decide) kpfX0_42 rfl rfl kpd0_10 (fun _ => ⟨rfl, rfl⟩) rfl rfl (h1 := [aO 0 [.ref 1, .ref 2, .ref 3, .ref 4, .ref 5, .ref 6, .ref 7, .ref 8, .ref 9, .ref 10, .ref 11, .null, .int 0, .int 0], aI 9 (fun _ => 0), aI 9 (fun _ => 0), aI 9 (fun _ => 0), aI 9 (fun _ => 0), aI 9 (fun _ => 0), aI 8 (fun _ => 0), aI 8 (fun _ => 0), aI 8 (fun _ => 0), aI 8 (fun _ => 0), aI 8 (fun _ => 0), aI 8 (fun _ => 0)]) rfl ?_
  refine AW.blk (amX0_init _) 46 2 (h' := [aO 0 [.ref 1, .ref 2, .ref 3, .ref 4, .ref 5, .ref 6, .ref 7, .ref 8, .ref 9, .ref 10, .ref 11, .null, .int 0, .int 0], aI 9 (fun _ => 0), aI 9 (fun _ => 0), aI 9 (fun _ => 0), aI 9 (fun _ => 0), aI 9 (fun _ => 0), aI 8 (fun _ => 0), aI 8 (fun _ => 0), aI 8 (fun _ => 0), aI 8 (fun _ => 0), aI 8 (fun _ => 0), aI 8 (fun _ => 0)]) (pc' := 95) (lv' := [(0, .ref 0)]) (st' := [.int 8, .ref 0]) (L := []) rfl trivial ?_
  refine AW.newarr (amX0_init _) 48 8 rfl (by decide) (by decide) rfl hR (Nat.le_of_ble_eq_true rfl) (Nat.le_of_ble_eq_true rfl) rfl rfl rfl (h1 := [aO 0 [.ref 1, .ref 2, .ref 3, .ref 4, .ref 5, .ref 6, .ref 7, .ref 8, .ref 9, .ref 10, .ref 11, .null, .int 0, .int 0], aI 9 (fun _ => 0), aI 9 (fun _ => 0), aI 9 (fun _ => 0), aI 9 (fun _ => 0), aI 9 (fun _ => 0), aI 8 (fun _ => 0), aI 8 (fun _ => 0), aI 8 (fun _ => 0), aI 8 (fun _ => 0), aI 8 (fun _ => 0), aI 8 (fun _ => 0), aI 8 (fun _ => 0)]) rfl (st' := [.ref 12, .ref 0]) rfl ?_
  refine AW.putF (amX0_init _) 49 (ci := 0) (N := 14) (j := 11) (C := RX0) (T := TX0) rfl (hI rfl) rfl (by decide) kpfX0_45 rfl rfl kpd0_11 (fun _ => ⟨rfl, rfl⟩) rfl rfl (h1 := hCt (fun _ => 0, fun _ => 0, fun _ => 0, fun _ => 0, fun _ => 0, fun _ => 0, fun _ => 0, fun _ => 0, fun _ => 0, fun _ => 0, fun _ => 0, fun _ => 0, 0, 0)) rfl ?_
  refine AW.blk (amX0_init _) 50 2 (h' := hCt (fun _ => 0, fun _ => 0, fun _ => 0, fun _ => 0, fun _ => 0, fun _ => 0, fun _ => 0, fun _ => 0, fun _ => 0, fun _ => 0, fun _ => 0, fun _ => 0, 0, 0)) (pc' := 102) (lv' := [(1, .int 0), (0, .ref 0)]) (st' := []) (L := []) rfl trivial ?_
  exact K 9 0 _ _ _ rfl rfl
end
section
/-! ===== constants, comparisons of longs and doubles, a division of doubles ===== -/
theorem AW.ldcI {G : aG} {M : aM} {tb : List (Nat × Instr)} {FT PT : List (Nat × Nat × Nat)} (hm : amok M tb FT PT) (i : Nat) {h : aH} {kc ks pc idx : Nat} {lv : aV} {st : List Value} (v : Int32) (hi : tb[i]? = some (pc, .ldc idx)) (hk : Cond.constant M.1 idx v ∈ kwl) (k : AW G M h kc ks (pc + 2) lv (.int v :: st)) : AW G M h kc ks pc lv st := by
  have hd := tb_at hm.1 i hi
  obtain ⟨p, l, e, R, s, m, args, below, meth, c, Q, D, cI, cL, A, ad0, X⟩ := G
  intro ok ad H locs ls ha hP hD hS hl
  obtain ⟨hx, hb, hml, hown, hkw, -⟩ := id ok
  exact lv_ldc hx hb hown (hkw.use _ hk) hd (k ok ad H locs ls ha hP hD hS hl)
theorem AW.ldcL {G : aG} {M : aM} {tb : List (Nat × Instr)} {FT PT : List (Nat × Nat × Nat)} (hm : amok M tb FT PT) (i : Nat) {h : aH} {kc ks pc idx : Nat} {lv : aV} {st : List Value} (v : Int64) (hi : tb[i]? = some (pc, .ldc2_w idx)) (hk : Cond.constantLong M.1 idx v ∈ kwl) (k : AW G M h kc ks (pc + 3) lv (.long v :: st)) : AW G M h kc ks pc lv st := by
  have hd := tb_at hm.1 i hi
  obtain ⟨p, l, e, R, s, m, args, below, meth, c, Q, D, cI, cL, A, ad0, X⟩ := G
  intro ok ad H locs ls ha hP hD hS hl
  obtain ⟨hx, hb, hml, hown, hkw, -⟩ := id ok
  exact lv_ldc2 hx hb hown (hkw.use _ hk) hd (k ok ad H locs ls ha hP hD hS hl)
theorem AW.ldcD {G : aG} {M : aM} {tb : List (Nat × Instr)} {FT PT : List (Nat × Nat × Nat)} (hm : amok M tb FT PT) (i : Nat) {h : aH} {kc ks pc idx : Nat} {lv : aV} {st : List Value} (v : UInt64) (hi : tb[i]? = some (pc, .ldc2_w idx)) (hk : Cond.constantDouble M.1 idx v ∈ kwl) (k : AW G M h kc ks (pc + 3) lv (.double v :: st)) : AW G M h kc ks pc lv st := by
  have hd := tb_at hm.1 i hi
  obtain ⟨p, l, e, R, s, m, args, below, meth, c, Q, D, cI, cL, A, ad0, X⟩ := G
  intro ok ad H locs ls ha hP hD hS hl
  obtain ⟨hx, hb, hml, hown, hkw, -⟩ := id ok
  exact lv_ldc2d hx hb hown (hkw.use _ hk) hd (k ok ad H locs ls ha hP hD hS hl)
theorem AW.ddiv {G : aG} {M : aM} {tb : List (Nat × Instr)} {FT PT : List (Nat × Nat × Nat)} (hm : amok M tb FT PT) (i : Nat) {h : aH} {kc ks pc : Nat} {lv : aV} {st : List Value} {x y : UInt64} (hi : tb[i]? = some (pc, .ddiv)) (hne : vf_n64 (FP.ddiv x y)) (k : AW G M h kc ks (pc + 1) lv (.double (FP.ddiv x y) :: st)) : AW G M h kc ks pc lv (.double y :: .double x :: st) := by
  have hd := tb_at hm.1 i hi
  obtain ⟨p, l, e, R, s, m, args, below, meth, c, Q, D, cI, cL, A, ad0, X⟩ := G
  intro ok ad H locs ls ha hP hD hS hl
  exact lv_ddiv ok.1 ok.2.1 hd hne (k ok ad H locs ls ha hP hD hS hl)
theorem AW.lcmp {G : aG} {M : aM} {h : aH} {kc ks pc : Nat} {lv : aV} {st : List Value} {x y : Int64} (hd : decode M.2.1 pc = .ok (.lcmp, 1)) (k : AW G M h kc ks (pc + 1) lv (.int (lg_cmp x y) :: st)) : AW G M h kc ks pc lv (.long y :: .long x :: st) := by
  obtain ⟨p, l, e, R, s, m, args, below, meth, c, Q, D, cI, cL, A, ad0, X⟩ := G
  intro ok ad H locs ls ha hP hD hS hl
  exact W.lcmp ok.1 ok.2.1 hd (k ok ad H locs ls ha hP hD hS hl)
theorem AW.dcmp {G : aG} {M : aM} {h : aH} {kc ks pc : Nat} {lv : aV} {st : List Value} {x y : UInt64} {op : CmpOp} (hd : decode M.2.1 pc = .ok (.dcmp op, 1)) (k : AW G M h kc ks (pc + 1) lv (.int (Op.cmpValue (FP.dcmp x y) op) :: st)) : AW G M h kc ks pc lv (.double y :: .double x :: st) := by
  obtain ⟨p, l, e, R, s, m, args, below, meth, c, Q, D, cI, cL, A, ad0, X⟩ := G
  intro ok ad H locs ls ha hP hD hS hl
  exact lv_dcmp ok.1 ok.2.1 hd (k ok ad H locs ls ha hP hD hS hl)
theorem kcX1_131 : Cond.constantDouble RX1 131 4621256167635550208 ∈ kwl := by decide +kernel
theorem kcX1_133 : Cond.constantLong RX1 133 1033 ∈ kwl := by decide +kernel
theorem kcX1_135 : Cond.constantLong RX1 135 31 ∈ kwl := by decide +kernel
theorem kcX1_112 : Cond.constant RX1 112 1000000 ∈ kwl := by decide +kernel
theorem kcX3_132 : Cond.constant RX3 132 2147483647 ∈ kwl := by decide +kernel
theorem kcX3_144 : Cond.constantDouble RX3 144 4621256167635550208 ∈ kwl := by decide +kernel
theorem kcX3_146 : Cond.constantLong RX3 146 1033 ∈ kwl := by decide +kernel
theorem kcX3_148 : Cond.constantLong RX3 148 31 ∈ kwl := by decide +kernel
end
section
/-! ===== calls over large heaps: what comes back, cell by cell ===== -/
def lkp : List Nat → aH → Nat → Option aE
  | i :: σ, e :: es, k => bif Nat.beq i k then some e else lkp σ es k
  | _, _, _ => none
def pb (σ : List Nat) (es : aH) : Nat → aH → aH
  | _, [] => []
  | k, e :: r => (lkp σ es k).getD e :: pb σ es (k + 1) r
theorem pb_get (σ : List Nat) (es : aH) : ∀ (h : aH) (n k : Nat), (pb σ es n h)[k]? = h[k]?.map (fun x => (lkp σ es (n + k)).getD x) := by
  intro h
  induction h with
  | nil => intro n k; simp [pb]
  | cons e r ih =>
    intro n k
    cases k with
    | zero => simp [pb]
    | succ k =>
      have := ih (n + 1) k
      rw [show n + 1 + k = n + (k + 1) by omega] at this
      simpa [pb] using this
theorem lkp_none : ∀ (σ : List Nat) (es : aH) (k : Nat), k ∉ σ → lkp σ es k = none := by
  intro σ
  induction σ with
  | nil => intro es k _; rfl
  | cons i r ih => intro es k hk; cases es with
    | nil => rfl
    | cons e q =>
      have hb : Nat.beq i k = false := by
        cases hx : Nat.beq i k with
        | false => rfl
        | true => exact absurd (List.mem_cons.mpr (Or.inl (Nat.eq_of_beq_eq_true hx).symm)) hk
      show (bif Nat.beq i k then some e else lkp r q k) = none
      rw [hb]
      exact ih q k (fun z => hk (List.mem_cons_of_mem _ z))
theorem pb_eq : ∀ (σ : List Nat) (es h : aH), va_nd σ = true → pb σ es 0 h = putb σ es h := by
  intro σ
  induction σ with
  | nil =>
    intro es h _
    refine List.ext_getElem? fun k => ?_
    rw [pb_get]
    have : putb [] es h = h := by cases es <;> rfl
    rw [this]
    cases h[k]? <;> rfl
  | cons i r ih =>
    intro es h hn
    cases es with
    | nil =>
      refine List.ext_getElem? fun k => ?_
      rw [pb_get]
      show _ = h[k]?
      cases h[k]? <;> rfl
    | cons e q =>
      simp only [va_nd, Bool.and_eq_true, decide_eq_true_eq] at hn
      show pb (i :: r) (e :: q) 0 h = putb r q (h.set i e)
      rw [← ih q (h.set i e) hn.2]
      refine List.ext_getElem? fun k => ?_
      rw [pb_get, pb_get]
      simp only [Nat.zero_add]
      show h[k]?.map (fun x => (bif Nat.beq i k then some e else lkp r q k).getD x) = (h.set i e)[k]?.map (fun x => (lkp r q k).getD x)
      by_cases hk : i = k
      · subst hk
        have hb : Nat.beq i i = true := Nat.beq_refl i
        rw [hb, lkp_none r q i hn.1]
        by_cases hl : i < h.length
        · simp [hl]
        · simp [hl]
      · have hb : Nat.beq i k = false := by
          cases hx : Nat.beq i k with
          | false => rfl
          | true => exact absurd (Nat.eq_of_beq_eq_true hx) hk
        rw [hb, List.getElem?_set_ne hk]
        rfl
theorem AW.callSp {G : aG} {M : aM} {tb : List (Nat × Instr)} {FT PT : List (Nat × Nat × Nat)} (hm : amok M tb FT PT) (i : Nat) {h hc hc' h1 : aH} {kc ks pc idx maxL n : Nat} {lv : aV} {as rest st st' : List Value} {y : MethodName} {b : ByteArray} {ret : Option FieldType} {rm R : Room} {r : Option Value}
    (hc0 : AMet y b maxL ret rm as hc r hc') (σ δ : List Nat) (hy : yok y b maxL ret n) (hstat : Cond.static y ∈ kwl) (hlk : mlnk M.1 idx y) (hn : as.length = n)
    (hi : tb[i]? = some (pc, .invokestatic idx)) (hst : st = (as.map (rv σ δ)).reverse ++ rest) (hcat : Nat.ble (rest.map fun v => v.category).sum 8 = true)
    (hR : aRm G = R) (hRR : rm.frames + 1 ≤ R.frames ∧ 8 + (maxL + 11) + rm.locals ≤ R.locals ∧ kc + rm.cells ≤ R.cells ∧ ks + rm.slots ≤ R.slots)
    (hsub : σ.map (fun i => h[i]?) = (hc.map (rE σ δ)).map some) (hnd : va_nd σ = true) (hlen : hc'.length = hc.length) (h100 : Nat.ble hc.length 100 = true) (hok : hc'.all (okE hc.length) = true) (hr0 : ∀ ad, r.map (ev ad) = r)
    (hh1 : pb σ (hc'.map (rE σ δ)) 0 h = h1) (hst' : r.toList ++ rest = st') (k : AW G M h1 (kc + rm.cells) (ks + rm.slots) (pc + 3) lv st') : AW G M h kc ks pc lv st := AW.callS hm i hc0 σ δ hy hstat hlk hn hi hst hcat hR hRR hsub hnd hlen h100 hok hr0 ((pb_eq _ _ _ hnd).symm.trans hh1) hst' k
theorem AW.callVp {G : aG} {M : aM} {tb : List (Nat × Instr)} {FT PT : List (Nat × Nat × Nat)} (hm : amok M tb FT PT) (i : Nat) {h hc hc' h1 : aH} {kc ks pc idx maxL n : Nat} {lv : aV} {as rest st st' : List Value} {ci : Nat} {fs : List Value} {hcr : aH} {y : MethodName} {b : ByteArray} {ret : Option FieldType} {rm R : Room} {r : Option Value}
    (hc0 : AMet y b maxL ret rm (.ref 0 :: as) hc r hc') (hrec : hc = aO ci fs :: hcr) (hcl : (vwCl[ci]?).map (fun q => q.1) = some y.cls) (σ δ : List Nat) (hy : yok y b maxL ret n) (hinst : Cond.instanceMethod y ∈ kwl) (hsel : Cond.selects y.cls y y ∈ kwl) (hlk : mlnk M.1 idx y) (hn : as.length = n)
    (hi : tb[i]? = some (pc, .invokevirtual idx)) (hst : st = (as.map (rv σ δ)).reverse ++ .ref (sg σ δ 0) :: rest) (hcat : Nat.ble (rest.map fun v => v.category).sum 8 = true)
    (hR : aRm G = R) (hRR : rm.frames + 1 ≤ R.frames ∧ 8 + (maxL + 11) + rm.locals ≤ R.locals ∧ kc + rm.cells ≤ R.cells ∧ ks + rm.slots ≤ R.slots)
    (hsub : σ.map (fun i => h[i]?) = (hc.map (rE σ δ)).map some) (hnd : va_nd σ = true) (hlen : hc'.length = hc.length) (h100 : Nat.ble hc.length 100 = true) (hok : hc'.all (okE hc.length) = true) (hr0 : ∀ ad, r.map (ev ad) = r)
    (hh1 : pb σ (hc'.map (rE σ δ)) 0 h = h1) (hst' : r.toList ++ rest = st') (k : AW G M h1 (kc + rm.cells) (ks + rm.slots) (pc + 3) lv st') : AW G M h kc ks pc lv st := AW.callV hm i hc0 hrec hcl σ δ hy hinst hsel hlk hn hi hst hcat hR hRR hsub hnd hlen h100 hok hr0 ((pb_eq _ _ _ hnd).symm.trans hh1) hst' k
end
section
/-! ===== MudSweepers: what doesn't throw ===== -/
def hM (C T : CS) (L : Nat → Int32) : aH := [aO 1 [.ref 1, .ref 14, .ref 27]] ++ hCb 1 C ++ hCb 14 T ++ [aI 9 L]
set_option maxHeartbeats 2000000 in
theorem kX1_needCrossing (c : Int32) (hc : ¬ sCr c = 0) : AMet yX1_needCrossing cX1_needCrossing 1 none { frames := 1, cells := 0, slots := 0, locals := 40 } [.int c] ([]) none ([]) := by
  refine AMet.of (by decide) rfl ?_
  intro G hR hE hI
  refine AW.blk (amX1_needCrossing _) 0 1 (h' := []) (pc' := 1) (lv' := [(0, .int c)]) (st' := [.int c]) (L := []) rfl trivial ?_
  refine AW.callSp (amX1_needCrossing _) 1 (kX1_isCrossing c) [] [] ykX1_isCrossing ysX1_isCrossing mlX1_137 rfl rfl rfl rfl hR ⟨Nat.le_of_ble_eq_true rfl, Nat.le_of_ble_eq_true rfl, Nat.le_of_ble_eq_true rfl, Nat.le_of_ble_eq_true rfl⟩ rfl rfl rfl rfl rfl (fun _ => rfl) (h1 := []) rfl (st' := [.int (sCr c)]) rfl ?_
  refine AW.br (amX1_needCrossing _) 2 (tgt := 17) (C := ¬ (sCr c) = 0) (C' := (sCr c) = 0) (st' := []) rfl rfl rfl (fun c1 => ?_) (fun c1 => absurd c1 hc)
  exact AW.vretE (amX1_needCrossing _) 8 hE rfl rfl rfl rfl (rfl)
set_option maxHeartbeats 2000000 in
theorem kX1_needSweeper (C T : CS) (L : Nat → Int32) (s : Int32) (hs : ¬ sSw s C.2.2.2.2.2.2.2.2.2.2.2.2.1 = 0) : AMet yX1_needSweeper cX1_needSweeper 2 none { frames := 1, cells := 0, slots := 0, locals := 40 } [.ref 0, .int s] (hM C T L) none (hM C T L) := by
  refine AMet.of (by decide) rfl ?_
  intro G hR hE hI
  refine AW.blk (amX1_needSweeper _) 0 3 (h' := hM C T L) (pc' := 5) (lv' := [(0, .ref 0), (1, .int s)]) (st' := [.int s, .ref 1]) (L := []) rfl trivial ?_
  refine AW.callVp (amX1_needSweeper _) 3 (kX0_isSweeper C.1 C.2.1 C.2.2.1 C.2.2.2.1 C.2.2.2.2.1 C.2.2.2.2.2.1 C.2.2.2.2.2.2.1 C.2.2.2.2.2.2.2.1 C.2.2.2.2.2.2.2.2.1 C.2.2.2.2.2.2.2.2.2.1 C.2.2.2.2.2.2.2.2.2.2.1 C.2.2.2.2.2.2.2.2.2.2.2.1 C.2.2.2.2.2.2.2.2.2.2.2.2.1 C.2.2.2.2.2.2.2.2.2.2.2.2.2 s) rfl rfl [1, 2, 3, 4, 5, 6, 7, 8, 9, 10, 11, 12, 13] [] ykX0_isSweeper yiX0_isSweeper yvX0_isSweeper mlX1_143 rfl rfl rfl rfl hR ⟨Nat.le_of_ble_eq_true rfl, Nat.le_of_ble_eq_true rfl, Nat.le_of_ble_eq_true rfl, Nat.le_of_ble_eq_true rfl⟩ rfl rfl rfl rfl rfl (fun _ => rfl) (h1 := hM C T L) rfl (st' := [.int (sSw s C.2.2.2.2.2.2.2.2.2.2.2.2.1)]) rfl ?_
  refine AW.br (amX1_needSweeper _) 4 (tgt := 21) (C := ¬ (sSw s C.2.2.2.2.2.2.2.2.2.2.2.2.1) = 0) (C' := (sSw s C.2.2.2.2.2.2.2.2.2.2.2.2.1) = 0) (st' := []) rfl rfl rfl (fun c1 => ?_) (fun c1 => absurd c1 hs)
  exact AW.vretE (amX1_needSweeper _) 10 hE rfl rfl rfl rfl (rfl)
set_option maxHeartbeats 2000000 in
theorem kX1_needFact (w k : Int32) (h1 : ¬ w < 0) (h2 : w < k) : AMet yX1_needFact cX1_needFact 2 none { frames := 1, cells := 0, slots := 0, locals := 40 } [.int w, .int k] ([]) none ([]) := by
  refine AMet.of (by decide) rfl ?_
  intro G hR hE hI
  refine AW.blk (amX1_needFact _) 0 1 (h' := []) (pc' := 1) (lv' := [(0, .int w), (1, .int k)]) (st' := [.int w]) (L := []) rfl trivial ?_
  refine AW.br (amX1_needFact _) 1 (tgt := 9) (C := w < 0) (C' := ¬ w < 0) (st' := []) rfl rfl rfl (fun c1 => absurd c1 h1) (fun c1 => ?_)
  refine AW.blk (amX1_needFact _) 2 2 (h' := []) (pc' := 6) (lv' := [(0, .int w), (1, .int k)]) (st' := [.int k, .int w]) (L := []) rfl trivial ?_
  refine AW.br (amX1_needFact _) 4 (tgt := 19) (C := w < k) (C' := ¬ w < k) (st' := []) rfl rfl rfl (fun c2 => ?_) (fun c2 => absurd h2 c2)
  exact AW.vretE (amX1_needFact _) 10 hE rfl rfl rfl rfl (rfl)
set_option maxHeartbeats 2000000 in
theorem kX1_needQuarters (t : Int32) (h1 : ¬ t < 1) (h2 : t ≤ 96) : AMet yX1_needQuarters cX1_needQuarters 1 none { frames := 1, cells := 0, slots := 0, locals := 40 } [.int t] ([]) none ([]) := by
  refine AMet.of (by decide) rfl ?_
  intro G hR hE hI
  refine AW.blk (amX1_needQuarters _) 0 2 (h' := []) (pc' := 2) (lv' := [(0, .int t)]) (st' := [.int 1, .int t]) (L := []) rfl trivial ?_
  refine AW.br (amX1_needQuarters _) 2 (tgt := 11) (C := t < 1) (C' := ¬ t < 1) (st' := []) rfl rfl rfl (fun c1 => absurd c1 h1) (fun c1 => ?_)
  refine AW.blk (amX1_needQuarters _) 3 2 (h' := []) (pc' := 8) (lv' := [(0, .int t)]) (st' := [.int 96, .int t]) (L := []) rfl trivial ?_
  refine AW.br (amX1_needQuarters _) 5 (tgt := 21) (C := t ≤ 96) (C' := ¬ t ≤ 96) (st' := []) rfl rfl rfl (fun c2 => ?_) (fun c2 => absurd h2 c2)
  exact AW.vretE (amX1_needQuarters _) 11 hE rfl rfl rfl rfl (rfl)
set_option maxHeartbeats 2000000 in
theorem kX1_set (C T : CS) (L : Nat → Int32) (c a b : Int32) (hc : ¬ sCr c = 0) (h1 : ¬ a < 0) (h2 : a ≤ 9) (h3 : ¬ b < 0) (h4 : b ≤ 30) : AMet yX1_set cX1_set 5 (some .int) { frames := 2, cells := 0, slots := 0, locals := 60 } [.ref 0, .int c, .int a, .int b] (hM C T L) (some (.int (100 * C.2.1 c.toNatClampNeg + C.2.2.1 c.toNatClampNeg))) (hM (C.1, upd C.2.1 c.toNatClampNeg a, upd C.2.2.1 c.toNatClampNeg b, C.2.2.2.1, C.2.2.2.2.1, C.2.2.2.2.2.1, C.2.2.2.2.2.2.1, C.2.2.2.2.2.2.2.1, C.2.2.2.2.2.2.2.2.1, C.2.2.2.2.2.2.2.2.2.1, C.2.2.2.2.2.2.2.2.2.2.1, C.2.2.2.2.2.2.2.2.2.2.2.1, C.2.2.2.2.2.2.2.2.2.2.2.2.1, C.2.2.2.2.2.2.2.2.2.2.2.2.2) T L) := by
  refine AMet.of (by decide) rfl ?_
  intro G hR hE hI
  refine AW.blk (amX1_set _) 0 1 (h' := hM C T L) (pc' := 1) (lv' := [(0, .ref 0), (1, .int c), (2, .int a), (3, .int b)]) (st' := [.int c]) (L := []) rfl trivial ?_
  refine AW.callSp (amX1_set _) 1 (kX1_needCrossing c hc) [] [] ykX1_needCrossing ysX1_needCrossing mlX1_23 rfl rfl rfl rfl hR ⟨Nat.le_of_ble_eq_true rfl, Nat.le_of_ble_eq_true rfl, Nat.le_of_ble_eq_true rfl, Nat.le_of_ble_eq_true rfl⟩ rfl rfl rfl rfl rfl (fun _ => rfl) (h1 := hM C T L) rfl (st' := []) rfl ?_
  refine AW.blk (amX1_set _) 2 1 (h' := hM C T L) (pc' := 5) (lv' := [(0, .ref 0), (1, .int c), (2, .int a), (3, .int b)]) (st' := [.int a]) (L := []) rfl trivial ?_
  refine AW.br (amX1_set _) 3 (tgt := 14) (C := a < 0) (C' := ¬ a < 0) (st' := []) rfl rfl rfl (fun c1 => absurd c1 h1) (fun c1 => ?_)
  refine AW.blk (amX1_set _) 4 2 (h' := hM C T L) (pc' := 11) (lv' := [(0, .ref 0), (1, .int c), (2, .int a), (3, .int b)]) (st' := [.int 9, .int a]) (L := []) rfl trivial ?_
  refine AW.br (amX1_set _) 6 (tgt := 24) (C := a ≤ 9) (C' := ¬ a ≤ 9) (st' := []) rfl rfl rfl (fun c2 => ?_) (fun c2 => absurd h2 c2)
  refine AW.blk (amX1_set _) 12 1 (h' := hM C T L) (pc' := 25) (lv' := [(0, .ref 0), (1, .int c), (2, .int a), (3, .int b)]) (st' := [.int b]) (L := []) rfl trivial ?_
  refine AW.br (amX1_set _) 13 (tgt := 34) (C := b < 0) (C' := ¬ b < 0) (st' := []) rfl rfl rfl (fun c3 => absurd c3 h3) (fun c3 => ?_)
  refine AW.blk (amX1_set _) 14 2 (h' := hM C T L) (pc' := 31) (lv' := [(0, .ref 0), (1, .int c), (2, .int a), (3, .int b)]) (st' := [.int 30, .int b]) (L := []) rfl trivial ?_
  refine AW.br (amX1_set _) 16 (tgt := 44) (C := b ≤ 30) (C' := ¬ b ≤ 30) (st' := []) rfl rfl rfl (fun c4 => ?_) (fun c4 => absurd h4 c4)
  refine AW.blk (amX1_set _) 22 27 (h' := hM (C.1, upd C.2.1 c.toNatClampNeg a, upd C.2.2.1 c.toNatClampNeg b, C.2.2.2.1, C.2.2.2.2.1, C.2.2.2.2.2.1, C.2.2.2.2.2.2.1, C.2.2.2.2.2.2.2.1, C.2.2.2.2.2.2.2.2.1, C.2.2.2.2.2.2.2.2.2.1, C.2.2.2.2.2.2.2.2.2.2.1, C.2.2.2.2.2.2.2.2.2.2.2.1, C.2.2.2.2.2.2.2.2.2.2.2.2.1, C.2.2.2.2.2.2.2.2.2.2.2.2.2) T L) (pc' := 90) (lv' := [(4, .int ((100 * (C.2.1 c.toNatClampNeg)) + (C.2.2.1 c.toNatClampNeg))), (0, .ref 0), (1, .int c), (2, .int a), (3, .int b)]) (st' := [.int ((100 * (C.2.1 c.toNatClampNeg)) + (C.2.2.1 c.toNatClampNeg))]) (L := [vp_in c 9, vp_in c 9, vp_in c 9, vp_in c 9]) rfl ⟨(sCr_in hc), (sCr_in hc), (sCr_in hc), (sCr_in hc)⟩ ?_
  exact AW.iretE (amX1_set _) 49 hE rfl rfl (by first | rfl | exact narrow_b _ (by decide)) rfl rfl (rfl) rfl
set_option maxHeartbeats 2000000 in
theorem kX1_setRain (C T : CS) (L : Nat → Int32) (k v : Int32) (h1 : ¬ k < 0) (h2 : k < 8) (h3 : ¬ v < 0) (h4 : v ≤ 9) : AMet yX1_setRain cX1_setRain 4 (some .int) { frames := 1, cells := 0, slots := 0, locals := 40 } [.ref 0, .int k, .int v] (hM C T L) (some (.int (C.2.2.2.2.2.1 k.toNatClampNeg))) (hM (C.1, C.2.1, C.2.2.1, C.2.2.2.1, C.2.2.2.2.1, upd C.2.2.2.2.2.1 k.toNatClampNeg v, C.2.2.2.2.2.2.1, C.2.2.2.2.2.2.2.1, C.2.2.2.2.2.2.2.2.1, C.2.2.2.2.2.2.2.2.2.1, C.2.2.2.2.2.2.2.2.2.2.1, C.2.2.2.2.2.2.2.2.2.2.2.1, C.2.2.2.2.2.2.2.2.2.2.2.2.1, C.2.2.2.2.2.2.2.2.2.2.2.2.2) T L) := by
  refine AMet.of (by decide) rfl ?_
  intro G hR hE hI
  refine AW.blk (amX1_setRain _) 0 1 (h' := hM C T L) (pc' := 1) (lv' := [(0, .ref 0), (1, .int k), (2, .int v)]) (st' := [.int k]) (L := []) rfl trivial ?_
  refine AW.br (amX1_setRain _) 1 (tgt := 10) (C := k < 0) (C' := ¬ k < 0) (st' := []) rfl rfl rfl (fun c1 => absurd c1 h1) (fun c1 => ?_)
  refine AW.blk (amX1_setRain _) 2 2 (h' := hM C T L) (pc' := 7) (lv' := [(0, .ref 0), (1, .int k), (2, .int v)]) (st' := [.int 8, .int k]) (L := []) rfl trivial ?_
  refine AW.br (amX1_setRain _) 4 (tgt := 20) (C := k < 8) (C' := ¬ k < 8) (st' := []) rfl rfl rfl (fun c2 => ?_) (fun c2 => absurd h2 c2)
  refine AW.blk (amX1_setRain _) 10 1 (h' := hM C T L) (pc' := 21) (lv' := [(0, .ref 0), (1, .int k), (2, .int v)]) (st' := [.int v]) (L := []) rfl trivial ?_
  refine AW.br (amX1_setRain _) 11 (tgt := 30) (C := v < 0) (C' := ¬ v < 0) (st' := []) rfl rfl rfl (fun c3 => absurd c3 h3) (fun c3 => ?_)
  refine AW.blk (amX1_setRain _) 12 2 (h' := hM C T L) (pc' := 27) (lv' := [(0, .ref 0), (1, .int k), (2, .int v)]) (st' := [.int 9, .int v]) (L := []) rfl trivial ?_
  refine AW.br (amX1_setRain _) 14 (tgt := 40) (C := v ≤ 9) (C' := ¬ v ≤ 9) (st' := []) rfl rfl rfl (fun c4 => ?_) (fun c4 => absurd h4 c4)
  refine AW.blk (amX1_setRain _) 20 13 (h' := hM (C.1, C.2.1, C.2.2.1, C.2.2.2.1, C.2.2.2.2.1, upd C.2.2.2.2.2.1 k.toNatClampNeg v, C.2.2.2.2.2.2.1, C.2.2.2.2.2.2.2.1, C.2.2.2.2.2.2.2.2.1, C.2.2.2.2.2.2.2.2.2.1, C.2.2.2.2.2.2.2.2.2.2.1, C.2.2.2.2.2.2.2.2.2.2.2.1, C.2.2.2.2.2.2.2.2.2.2.2.2.1, C.2.2.2.2.2.2.2.2.2.2.2.2.2) T L) (pc' := 61) (lv' := [(3, .int (C.2.2.2.2.2.1 k.toNatClampNeg)), (0, .ref 0), (1, .int k), (2, .int v)]) (st' := [.int (C.2.2.2.2.2.1 k.toNatClampNeg)]) (L := [vp_in k 8, vp_in k 8]) rfl ⟨(vp_in_of_lt (M := 8) (by decide) h1 (by intro z; exact absurd h2 (Int32.not_lt.mpr z))), (vp_in_of_lt (M := 8) (by decide) h1 (by intro z; exact absurd h2 (Int32.not_lt.mpr z)))⟩ ?_
  exact AW.iretE (amX1_setRain _) 33 hE rfl rfl (by first | rfl | exact narrow_b _ (by decide)) rfl rfl (rfl) rfl
set_option maxHeartbeats 2000000 in
theorem kX1_spill (C T : CS) (L : Nat → Int32) (c m : Int32) (hc : ¬ sCr c = 0) (h1 : ¬ m < 1) (h2 : m ≤ 50) : AMet yX1_spill cX1_spill 3 (some .int) { frames := 2, cells := 0, slots := 0, locals := 62 } [.ref 0, .int c, .int m] (hM C T L) (some (.int (sAM c m C.1 c.toNatClampNeg))) (hM (sAM c m C.1, C.2.1, C.2.2.1, C.2.2.2.1, C.2.2.2.2.1, C.2.2.2.2.2.1, C.2.2.2.2.2.2.1, C.2.2.2.2.2.2.2.1, C.2.2.2.2.2.2.2.2.1, C.2.2.2.2.2.2.2.2.2.1, C.2.2.2.2.2.2.2.2.2.2.1, C.2.2.2.2.2.2.2.2.2.2.2.1, C.2.2.2.2.2.2.2.2.2.2.2.2.1, C.2.2.2.2.2.2.2.2.2.2.2.2.2) T L) := by
  refine AMet.of (by decide) rfl ?_
  intro G hR hE hI
  refine AW.blk (amX1_spill _) 0 1 (h' := hM C T L) (pc' := 1) (lv' := [(0, .ref 0), (1, .int c), (2, .int m)]) (st' := [.int c]) (L := []) rfl trivial ?_
  refine AW.callSp (amX1_spill _) 1 (kX1_needCrossing c hc) [] [] ykX1_needCrossing ysX1_needCrossing mlX1_23 rfl rfl rfl rfl hR ⟨Nat.le_of_ble_eq_true rfl, Nat.le_of_ble_eq_true rfl, Nat.le_of_ble_eq_true rfl, Nat.le_of_ble_eq_true rfl⟩ rfl rfl rfl rfl rfl (fun _ => rfl) (h1 := hM C T L) rfl (st' := []) rfl ?_
  refine AW.blk (amX1_spill _) 2 2 (h' := hM C T L) (pc' := 6) (lv' := [(0, .ref 0), (1, .int c), (2, .int m)]) (st' := [.int 1, .int m]) (L := []) rfl trivial ?_
  refine AW.br (amX1_spill _) 4 (tgt := 15) (C := m < 1) (C' := ¬ m < 1) (st' := []) rfl rfl rfl (fun c1 => absurd c1 h1) (fun c1 => ?_)
  refine AW.blk (amX1_spill _) 5 2 (h' := hM C T L) (pc' := 12) (lv' := [(0, .ref 0), (1, .int c), (2, .int m)]) (st' := [.int 50, .int m]) (L := []) rfl trivial ?_
  refine AW.br (amX1_spill _) 7 (tgt := 25) (C := m ≤ 50) (C' := ¬ m ≤ 50) (st' := []) rfl rfl rfl (fun c2 => ?_) (fun c2 => absurd h2 c2)
  refine AW.blk (amX1_spill _) 13 4 (h' := hM C T L) (pc' := 31) (lv' := [(0, .ref 0), (1, .int c), (2, .int m)]) (st' := [.int m, .int c, .ref 1]) (L := []) rfl trivial ?_
  refine AW.callVp (amX1_spill _) 17 (kX0_addMud C.1 C.2.1 C.2.2.1 C.2.2.2.1 C.2.2.2.2.1 C.2.2.2.2.2.1 C.2.2.2.2.2.2.1 C.2.2.2.2.2.2.2.1 C.2.2.2.2.2.2.2.2.1 C.2.2.2.2.2.2.2.2.2.1 C.2.2.2.2.2.2.2.2.2.2.1 C.2.2.2.2.2.2.2.2.2.2.2.1 C.2.2.2.2.2.2.2.2.2.2.2.2.1 C.2.2.2.2.2.2.2.2.2.2.2.2.2 c m) rfl rfl [1, 2, 3, 4, 5, 6, 7, 8, 9, 10, 11, 12, 13] [] ykX0_addMud yiX0_addMud yvX0_addMud mlX1_54 rfl rfl rfl rfl hR ⟨Nat.le_of_ble_eq_true rfl, Nat.le_of_ble_eq_true rfl, Nat.le_of_ble_eq_true rfl, Nat.le_of_ble_eq_true rfl⟩ rfl rfl rfl rfl rfl (fun _ => rfl) (h1 := hM (sAM c m C.1, C.2.1, C.2.2.1, C.2.2.2.1, C.2.2.2.2.1, C.2.2.2.2.2.1, C.2.2.2.2.2.2.1, C.2.2.2.2.2.2.2.1, C.2.2.2.2.2.2.2.2.1, C.2.2.2.2.2.2.2.2.2.1, C.2.2.2.2.2.2.2.2.2.2.1, C.2.2.2.2.2.2.2.2.2.2.2.1, C.2.2.2.2.2.2.2.2.2.2.2.2.1, C.2.2.2.2.2.2.2.2.2.2.2.2.2) T L) rfl (st' := []) rfl ?_
  refine AW.blk (amX1_spill _) 18 5 (h' := hM (sAM c m C.1, C.2.1, C.2.2.1, C.2.2.2.1, C.2.2.2.2.1, C.2.2.2.2.2.1, C.2.2.2.2.2.2.1, C.2.2.2.2.2.2.2.1, C.2.2.2.2.2.2.2.2.1, C.2.2.2.2.2.2.2.2.2.1, C.2.2.2.2.2.2.2.2.2.2.1, C.2.2.2.2.2.2.2.2.2.2.2.1, C.2.2.2.2.2.2.2.2.2.2.2.2.1, C.2.2.2.2.2.2.2.2.2.2.2.2.2) T L) (pc' := 43) (lv' := [(0, .ref 0), (1, .int c), (2, .int m)]) (st' := [.int ((sAM c m C.1) c.toNatClampNeg)]) (L := [vp_in c 9]) rfl (sCr_in hc) ?_
  exact AW.iretE (amX1_spill _) 23 hE rfl rfl (by first | rfl | exact narrow_b _ (by decide)) rfl rfl (rfl) rfl
set_option maxHeartbeats 2000000 in
theorem kX1_come (C T : CS) (L : Nat → Int32) (c s : Int32) (hc : ¬ sCr c = 0) (h1 : ¬ s < 1) (h2 : s ≤ 9) (h3 : ¬ C.2.2.2.2.2.2.2.2.2.2.2.2.1 < 0) (h4 : C.2.2.2.2.2.2.2.2.2.2.2.2.1 < 8) : AMet yX1_come cX1_come 3 (some .int) { frames := 2, cells := 0, slots := 0, locals := 60 } [.ref 0, .int c, .int s] (hM C T L) (some (.int C.2.2.2.2.2.2.2.2.2.2.2.2.1)) (hM (C.1, C.2.1, C.2.2.1, C.2.2.2.1, C.2.2.2.2.1, C.2.2.2.2.2.1, upd C.2.2.2.2.2.2.1 C.2.2.2.2.2.2.2.2.2.2.2.2.1.toNatClampNeg c, upd C.2.2.2.2.2.2.2.1 C.2.2.2.2.2.2.2.2.2.2.2.2.1.toNatClampNeg s, upd C.2.2.2.2.2.2.2.2.1 C.2.2.2.2.2.2.2.2.2.2.2.2.1.toNatClampNeg 40, C.2.2.2.2.2.2.2.2.2.1, C.2.2.2.2.2.2.2.2.2.2.1, C.2.2.2.2.2.2.2.2.2.2.2.1, C.2.2.2.2.2.2.2.2.2.2.2.2.1 + 1, C.2.2.2.2.2.2.2.2.2.2.2.2.2) T L) := by
  refine AMet.of (by decide) rfl ?_
  intro G hR hE hI
  refine AW.blk (amX1_come _) 0 1 (h' := hM C T L) (pc' := 1) (lv' := [(0, .ref 0), (1, .int c), (2, .int s)]) (st' := [.int c]) (L := []) rfl trivial ?_
  refine AW.callSp (amX1_come _) 1 (kX1_needCrossing c hc) [] [] ykX1_needCrossing ysX1_needCrossing mlX1_23 rfl rfl rfl rfl hR ⟨Nat.le_of_ble_eq_true rfl, Nat.le_of_ble_eq_true rfl, Nat.le_of_ble_eq_true rfl, Nat.le_of_ble_eq_true rfl⟩ rfl rfl rfl rfl rfl (fun _ => rfl) (h1 := hM C T L) rfl (st' := []) rfl ?_
  refine AW.blk (amX1_come _) 2 2 (h' := hM C T L) (pc' := 6) (lv' := [(0, .ref 0), (1, .int c), (2, .int s)]) (st' := [.int 1, .int s]) (L := []) rfl trivial ?_
  refine AW.br (amX1_come _) 4 (tgt := 15) (C := s < 1) (C' := ¬ s < 1) (st' := []) rfl rfl rfl (fun c1 => absurd c1 h1) (fun c1 => ?_)
  refine AW.blk (amX1_come _) 5 2 (h' := hM C T L) (pc' := 12) (lv' := [(0, .ref 0), (1, .int c), (2, .int s)]) (st' := [.int 9, .int s]) (L := []) rfl trivial ?_
  refine AW.br (amX1_come _) 7 (tgt := 25) (C := s ≤ 9) (C' := ¬ s ≤ 9) (st' := []) rfl rfl rfl (fun c2 => ?_) (fun c2 => absurd h2 c2)
  refine AW.blk (amX1_come _) 13 3 (h' := hM C T L) (pc' := 32) (lv' := [(0, .ref 0), (1, .int c), (2, .int s)]) (st' := [.int C.2.2.2.2.2.2.2.2.2.2.2.2.1]) (L := []) rfl trivial ?_
  refine AW.br (amX1_come _) 16 (tgt := 47) (C := C.2.2.2.2.2.2.2.2.2.2.2.2.1 < 0) (C' := ¬ C.2.2.2.2.2.2.2.2.2.2.2.2.1 < 0) (st' := []) rfl rfl rfl (fun c3 => absurd c3 h3) (fun c3 => ?_)
  refine AW.blk (amX1_come _) 17 4 (h' := hM C T L) (pc' := 44) (lv' := [(0, .ref 0), (1, .int c), (2, .int s)]) (st' := [.int 8, .int C.2.2.2.2.2.2.2.2.2.2.2.2.1]) (L := []) rfl trivial ?_
  refine AW.br (amX1_come _) 21 (tgt := 57) (C := C.2.2.2.2.2.2.2.2.2.2.2.2.1 < 8) (C' := ¬ C.2.2.2.2.2.2.2.2.2.2.2.2.1 < 8) (st' := []) rfl rfl rfl (fun c4 => ?_) (fun c4 => absurd h4 c4)
  refine AW.blk (amX1_come _) 27 4 (h' := hM C T L) (pc' := 63) (lv' := [(0, .ref 0), (1, .int c), (2, .int s)]) (st' := [.int s, .int c, .ref 1]) (L := []) rfl trivial ?_
  refine AW.callVp (amX1_come _) 31 (kX0_admit C.1 C.2.1 C.2.2.1 C.2.2.2.1 C.2.2.2.2.1 C.2.2.2.2.2.1 C.2.2.2.2.2.2.1 C.2.2.2.2.2.2.2.1 C.2.2.2.2.2.2.2.2.1 C.2.2.2.2.2.2.2.2.2.1 C.2.2.2.2.2.2.2.2.2.2.1 C.2.2.2.2.2.2.2.2.2.2.2.1 C.2.2.2.2.2.2.2.2.2.2.2.2.1 C.2.2.2.2.2.2.2.2.2.2.2.2.2 c s h3 h4) rfl rfl [1, 2, 3, 4, 5, 6, 7, 8, 9, 10, 11, 12, 13] [] ykX0_admit yiX0_admit yvX0_admit mlX1_72 rfl rfl rfl rfl hR ⟨Nat.le_of_ble_eq_true rfl, Nat.le_of_ble_eq_true rfl, Nat.le_of_ble_eq_true rfl, Nat.le_of_ble_eq_true rfl⟩ rfl rfl rfl rfl rfl (fun _ => rfl) (h1 := hM (C.1, C.2.1, C.2.2.1, C.2.2.2.1, C.2.2.2.2.1, C.2.2.2.2.2.1, upd C.2.2.2.2.2.2.1 C.2.2.2.2.2.2.2.2.2.2.2.2.1.toNatClampNeg c, upd C.2.2.2.2.2.2.2.1 C.2.2.2.2.2.2.2.2.2.2.2.2.1.toNatClampNeg s, upd C.2.2.2.2.2.2.2.2.1 C.2.2.2.2.2.2.2.2.2.2.2.2.1.toNatClampNeg 40, C.2.2.2.2.2.2.2.2.2.1, C.2.2.2.2.2.2.2.2.2.2.1, C.2.2.2.2.2.2.2.2.2.2.2.1, C.2.2.2.2.2.2.2.2.2.2.2.2.1 + 1, C.2.2.2.2.2.2.2.2.2.2.2.2.2) T L) rfl (st' := [.int C.2.2.2.2.2.2.2.2.2.2.2.2.1]) rfl ?_
  exact AW.iretE (amX1_come _) 32 hE rfl rfl (by first | rfl | exact narrow_b _ (by decide)) rfl rfl (rfl) rfl
set_option maxHeartbeats 2000000 in
theorem kX1_send (C T : CS) (L : Nat → Int32) (s c : Int32) (hs : ¬ sSw s C.2.2.2.2.2.2.2.2.2.2.2.2.1 = 0) (hc : ¬ sCr c = 0) : AMet yX1_send cX1_send 4 (some .int) { frames := 2, cells := 0, slots := 0, locals := 61 } [.ref 0, .int s, .int c] (hM C T L) (some (.int (C.2.2.2.2.2.2.1 s.toNatClampNeg))) (hM (C.1, C.2.1, C.2.2.1, sMoH s C.2.2.2.2.2.2.2.2.2.2.2.2.1 C.2.2.2.2.2.2.1 C.2.2.2.1, C.2.2.2.2.1, C.2.2.2.2.2.1, sMoP s c C.2.2.2.2.2.2.2.2.2.2.2.2.1 C.2.2.2.2.2.2.1, C.2.2.2.2.2.2.2.1, C.2.2.2.2.2.2.2.2.1, C.2.2.2.2.2.2.2.2.2.1, C.2.2.2.2.2.2.2.2.2.2.1, C.2.2.2.2.2.2.2.2.2.2.2.1, C.2.2.2.2.2.2.2.2.2.2.2.2.1, C.2.2.2.2.2.2.2.2.2.2.2.2.2) T L) := by
  refine AMet.of (by decide) rfl ?_
  intro G hR hE hI
  refine AW.blk (amX1_send _) 0 2 (h' := hM C T L) (pc' := 2) (lv' := [(0, .ref 0), (1, .int s), (2, .int c)]) (st' := [.int s, .ref 0]) (L := []) rfl trivial ?_
  refine AW.callVp (amX1_send _) 2 (kX1_needSweeper C T L s hs) rfl rfl [0, 1, 2, 3, 4, 5, 6, 7, 8, 9, 10, 11, 12, 13, 14, 15, 16, 17, 18, 19, 20, 21, 22, 23, 24, 25, 26, 27] [] ykX1_needSweeper yiX1_needSweeper yvX1_needSweeper mlX1_76 rfl rfl rfl rfl hR ⟨Nat.le_of_ble_eq_true rfl, Nat.le_of_ble_eq_true rfl, Nat.le_of_ble_eq_true rfl, Nat.le_of_ble_eq_true rfl⟩ rfl rfl rfl rfl rfl (fun _ => rfl) (h1 := hM C T L) rfl (st' := []) rfl ?_
  refine AW.blk (amX1_send _) 3 1 (h' := hM C T L) (pc' := 6) (lv' := [(0, .ref 0), (1, .int s), (2, .int c)]) (st' := [.int c]) (L := []) rfl trivial ?_
  refine AW.callSp (amX1_send _) 4 (kX1_needCrossing c hc) [] [] ykX1_needCrossing ysX1_needCrossing mlX1_23 rfl rfl rfl rfl hR ⟨Nat.le_of_ble_eq_true rfl, Nat.le_of_ble_eq_true rfl, Nat.le_of_ble_eq_true rfl, Nat.le_of_ble_eq_true rfl⟩ rfl rfl rfl rfl rfl (fun _ => rfl) (h1 := hM C T L) rfl (st' := []) rfl ?_
  refine AW.blk (amX1_send _) 5 10 (h' := hM C T L) (pc' := 25) (lv' := [(3, .int (C.2.2.2.2.2.2.1 s.toNatClampNeg)), (0, .ref 0), (1, .int s), (2, .int c)]) (st' := [.int c, .int s, .ref 1]) (L := [vp_in s 8]) rfl (sSw_in hs) ?_
  refine AW.callVp (amX1_send _) 15 (kX0_moveTo C.1 C.2.1 C.2.2.1 C.2.2.2.1 C.2.2.2.2.1 C.2.2.2.2.2.1 C.2.2.2.2.2.2.1 C.2.2.2.2.2.2.2.1 C.2.2.2.2.2.2.2.2.1 C.2.2.2.2.2.2.2.2.2.1 C.2.2.2.2.2.2.2.2.2.2.1 C.2.2.2.2.2.2.2.2.2.2.2.1 C.2.2.2.2.2.2.2.2.2.2.2.2.1 C.2.2.2.2.2.2.2.2.2.2.2.2.2 s c) rfl rfl [1, 2, 3, 4, 5, 6, 7, 8, 9, 10, 11, 12, 13] [] ykX0_moveTo yiX0_moveTo yvX0_moveTo mlX1_82 rfl rfl rfl rfl hR ⟨Nat.le_of_ble_eq_true rfl, Nat.le_of_ble_eq_true rfl, Nat.le_of_ble_eq_true rfl, Nat.le_of_ble_eq_true rfl⟩ rfl rfl rfl rfl rfl (fun _ => rfl) (h1 := hM (C.1, C.2.1, C.2.2.1, sMoH s C.2.2.2.2.2.2.2.2.2.2.2.2.1 C.2.2.2.2.2.2.1 C.2.2.2.1, C.2.2.2.2.1, C.2.2.2.2.2.1, sMoP s c C.2.2.2.2.2.2.2.2.2.2.2.2.1 C.2.2.2.2.2.2.1, C.2.2.2.2.2.2.2.1, C.2.2.2.2.2.2.2.2.1, C.2.2.2.2.2.2.2.2.2.1, C.2.2.2.2.2.2.2.2.2.2.1, C.2.2.2.2.2.2.2.2.2.2.2.1, C.2.2.2.2.2.2.2.2.2.2.2.2.1, C.2.2.2.2.2.2.2.2.2.2.2.2.2) T L) rfl (st' := []) rfl ?_
  refine AW.blk (amX1_send _) 16 1 (h' := hM (C.1, C.2.1, C.2.2.1, sMoH s C.2.2.2.2.2.2.2.2.2.2.2.2.1 C.2.2.2.2.2.2.1 C.2.2.2.1, C.2.2.2.2.1, C.2.2.2.2.2.1, sMoP s c C.2.2.2.2.2.2.2.2.2.2.2.2.1 C.2.2.2.2.2.2.1, C.2.2.2.2.2.2.2.1, C.2.2.2.2.2.2.2.2.1, C.2.2.2.2.2.2.2.2.2.1, C.2.2.2.2.2.2.2.2.2.2.1, C.2.2.2.2.2.2.2.2.2.2.2.1, C.2.2.2.2.2.2.2.2.2.2.2.2.1, C.2.2.2.2.2.2.2.2.2.2.2.2.2) T L) (pc' := 29) (lv' := [(3, .int (C.2.2.2.2.2.2.1 s.toNatClampNeg)), (0, .ref 0), (1, .int s), (2, .int c)]) (st' := [.int (C.2.2.2.2.2.2.1 s.toNatClampNeg)]) (L := []) rfl trivial ?_
  exact AW.iretE (amX1_send _) 17 hE rfl rfl (by first | rfl | exact narrow_b _ (by decide)) rfl rfl (rfl) rfl
set_option maxHeartbeats 2000000 in
theorem kX1_buy (C T : CS) (L : Nat → Int32) (s : Int32) (hs : ¬ sSw s C.2.2.2.2.2.2.2.2.2.2.2.2.1 = 0) (h5 : 5 ≤ C.2.2.2.2.2.2.2.2.2.1 s.toNatClampNeg) : AMet yX1_buy cX1_buy 2 (some .int) { frames := 2, cells := 0, slots := 0, locals := 61 } [.ref 0, .int s] (hM C T L) (some (.int (upd C.2.2.2.2.2.2.2.2.2.1 s.toNatClampNeg (C.2.2.2.2.2.2.2.2.2.1 s.toNatClampNeg - 5) s.toNatClampNeg))) (hM (C.1, C.2.1, C.2.2.1, C.2.2.2.1, C.2.2.2.2.1, C.2.2.2.2.2.1, C.2.2.2.2.2.2.1, C.2.2.2.2.2.2.2.1, upd C.2.2.2.2.2.2.2.2.1 s.toNatClampNeg 40, upd C.2.2.2.2.2.2.2.2.2.1 s.toNatClampNeg (C.2.2.2.2.2.2.2.2.2.1 s.toNatClampNeg - 5), C.2.2.2.2.2.2.2.2.2.2.1, C.2.2.2.2.2.2.2.2.2.2.2.1, C.2.2.2.2.2.2.2.2.2.2.2.2.1, C.2.2.2.2.2.2.2.2.2.2.2.2.2) T L) := by
  refine AMet.of (by decide) rfl ?_
  intro G hR hE hI
  refine AW.blk (amX1_buy _) 0 2 (h' := hM C T L) (pc' := 2) (lv' := [(0, .ref 0), (1, .int s)]) (st' := [.int s, .ref 0]) (L := []) rfl trivial ?_
  refine AW.callVp (amX1_buy _) 2 (kX1_needSweeper C T L s hs) rfl rfl [0, 1, 2, 3, 4, 5, 6, 7, 8, 9, 10, 11, 12, 13, 14, 15, 16, 17, 18, 19, 20, 21, 22, 23, 24, 25, 26, 27] [] ykX1_needSweeper yiX1_needSweeper yvX1_needSweeper mlX1_76 rfl rfl rfl rfl hR ⟨Nat.le_of_ble_eq_true rfl, Nat.le_of_ble_eq_true rfl, Nat.le_of_ble_eq_true rfl, Nat.le_of_ble_eq_true rfl⟩ rfl rfl rfl rfl rfl (fun _ => rfl) (h1 := hM C T L) rfl (st' := []) rfl ?_
  refine AW.blk (amX1_buy _) 3 6 (h' := hM C T L) (pc' := 15) (lv' := [(0, .ref 0), (1, .int s)]) (st' := [.int 5, .int (C.2.2.2.2.2.2.2.2.2.1 s.toNatClampNeg)]) (L := [vp_in s 8]) rfl (sSw_in hs) ?_
  refine AW.br (amX1_buy _) 9 (tgt := 28) (C := 5 ≤ (C.2.2.2.2.2.2.2.2.2.1 s.toNatClampNeg)) (C' := ¬ 5 ≤ (C.2.2.2.2.2.2.2.2.2.1 s.toNatClampNeg)) (st' := []) rfl rfl rfl (fun c1 => ?_) (fun c1 => absurd h5 c1)
  refine AW.blk (amX1_buy _) 15 20 (h' := hM (C.1, C.2.1, C.2.2.1, C.2.2.2.1, C.2.2.2.2.1, C.2.2.2.2.2.1, C.2.2.2.2.2.2.1, C.2.2.2.2.2.2.2.1, upd C.2.2.2.2.2.2.2.2.1 s.toNatClampNeg 40, upd C.2.2.2.2.2.2.2.2.2.1 s.toNatClampNeg ((C.2.2.2.2.2.2.2.2.2.1 s.toNatClampNeg) - 5), C.2.2.2.2.2.2.2.2.2.2.1, C.2.2.2.2.2.2.2.2.2.2.2.1, C.2.2.2.2.2.2.2.2.2.2.2.2.1, C.2.2.2.2.2.2.2.2.2.2.2.2.2) T L) (pc' := 61) (lv' := [(0, .ref 0), (1, .int s)]) (st' := [.int ((upd C.2.2.2.2.2.2.2.2.2.1 s.toNatClampNeg ((C.2.2.2.2.2.2.2.2.2.1 s.toNatClampNeg) - 5)) s.toNatClampNeg)]) (L := [vp_in s 8, vp_in s 8, vp_in s 8, vp_in s 8]) rfl ⟨(sSw_in hs), (sSw_in hs), (sSw_in hs), (sSw_in hs)⟩ ?_
  exact AW.iretE (amX1_buy _) 35 hE rfl rfl (by first | rfl | exact narrow_b _ (by decide)) rfl rfl (rfl) rfl
set_option maxHeartbeats 2000000 in
theorem kX1_sweeper (C T : CS) (L : Nat → Int32) (s : Int32) (hs : ¬ sSw s C.2.2.2.2.2.2.2.2.2.2.2.2.1 = 0) (w : Nat) (hw : w < 8) : AMet yX1_sweeper cX1_sweeper 3 (some .int) { frames := 3, cells := 0, slots := 0, locals := 64 } [.ref 0, .int s, .int (nI w)] (hM C T L) (some (.int (sSF s C.2.2.2.2.2.2.2.2.2.2.2.2.1 C.2.2.2.1 C.2.2.2.2.2.2.1 C.2.2.2.2.2.2.2.1 C.2.2.2.2.2.2.2.2.1 C.2.2.2.2.2.2.2.2.2.1 C.2.2.2.2.2.2.2.2.2.2.1 C.2.2.2.2.2.2.2.2.2.2.2.1 w))) (hM C T L) := by
  refine AMet.of (by decide) rfl ?_
  intro G hR hE hI
  refine AW.blk (amX1_sweeper _) 0 2 (h' := hM C T L) (pc' := 2) (lv' := [(0, .ref 0), (1, .int s), (2, .int (nI w))]) (st' := [.int s, .ref 0]) (L := []) rfl trivial ?_
  refine AW.callVp (amX1_sweeper _) 2 (kX1_needSweeper C T L s hs) rfl rfl [0, 1, 2, 3, 4, 5, 6, 7, 8, 9, 10, 11, 12, 13, 14, 15, 16, 17, 18, 19, 20, 21, 22, 23, 24, 25, 26, 27] [] ykX1_needSweeper yiX1_needSweeper yvX1_needSweeper mlX1_76 rfl rfl rfl rfl hR ⟨Nat.le_of_ble_eq_true rfl, Nat.le_of_ble_eq_true rfl, Nat.le_of_ble_eq_true rfl, Nat.le_of_ble_eq_true rfl⟩ rfl rfl rfl rfl rfl (fun _ => rfl) (h1 := hM C T L) rfl (st' := []) rfl ?_
  refine AW.blk (amX1_sweeper _) 3 2 (h' := hM C T L) (pc' := 8) (lv' := [(0, .ref 0), (1, .int s), (2, .int (nI w))]) (st' := [.int 8, .int (nI w)]) (L := []) rfl trivial ?_
  refine AW.callSp (amX1_sweeper _) 5 (kX1_needFact (nI w) 8 (nI_pos (by omega)) (nI_lt (a := w) (b := 8) hw (by decide))) [] [] ykX1_needFact ysX1_needFact mlX1_93 rfl rfl rfl rfl hR ⟨Nat.le_of_ble_eq_true rfl, Nat.le_of_ble_eq_true rfl, Nat.le_of_ble_eq_true rfl, Nat.le_of_ble_eq_true rfl⟩ rfl rfl rfl rfl rfl (fun _ => rfl) (h1 := hM C T L) rfl (st' := []) rfl ?_
  refine AW.blk (amX1_sweeper _) 6 4 (h' := hM C T L) (pc' := 17) (lv' := [(0, .ref 0), (1, .int s), (2, .int (nI w))]) (st' := [.int (nI w), .int s, .ref 1]) (L := []) rfl trivial ?_
  refine AW.callVp (amX1_sweeper _) 10 (kX0_sweeperFact C.1 C.2.1 C.2.2.1 C.2.2.2.1 C.2.2.2.2.1 C.2.2.2.2.2.1 C.2.2.2.2.2.2.1 C.2.2.2.2.2.2.2.1 C.2.2.2.2.2.2.2.2.1 C.2.2.2.2.2.2.2.2.2.1 C.2.2.2.2.2.2.2.2.2.2.1 C.2.2.2.2.2.2.2.2.2.2.2.1 C.2.2.2.2.2.2.2.2.2.2.2.2.1 C.2.2.2.2.2.2.2.2.2.2.2.2.2 s hs w (by omega)) rfl rfl [1, 2, 3, 4, 5, 6, 7, 8, 9, 10, 11, 12, 13] [] ykX0_sweeperFact yiX0_sweeperFact yvX0_sweeperFact mlX1_96 rfl rfl rfl rfl hR ⟨Nat.le_of_ble_eq_true rfl, Nat.le_of_ble_eq_true rfl, Nat.le_of_ble_eq_true rfl, Nat.le_of_ble_eq_true rfl⟩ rfl rfl rfl rfl rfl (fun _ => rfl) (h1 := hM C T L) rfl (st' := [.int (sSF s C.2.2.2.2.2.2.2.2.2.2.2.2.1 C.2.2.2.1 C.2.2.2.2.2.2.1 C.2.2.2.2.2.2.2.1 C.2.2.2.2.2.2.2.2.1 C.2.2.2.2.2.2.2.2.2.1 C.2.2.2.2.2.2.2.2.2.2.1 C.2.2.2.2.2.2.2.2.2.2.2.1 w)]) rfl ?_
  exact AW.iretE (amX1_sweeper _) 11 hE rfl rfl (by first | rfl | exact narrow_b _ (by decide)) rfl rfl (rfl) rfl
set_option maxHeartbeats 2000000 in
theorem kX1_crossing (C T : CS) (L : Nat → Int32) (c : Int32) (hc : ¬ sCr c = 0) (w : Nat) (hw : w < 6) : AMet yX1_crossing cX1_crossing 3 (some .int) { frames := 2, cells := 0, slots := 0, locals := 61 } [.ref 0, .int c, .int (nI w)] (hM C T L) (some (.int (sCF c C.2.2.2.2.2.2.2.2.2.2.2.2.1 C.1 C.2.1 C.2.2.1 C.2.2.2.1 C.2.2.2.2.1 C.2.2.2.2.2.2.1 w))) (hM C T L) := by
  refine AMet.of (by decide) rfl ?_
  intro G hR hE hI
  refine AW.blk (amX1_crossing _) 0 1 (h' := hM C T L) (pc' := 1) (lv' := [(0, .ref 0), (1, .int c), (2, .int (nI w))]) (st' := [.int c]) (L := []) rfl trivial ?_
  refine AW.callSp (amX1_crossing _) 1 (kX1_needCrossing c hc) [] [] ykX1_needCrossing ysX1_needCrossing mlX1_23 rfl rfl rfl rfl hR ⟨Nat.le_of_ble_eq_true rfl, Nat.le_of_ble_eq_true rfl, Nat.le_of_ble_eq_true rfl, Nat.le_of_ble_eq_true rfl⟩ rfl rfl rfl rfl rfl (fun _ => rfl) (h1 := hM C T L) rfl (st' := []) rfl ?_
  refine AW.blk (amX1_crossing _) 2 2 (h' := hM C T L) (pc' := 7) (lv' := [(0, .ref 0), (1, .int c), (2, .int (nI w))]) (st' := [.int 6, .int (nI w)]) (L := []) rfl trivial ?_
  refine AW.callSp (amX1_crossing _) 4 (kX1_needFact (nI w) 6 (nI_pos (by omega)) (nI_lt (a := w) (b := 6) hw (by decide))) [] [] ykX1_needFact ysX1_needFact mlX1_93 rfl rfl rfl rfl hR ⟨Nat.le_of_ble_eq_true rfl, Nat.le_of_ble_eq_true rfl, Nat.le_of_ble_eq_true rfl, Nat.le_of_ble_eq_true rfl⟩ rfl rfl rfl rfl rfl (fun _ => rfl) (h1 := hM C T L) rfl (st' := []) rfl ?_
  refine AW.blk (amX1_crossing _) 5 4 (h' := hM C T L) (pc' := 16) (lv' := [(0, .ref 0), (1, .int c), (2, .int (nI w))]) (st' := [.int (nI w), .int c, .ref 1]) (L := []) rfl trivial ?_
  refine AW.callVp (amX1_crossing _) 9 (kX0_crossingFact C.1 C.2.1 C.2.2.1 C.2.2.2.1 C.2.2.2.2.1 C.2.2.2.2.2.1 C.2.2.2.2.2.2.1 C.2.2.2.2.2.2.2.1 C.2.2.2.2.2.2.2.2.1 C.2.2.2.2.2.2.2.2.2.1 C.2.2.2.2.2.2.2.2.2.2.1 C.2.2.2.2.2.2.2.2.2.2.2.1 C.2.2.2.2.2.2.2.2.2.2.2.2.1 C.2.2.2.2.2.2.2.2.2.2.2.2.2 c hc w (by omega)) rfl rfl [1, 2, 3, 4, 5, 6, 7, 8, 9, 10, 11, 12, 13] [] ykX0_crossingFact yiX0_crossingFact yvX0_crossingFact mlX1_99 rfl rfl rfl rfl hR ⟨Nat.le_of_ble_eq_true rfl, Nat.le_of_ble_eq_true rfl, Nat.le_of_ble_eq_true rfl, Nat.le_of_ble_eq_true rfl⟩ rfl rfl rfl rfl rfl (fun _ => rfl) (h1 := hM C T L) rfl (st' := [.int (sCF c C.2.2.2.2.2.2.2.2.2.2.2.2.1 C.1 C.2.1 C.2.2.1 C.2.2.2.1 C.2.2.2.2.1 C.2.2.2.2.2.2.1 w)]) rfl ?_
  exact AW.iretE (amX1_crossing _) 10 hE rfl rfl (by first | rfl | exact narrow_b _ (by decide)) rfl rfl (rfl) rfl
set_option maxHeartbeats 2000000 in
theorem kX1_count (C T : CS) (L : Nat → Int32) (w : Nat) (hw : w < 8) : AMet yX1_count cX1_count 2 (some .int) { frames := 3, cells := 0, slots := 0, locals := 64 } [.ref 0, .int (nI w)] (hM C T L) (some (.int (sGF C.2.2.2.2.2.2.2.2.2.2.2.2.1 C.2.2.2.2.2.2.2.2.2.2.2.2.2 C.1 C.2.2.2.1 C.2.2.2.2.2.2.2.2.2.1 C.2.2.2.2.2.2.2.2.2.2.1 C.2.2.2.2.2.2.2.2.2.2.2.1 w))) (hM C T L) := by
  refine AMet.of (by decide) rfl ?_
  intro G hR hE hI
  refine AW.blk (amX1_count _) 0 2 (h' := hM C T L) (pc' := 3) (lv' := [(0, .ref 0), (1, .int (nI w))]) (st' := [.int 8, .int (nI w)]) (L := []) rfl trivial ?_
  refine AW.callSp (amX1_count _) 2 (kX1_needFact (nI w) 8 (nI_pos (by omega)) (nI_lt (a := w) (b := 8) hw (by decide))) [] [] ykX1_needFact ysX1_needFact mlX1_93 rfl rfl rfl rfl hR ⟨Nat.le_of_ble_eq_true rfl, Nat.le_of_ble_eq_true rfl, Nat.le_of_ble_eq_true rfl, Nat.le_of_ble_eq_true rfl⟩ rfl rfl rfl rfl rfl (fun _ => rfl) (h1 := hM C T L) rfl (st' := []) rfl ?_
  refine AW.blk (amX1_count _) 3 3 (h' := hM C T L) (pc' := 11) (lv' := [(0, .ref 0), (1, .int (nI w))]) (st' := [.int (nI w), .ref 1]) (L := []) rfl trivial ?_
  refine AW.callVp (amX1_count _) 6 (kX0_cityFact C.1 C.2.1 C.2.2.1 C.2.2.2.1 C.2.2.2.2.1 C.2.2.2.2.2.1 C.2.2.2.2.2.2.1 C.2.2.2.2.2.2.2.1 C.2.2.2.2.2.2.2.2.1 C.2.2.2.2.2.2.2.2.2.1 C.2.2.2.2.2.2.2.2.2.2.1 C.2.2.2.2.2.2.2.2.2.2.2.1 C.2.2.2.2.2.2.2.2.2.2.2.2.1 C.2.2.2.2.2.2.2.2.2.2.2.2.2 w (by omega)) rfl rfl [1, 2, 3, 4, 5, 6, 7, 8, 9, 10, 11, 12, 13] [] ykX0_cityFact yiX0_cityFact yvX0_cityFact mlX1_102 rfl rfl rfl rfl hR ⟨Nat.le_of_ble_eq_true rfl, Nat.le_of_ble_eq_true rfl, Nat.le_of_ble_eq_true rfl, Nat.le_of_ble_eq_true rfl⟩ rfl rfl rfl rfl rfl (fun _ => rfl) (h1 := hM C T L) rfl (st' := [.int (sGF C.2.2.2.2.2.2.2.2.2.2.2.2.1 C.2.2.2.2.2.2.2.2.2.2.2.2.2 C.1 C.2.2.2.1 C.2.2.2.2.2.2.2.2.2.1 C.2.2.2.2.2.2.2.2.2.2.1 C.2.2.2.2.2.2.2.2.2.2.2.1 w)]) rfl ?_
  exact AW.iretE (amX1_count _) 7 hE rfl rfl (by first | rfl | exact narrow_b _ (by decide)) rfl rfl (rfl) rfl
set_option maxHeartbeats 2000000 in
theorem kX1_pass (C T : CS) (L : Nat → Int32) (t : Int32) (h1 : ¬ t < 1) (h2 : t ≤ 96) : AMet yX1_pass cX1_pass 2 (some .int) { frames := 5, cells := 0, slots := 0, locals := 116 } [.ref 0, .int t] (hM C T L) (some (.int (sLive t C).1)) (hM (sLive t C).2 T L) := by
  refine AMet.of (by decide) rfl ?_
  intro G hR hE hI
  refine AW.blk (amX1_pass _) 0 1 (h' := hM C T L) (pc' := 1) (lv' := [(0, .ref 0), (1, .int t)]) (st' := [.int t]) (L := []) rfl trivial ?_
  refine AW.callSp (amX1_pass _) 1 (kX1_needQuarters t h1 h2) [] [] ykX1_needQuarters ysX1_needQuarters mlX1_106 rfl rfl rfl rfl hR ⟨Nat.le_of_ble_eq_true rfl, Nat.le_of_ble_eq_true rfl, Nat.le_of_ble_eq_true rfl, Nat.le_of_ble_eq_true rfl⟩ rfl rfl rfl rfl rfl (fun _ => rfl) (h1 := hM C T L) rfl (st' := []) rfl ?_
  refine AW.blk (amX1_pass _) 2 3 (h' := hM C T L) (pc' := 9) (lv' := [(0, .ref 0), (1, .int t)]) (st' := [.int t, .ref 1]) (L := []) rfl trivial ?_
  refine AW.callVp (amX1_pass _) 5 (kX0_live C t) rfl rfl [1, 2, 3, 4, 5, 6, 7, 8, 9, 10, 11, 12, 13] [] ykX0_live yiX0_live yvX0_live mlX1_109 rfl rfl rfl rfl hR ⟨Nat.le_of_ble_eq_true rfl, Nat.le_of_ble_eq_true rfl, Nat.le_of_ble_eq_true rfl, Nat.le_of_ble_eq_true rfl⟩ rfl rfl rfl rfl rfl (fun _ => rfl) (h1 := hM ((sLive t C).2) T L) rfl (st' := [.int ((sLive t C).1)]) rfl ?_
  exact AW.iretE (amX1_pass _) 6 hE rfl rfl (by first | rfl | exact narrow_b _ (by decide)) rfl rfl (rfl) rfl
set_option maxHeartbeats 2000000 in
theorem kX1_mean (C T : CS) (L : Nat → Int32) (hn : vf_n64 (FP.ddiv (FP.i2d (sSum C.1 9)) 4621256167635550208)) : AMet yX1_mean cX1_mean 1 (some .double) { frames := 2, cells := 0, slots := 0, locals := 42 } [.ref 0] (hM C T L) (some (.double (FP.ddiv (FP.i2d (sSum C.1 9)) 4621256167635550208))) (hM C T L) := by
  refine AMet.of (by decide) rfl ?_
  intro G hR hE hI
  refine AW.blk (amX1_mean _) 0 2 (h' := hM C T L) (pc' := 4) (lv' := [(0, .ref 0)]) (st' := [.ref 1]) (L := []) rfl trivial ?_
  refine AW.callVp (amX1_mean _) 2 (kX0_allMud C.1 C.2.1 C.2.2.1 C.2.2.2.1 C.2.2.2.2.1 C.2.2.2.2.2.1 C.2.2.2.2.2.2.1 C.2.2.2.2.2.2.2.1 C.2.2.2.2.2.2.2.2.1 C.2.2.2.2.2.2.2.2.2.1 C.2.2.2.2.2.2.2.2.2.2.1 C.2.2.2.2.2.2.2.2.2.2.2.1 C.2.2.2.2.2.2.2.2.2.2.2.2.1 C.2.2.2.2.2.2.2.2.2.2.2.2.2) rfl rfl [1, 2, 3, 4, 5, 6, 7, 8, 9, 10, 11, 12, 13] [] ykX0_allMud yiX0_allMud yvX0_allMud mlX1_124 rfl rfl rfl rfl hR ⟨Nat.le_of_ble_eq_true rfl, Nat.le_of_ble_eq_true rfl, Nat.le_of_ble_eq_true rfl, Nat.le_of_ble_eq_true rfl⟩ rfl rfl rfl rfl rfl (fun _ => rfl) (h1 := hM C T L) rfl (st' := [.int (sSum C.1 9)]) rfl ?_
  refine AW.blk (amX1_mean _) 3 1 (h' := hM C T L) (pc' := 8) (lv' := [(0, .ref 0)]) (st' := [.double (FP.i2d (sSum C.1 9))]) (L := []) rfl trivial ?_
  refine AW.ldcD (amX1_mean _) 4 4621256167635550208 rfl kcX1_131 ?_
  refine AW.ddiv (amX1_mean _) 5 rfl hn ?_
  exact AW.dretE (amX1_mean _) 6 hE rfl rfl rfl rfl rfl rfl
end
section
/-! ===== ways, what would be, the checksum ===== -/
def sWy1 (mud : Nat → Int32) (c d : Nat) (L : Nat → Int32) : Nat → Int32 := if sCr (sNb (nI c) d) = 0 then L else if L (nI c).toNatClampNeg ≤ L (sNb (nI c) d).toNatClampNeg + mud (nI c).toNatClampNeg then L else upd L (nI c).toNatClampNeg (L (sNb (nI c) d).toNatClampNeg + mud (nI c).toNatClampNeg)
def sWyC (mud : Nat → Int32) (c : Nat) (L : Nat → Int32) : Nat → Int32 := lpN (sWy1 mud c) 4 0 L
def sShort (mud L : Nat → Int32) : Nat → Int32 := lpN (sWyC mud) 9 0 L
set_option maxHeartbeats 2000000 in
theorem kX1_shortenWays (C T : CS) (L : Nat → Int32) : AMet yX1_shortenWays cX1_shortenWays 4 none { frames := 1, cells := 0, slots := 0, locals := 21 } [.ref 0] (hM C T L) none (hM C T (sShort C.1 L)) := by
  refine AMet.of (by decide) rfl ?_
  intro G hR hE hI
  have E : ∀ (a : Nat → Int32), a = sShort C.1 L → AW G (yX1_shortenWays.cls, cX1_shortenWays, 4, 28) (hM C T a) 0 0 87 [(0, .ref 0)] [] := by
    intro a hf
    exact AW.vretE (amX1_shortenWays _) 50 hE rfl rfl rfl rfl (by rw [← hf])
  have KI : ∀ (c : Nat) (F1 : Nat → Int32), c < 9 → (AW G (yX1_shortenWays.cls, cX1_shortenWays, 4, 28) (hM C T F1) 0 0 81 [(1, .int (nI c)), (0, .ref 0)] []) → ∀ (b : Nat → Int32), sWyC C.1 c b = F1 → AW G (yX1_shortenWays.cls, cX1_shortenWays, 4, 28) (hM C T b) 0 0 8 [(1, .int (nI c)), (0, .ref 0)] [] := by
    intro c F1 hc9 E81 b0 hb0
    have EI : ∀ (b : Nat → Int32), b = F1 → AW G (yX1_shortenWays.cls, cX1_shortenWays, 4, 28) (hM C T b) 0 0 81 [(1, .int (nI c)), (0, .ref 0)] [] := fun b hb => by rw [hb]; exact E81
    have K : ∀ (k i : Nat) (b : Nat → Int32), i + k = 4 → lpN (sWy1 C.1 c) k i b = F1 → AW G (yX1_shortenWays.cls, cX1_shortenWays, 4, 28) (hM C T b) 0 0 10 [(2, .int (nI i)), (1, .int (nI c)), (0, .ref 0)] [] := by
      intro k
      induction k with
      | zero =>
        intro i b hi hf
        refine AW.blk (amX1_shortenWays _) 7 2 (h' := hM C T b) (pc' := 12) (lv' := [(2, .int (nI i)), (1, .int (nI c)), (0, .ref 0)]) (st' := [.int 4, .int (nI i)]) (L := []) rfl trivial ?_
        refine AW.br (amX1_shortenWays _) 9 (tgt := 81) (C := 4 ≤ (nI i)) (C' := ¬ 4 ≤ (nI i)) (st' := []) rfl rfl rfl (fun c1 => ?_) (fun c1 => absurd (nI_le (a := 4) (b := i) (by omega) (by omega)) c1)
        refine AW.pick [1, 2] (lv' := [(1, .int (nI c)), (0, .ref 0)]) rfl ?_
        exact EI _ hf
      | succ k ih =>
        intro i b hi hf
        refine AW.blk (amX1_shortenWays _) 7 2 (h' := hM C T b) (pc' := 12) (lv' := [(2, .int (nI i)), (1, .int (nI c)), (0, .ref 0)]) (st' := [.int 4, .int (nI i)]) (L := []) rfl trivial ?_
        refine AW.br (amX1_shortenWays _) 9 (tgt := 81) (C := 4 ≤ (nI i)) (C' := ¬ 4 ≤ (nI i)) (st' := []) rfl rfl rfl (fun c1 => absurd c1 (nI_ge (a := i) (b := 4) (by omega) (by decide))) (fun c1 => ?_)
        refine AW.blk (amX1_shortenWays _) 10 2 (h' := hM C T b) (pc' := 17) (lv' := [(2, .int (nI i)), (1, .int (nI c)), (0, .ref 0)]) (st' := [.int (nI i), .int (nI c)]) (L := []) rfl trivial ?_
        refine AW.callSp (amX1_shortenWays _) 12 (kX1_neighbour (nI c) i (by omega)) [] [] ykX1_neighbour ysX1_neighbour mlX1_152 rfl rfl rfl rfl hR ⟨Nat.le_of_ble_eq_true rfl, Nat.le_of_ble_eq_true rfl, Nat.le_of_ble_eq_true rfl, Nat.le_of_ble_eq_true rfl⟩ rfl rfl rfl rfl rfl (fun _ => rfl) (h1 := hM C T b) rfl (st' := [.int (sNb (nI c) i)]) rfl ?_
        refine AW.blk (amX1_shortenWays _) 13 2 (h' := hM C T b) (pc' := 22) (lv' := [(3, .int (sNb (nI c) i)), (2, .int (nI i)), (1, .int (nI c)), (0, .ref 0)]) (st' := [.int (sNb (nI c) i)]) (L := []) rfl trivial ?_
        refine AW.callSp (amX1_shortenWays _) 15 (kX1_isCrossing (sNb (nI c) i)) [] [] ykX1_isCrossing ysX1_isCrossing mlX1_137 rfl rfl rfl rfl hR ⟨Nat.le_of_ble_eq_true rfl, Nat.le_of_ble_eq_true rfl, Nat.le_of_ble_eq_true rfl, Nat.le_of_ble_eq_true rfl⟩ rfl rfl rfl rfl rfl (fun _ => rfl) (h1 := hM C T b) rfl (st' := [.int (sCr (sNb (nI c) i))]) rfl ?_
        refine AW.br (amX1_shortenWays _) 16 (tgt := 75) (C := (sCr (sNb (nI c) i)) = 0) (C' := ¬ (sCr (sNb (nI c) i)) = 0) (st' := []) rfl rfl rfl (fun c2 => ?_) (fun c2 => ?_)
        · refine AW.blk (amX1_shortenWays _) 46 2 (h' := hM C T b) (pc' := 10) (lv' := [(2, .int ((nI i) + 1)), (3, .int (sNb (nI c) i)), (1, .int (nI c)), (0, .ref 0)]) (st' := []) (L := []) rfl trivial ?_
          refine AW.pick [0, 2, 3] (lv' := [(2, .int ((nI i) + 1)), (1, .int (nI c)), (0, .ref 0)]) rfl ?_
          rw [nI_1 i]
          exact ih (i + 1) _ (by omega) (by rw [← hf]; simp only [lpN, sWy1, if_neg c1, if_pos c2])
        · refine AW.blk (amX1_shortenWays _) 17 14 (h' := hM C T b) (pc' := 50) (lv' := [(3, .int (sNb (nI c) i)), (2, .int (nI i)), (1, .int (nI c)), (0, .ref 0)]) (st' := [.int (b (nI c).toNatClampNeg), .int ((b (sNb (nI c) i).toNatClampNeg) + (C.1 (nI c).toNatClampNeg))]) (L := [vp_in (sNb (nI c) i) 9, vp_in (nI c) 9, vp_in (nI c) 9]) rfl ⟨(sCr_in c2), (vpi (by omega) rfl), (vpi (by omega) rfl)⟩ ?_
          refine AW.br (amX1_shortenWays _) 31 (tgt := 75) (C := (b (nI c).toNatClampNeg) ≤ ((b (sNb (nI c) i).toNatClampNeg) + (C.1 (nI c).toNatClampNeg))) (C' := ¬ (b (nI c).toNatClampNeg) ≤ ((b (sNb (nI c) i).toNatClampNeg) + (C.1 (nI c).toNatClampNeg))) (st' := []) rfl rfl rfl (fun c3 => ?_) (fun c3 => ?_)
          · refine AW.blk (amX1_shortenWays _) 46 2 (h' := hM C T b) (pc' := 10) (lv' := [(2, .int ((nI i) + 1)), (3, .int (sNb (nI c) i)), (1, .int (nI c)), (0, .ref 0)]) (st' := []) (L := []) rfl trivial ?_
            refine AW.pick [0, 2, 3] (lv' := [(2, .int ((nI i) + 1)), (1, .int (nI c)), (0, .ref 0)]) rfl ?_
            rw [nI_1 i]
            exact ih (i + 1) _ (by omega) (by rw [← hf]; simp only [lpN, sWy1, if_neg c1, if_neg c2, if_pos c3])
          · refine AW.blk (amX1_shortenWays _) 32 16 (h' := hM C T (upd b (nI c).toNatClampNeg ((b (sNb (nI c) i).toNatClampNeg) + (C.1 (nI c).toNatClampNeg)))) (pc' := 10) (lv' := [(2, .int ((nI i) + 1)), (3, .int (sNb (nI c) i)), (1, .int (nI c)), (0, .ref 0)]) (st' := []) (L := [vp_in (sNb (nI c) i) 9, vp_in (nI c) 9, vp_in (nI c) 9]) rfl ⟨(sCr_in c2), (vpi (by omega) rfl), (vpi (by omega) rfl)⟩ ?_
            refine AW.pick [0, 2, 3] (lv' := [(2, .int ((nI i) + 1)), (1, .int (nI c)), (0, .ref 0)]) rfl ?_
            rw [nI_1 i]
            exact ih (i + 1) _ (by omega) (by rw [← hf]; simp only [lpN, sWy1, if_neg c1, if_neg c2, if_neg c3])
    refine AW.blk (amX1_shortenWays _) 5 2 (h' := hM C T b0) (pc' := 10) (lv' := [(2, .int 0), (1, .int (nI c)), (0, .ref 0)]) (st' := []) (L := []) rfl trivial ?_
    exact K 4 0 b0 rfl hb0
  have KO : ∀ (k i : Nat) (a : Nat → Int32), i + k = 9 → lpN (sWyC C.1) k i a = sShort C.1 L → AW G (yX1_shortenWays.cls, cX1_shortenWays, 4, 28) (hM C T a) 0 0 2 [(1, .int (nI i)), (0, .ref 0)] [] := by
    intro k
    induction k with
    | zero =>
      intro i a hi hf
      refine AW.blk (amX1_shortenWays _) 2 2 (h' := hM C T a) (pc' := 5) (lv' := [(1, .int (nI i)), (0, .ref 0)]) (st' := [.int 9, .int (nI i)]) (L := []) rfl trivial ?_
      refine AW.br (amX1_shortenWays _) 4 (tgt := 87) (C := 9 ≤ (nI i)) (C' := ¬ 9 ≤ (nI i)) (st' := []) rfl rfl rfl (fun c1 => ?_) (fun c1 => absurd (nI_le (a := 9) (b := i) (by omega) (by omega)) c1)
      refine AW.pick [1] (lv' := [(0, .ref 0)]) rfl ?_
      exact E _ hf
    | succ k ih =>
      intro i a hi hf
      refine AW.blk (amX1_shortenWays _) 2 2 (h' := hM C T a) (pc' := 5) (lv' := [(1, .int (nI i)), (0, .ref 0)]) (st' := [.int 9, .int (nI i)]) (L := []) rfl trivial ?_
      refine AW.br (amX1_shortenWays _) 4 (tgt := 87) (C := 9 ≤ (nI i)) (C' := ¬ 9 ≤ (nI i)) (st' := []) rfl rfl rfl (fun c1 => absurd c1 (nI_ge (a := i) (b := 9) (by omega) (by decide))) (fun c1 => ?_)
      refine KI i _ (by omega) ?_ a rfl
      refine AW.blk (amX1_shortenWays _) 48 2 (h' := hM C T (sWyC C.1 i a)) (pc' := 2) (lv' := [(1, .int ((nI i) + 1)), (0, .ref 0)]) (st' := []) (L := []) rfl trivial ?_
      rw [nI_1 i]
      exact ih (i + 1) _ (by omega) (by rw [← hf]; simp only [lpN])
  refine AW.blk (amX1_shortenWays _) 0 2 (h' := hM C T L) (pc' := 2) (lv' := [(1, .int 0), (0, .ref 0)]) (st' := []) (L := []) rfl trivial ?_
  exact KO 9 0 L rfl rfl
def sW0 (i : Nat) (L : Nat → Int32) : Nat → Int32 := upd L (nI i).toNatClampNeg 1000000
def sWay0 (a : Int32) (mud L : Nat → Int32) : Nat → Int32 := upd (lpN sW0 9 0 L) a.toNatClampNeg (mud a.toNatClampNeg)
def sWayR (mud : Nat → Int32) (_ : Nat) (L : Nat → Int32) : Nat → Int32 := sShort mud L
def sWay (a : Int32) (mud L : Nat → Int32) : Nat → Int32 := lpN (sWayR mud) 8 1 (sWay0 a mud L)
set_option maxHeartbeats 2000000 in
theorem kX1_way (C T : CS) (L : Nat → Int32) (a b : Int32) (ha : ¬ sCr a = 0) (hb : ¬ sCr b = 0) : AMet yX1_way cX1_way 4 (some .int) { frames := 2, cells := 0, slots := 0, locals := 60 } [.ref 0, .int a, .int b] (hM C T L) (some (.int (sWay a C.1 L b.toNatClampNeg))) (hM C T (sWay a C.1 L)) := by
  refine AMet.of (by decide) rfl ?_
  intro G hR hE hI
  have E : ∀ (z : Nat → Int32), z = sWay a C.1 L → AW G (yX1_way.cls, cX1_way, 4, 28) (hM C T z) 0 0 63 [(2, .int b), (0, .ref 0)] [] := by
    intro z hf
    refine AW.blk (amX1_way _) 34 4 (h' := hM C T z) (pc' := 69) (lv' := [(2, .int b), (0, .ref 0)]) (st' := [.int (z b.toNatClampNeg)]) (L := [vp_in b 9]) rfl (sCr_in hb) ?_
    exact AW.iretE (amX1_way _) 38 hE rfl rfl (by first | rfl | exact narrow_b _ (by decide)) rfl rfl (by rw [← hf]) (by first | rfl | (rw [← hf]))
  have K2 : ∀ (k i : Nat) (z : Nat → Int32), i + k = 9 → lpN (sWayR C.1) k i z = sWay a C.1 L → AW G (yX1_way.cls, cX1_way, 4, 28) (hM C T z) 0 0 47 [(3, .int (nI i)), (2, .int b), (0, .ref 0)] [] := by
    intro k
    induction k with
    | zero =>
      intro i z hi hf
      refine AW.blk (amX1_way _) 27 2 (h' := hM C T z) (pc' := 50) (lv' := [(3, .int (nI i)), (2, .int b), (0, .ref 0)]) (st' := [.int 9, .int (nI i)]) (L := []) rfl trivial ?_
      refine AW.br (amX1_way _) 29 (tgt := 63) (C := 9 ≤ (nI i)) (C' := ¬ 9 ≤ (nI i)) (st' := []) rfl rfl rfl (fun c1 => ?_) (fun c1 => absurd (nI_le (a := 9) (b := i) (by omega) (by omega)) c1)
      refine AW.pick [1, 2] (lv' := [(2, .int b), (0, .ref 0)]) rfl ?_
      exact E _ hf
    | succ k ih =>
      intro i z hi hf
      refine AW.blk (amX1_way _) 27 2 (h' := hM C T z) (pc' := 50) (lv' := [(3, .int (nI i)), (2, .int b), (0, .ref 0)]) (st' := [.int 9, .int (nI i)]) (L := []) rfl trivial ?_
      refine AW.br (amX1_way _) 29 (tgt := 63) (C := 9 ≤ (nI i)) (C' := ¬ 9 ≤ (nI i)) (st' := []) rfl rfl rfl (fun c1 => absurd c1 (nI_ge (a := i) (b := 9) (by omega) (by decide))) (fun c1 => ?_)
      refine AW.blk (amX1_way _) 30 1 (h' := hM C T z) (pc' := 54) (lv' := [(3, .int (nI i)), (2, .int b), (0, .ref 0)]) (st' := [.ref 0]) (L := []) rfl trivial ?_
      refine AW.callVp (amX1_way _) 31 (kX1_shortenWays C T z) rfl rfl [0, 1, 2, 3, 4, 5, 6, 7, 8, 9, 10, 11, 12, 13, 14, 15, 16, 17, 18, 19, 20, 21, 22, 23, 24, 25, 26, 27] [] ykX1_shortenWays yiX1_shortenWays yvX1_shortenWays mlX1_113 rfl rfl rfl rfl hR ⟨Nat.le_of_ble_eq_true rfl, Nat.le_of_ble_eq_true rfl, Nat.le_of_ble_eq_true rfl, Nat.le_of_ble_eq_true rfl⟩ rfl rfl rfl rfl rfl (fun _ => rfl) (h1 := hM C T (sShort C.1 z)) rfl (st' := []) rfl ?_
      refine AW.blk (amX1_way _) 32 2 (h' := hM C T (sShort C.1 z)) (pc' := 47) (lv' := [(3, .int ((nI i) + 1)), (2, .int b), (0, .ref 0)]) (st' := []) (L := []) rfl trivial ?_
      rw [nI_1 i]
      exact ih (i + 1) _ (by omega) (by rw [← hf]; simp only [lpN, sWayR, if_neg c1])
  have E1 : ∀ (z : Nat → Int32), z = lpN sW0 9 0 L → AW G (yX1_way.cls, cX1_way, 4, 28) (hM C T z) 0 0 30 [(1, .int a), (2, .int b), (0, .ref 0)] [] := by
    intro z hf
    refine AW.blk (amX1_way _) 16 11 (h' := hM C T (upd z a.toNatClampNeg (C.1 a.toNatClampNeg))) (pc' := 47) (lv' := [(3, .int 1), (1, .int a), (2, .int b), (0, .ref 0)]) (st' := []) (L := [vp_in a 9, vp_in a 9]) rfl ⟨(sCr_in ha), (sCr_in ha)⟩ ?_
    refine AW.pick [0, 2, 3] (lv' := [(3, .int 1), (2, .int b), (0, .ref 0)]) rfl ?_
    exact K2 8 1 _ rfl (by rw [hf]; rfl)
  have K1 : ∀ (k i : Nat) (z : Nat → Int32), i + k = 9 → lpN sW0 k i z = lpN sW0 9 0 L → AW G (yX1_way.cls, cX1_way, 4, 28) (hM C T z) 0 0 10 [(3, .int (nI i)), (1, .int a), (2, .int b), (0, .ref 0)] [] := by
    intro k
    induction k with
    | zero =>
      intro i z hi hf
      refine AW.blk (amX1_way _) 6 2 (h' := hM C T z) (pc' := 13) (lv' := [(3, .int (nI i)), (1, .int a), (2, .int b), (0, .ref 0)]) (st' := [.int 9, .int (nI i)]) (L := []) rfl trivial ?_
      refine AW.br (amX1_way _) 8 (tgt := 30) (C := 9 ≤ (nI i)) (C' := ¬ 9 ≤ (nI i)) (st' := []) rfl rfl rfl (fun c1 => ?_) (fun c1 => absurd (nI_le (a := 9) (b := i) (by omega) (by omega)) c1)
      refine AW.pick [1, 2, 3] (lv' := [(1, .int a), (2, .int b), (0, .ref 0)]) rfl ?_
      exact E1 _ hf
    | succ k ih =>
      intro i z hi hf
      refine AW.blk (amX1_way _) 6 2 (h' := hM C T z) (pc' := 13) (lv' := [(3, .int (nI i)), (1, .int a), (2, .int b), (0, .ref 0)]) (st' := [.int 9, .int (nI i)]) (L := []) rfl trivial ?_
      refine AW.br (amX1_way _) 8 (tgt := 30) (C := 9 ≤ (nI i)) (C' := ¬ 9 ≤ (nI i)) (st' := []) rfl rfl rfl (fun c1 => absurd c1 (nI_ge (a := i) (b := 9) (by omega) (by decide))) (fun c1 => ?_)
      refine AW.blk (amX1_way _) 9 3 (h' := hM C T z) (pc' := 21) (lv' := [(3, .int (nI i)), (1, .int a), (2, .int b), (0, .ref 0)]) (st' := [.int (nI i), .ref 27]) (L := []) rfl trivial ?_
      refine AW.ldcI (amX1_way _) 12 1000000 rfl kcX1_112 ?_
      refine AW.blk (amX1_way _) 13 3 (h' := hM C T (upd z (nI i).toNatClampNeg 1000000)) (pc' := 10) (lv' := [(3, .int ((nI i) + 1)), (1, .int a), (2, .int b), (0, .ref 0)]) (st' := []) (L := [vp_in (nI i) 9]) rfl (vpi (by omega) rfl) ?_
      rw [nI_1 i]
      exact ih (i + 1) _ (by omega) (by rw [← hf]; simp only [lpN, sW0, if_neg c1])
  refine AW.blk (amX1_way _) 0 1 (h' := hM C T L) (pc' := 1) (lv' := [(0, .ref 0), (1, .int a), (2, .int b)]) (st' := [.int a]) (L := []) rfl trivial ?_
  refine AW.callSp (amX1_way _) 1 (kX1_needCrossing a ha) [] [] ykX1_needCrossing ysX1_needCrossing mlX1_23 rfl rfl rfl rfl hR ⟨Nat.le_of_ble_eq_true rfl, Nat.le_of_ble_eq_true rfl, Nat.le_of_ble_eq_true rfl, Nat.le_of_ble_eq_true rfl⟩ rfl rfl rfl rfl rfl (fun _ => rfl) (h1 := hM C T L) rfl (st' := []) rfl ?_
  refine AW.blk (amX1_way _) 2 1 (h' := hM C T L) (pc' := 5) (lv' := [(0, .ref 0), (1, .int a), (2, .int b)]) (st' := [.int b]) (L := []) rfl trivial ?_
  refine AW.callSp (amX1_way _) 3 (kX1_needCrossing b hb) [] [] ykX1_needCrossing ysX1_needCrossing mlX1_23 rfl rfl rfl rfl hR ⟨Nat.le_of_ble_eq_true rfl, Nat.le_of_ble_eq_true rfl, Nat.le_of_ble_eq_true rfl, Nat.le_of_ble_eq_true rfl⟩ rfl rfl rfl rfl rfl (fun _ => rfl) (h1 := hM C T L) rfl (st' := []) rfl ?_
  refine AW.blk (amX1_way _) 4 2 (h' := hM C T L) (pc' := 10) (lv' := [(3, .int 0), (0, .ref 0), (1, .int a), (2, .int b)]) (st' := []) (L := []) rfl trivial ?_
  refine AW.pick [0, 2, 3, 1] (lv' := [(3, .int 0), (1, .int a), (2, .int b), (0, .ref 0)]) rfl ?_
  exact K1 9 0 L rfl rfl
def cMove (s c : Int32) (C : CS) : CS := (C.1, C.2.1, C.2.2.1, sMoH s C.2.2.2.2.2.2.2.2.2.2.2.2.1 C.2.2.2.2.2.2.1 C.2.2.2.1, C.2.2.2.2.1, C.2.2.2.2.2.1, sMoP s c C.2.2.2.2.2.2.2.2.2.2.2.2.1 C.2.2.2.2.2.2.1, C.2.2.2.2.2.2.2)
def sEaC (s c : Int32) (C : CS) : CS := if sCr c = 0 then C else cMove s c C
def sEa (s c t : Int32) (C : CS) : Int32 × CS := ((sLive t (sEaC s c C)).2.2.2.2.2.2.2.2.2.2.1 s.toNatClampNeg - (sEaC s c C).2.2.2.2.2.2.2.2.2.1 s.toNatClampNeg, (sLive t (sEaC s c C)).2)
set_option maxHeartbeats 2000000 in
theorem kX1_earned (C T : CS) (L : Nat → Int32) (s c t : Int32) (hs : ¬ sSw s C.2.2.2.2.2.2.2.2.2.2.2.2.1 = 0) : AMet yX1_earned cX1_earned 5 (some .int) { frames := 5, cells := 0, slots := 0, locals := 116 } [.ref 0, .int s, .int c, .int t] (hM C T L) (some (.int (sEa s c t C).1)) (hM C (sEa s c t C).2 L) := by
  refine AMet.of (by decide) rfl ?_
  intro G hR hE hI
  have J : ∀ (D : CS), D = sEaC s c C → AW G (yX1_earned.cls, cX1_earned, 5, 28) (hM C D L) 0 0 40 [(3, .int t), (1, .int s), (0, .ref 0)] [] := by
    intro D hD
    refine AW.blk (amX1_earned _) 20 9 (h' := hM C D L) (pc' := 56) (lv' := [(4, .int (D.2.2.2.2.2.2.2.2.2.1 s.toNatClampNeg)), (3, .int t), (1, .int s), (0, .ref 0)]) (st' := [.int t, .ref 14]) (L := [vp_in s 8]) rfl (sSw_in hs) ?_
    refine AW.callVp (amX1_earned _) 29 (kX0_live D t) rfl rfl [14, 15, 16, 17, 18, 19, 20, 21, 22, 23, 24, 25, 26] [] ykX0_live yiX0_live yvX0_live mlX1_109 rfl rfl rfl rfl hR ⟨Nat.le_of_ble_eq_true rfl, Nat.le_of_ble_eq_true rfl, Nat.le_of_ble_eq_true rfl, Nat.le_of_ble_eq_true rfl⟩ rfl rfl rfl rfl rfl (fun _ => rfl) (h1 := hM C ((sLive t D).2) L) rfl (st' := [.int ((sLive t D).1)]) rfl ?_
    refine AW.blk (amX1_earned _) 30 8 (h' := hM C ((sLive t D).2) L) (pc' := 72) (lv' := [(4, .int (D.2.2.2.2.2.2.2.2.2.1 s.toNatClampNeg)), (3, .int t), (1, .int s), (0, .ref 0)]) (st' := [.int ((((sLive t D).2.2.2.2.2.2.2.2.2.2.1) s.toNatClampNeg) - (D.2.2.2.2.2.2.2.2.2.1 s.toNatClampNeg))]) (L := [vp_in s 8]) rfl (sSw_in hs) ?_
    exact AW.iretE (amX1_earned _) 38 hE rfl rfl rfl rfl rfl (by rw [hD]; rfl) (by rw [hD]; rfl)
  refine AW.blk (amX1_earned _) 0 3 (h' := hM C T L) (pc' := 5) (lv' := [(0, .ref 0), (1, .int s), (2, .int c), (3, .int t)]) (st' := [.int s, .ref 1]) (L := []) rfl trivial ?_
  refine AW.callVp (amX1_earned _) 3 (kX0_isSweeper C.1 C.2.1 C.2.2.1 C.2.2.2.1 C.2.2.2.2.1 C.2.2.2.2.2.1 C.2.2.2.2.2.2.1 C.2.2.2.2.2.2.2.1 C.2.2.2.2.2.2.2.2.1 C.2.2.2.2.2.2.2.2.2.1 C.2.2.2.2.2.2.2.2.2.2.1 C.2.2.2.2.2.2.2.2.2.2.2.1 C.2.2.2.2.2.2.2.2.2.2.2.2.1 C.2.2.2.2.2.2.2.2.2.2.2.2.2 s) rfl rfl [1, 2, 3, 4, 5, 6, 7, 8, 9, 10, 11, 12, 13] [] ykX0_isSweeper yiX0_isSweeper yvX0_isSweeper mlX1_143 rfl rfl rfl rfl hR ⟨Nat.le_of_ble_eq_true rfl, Nat.le_of_ble_eq_true rfl, Nat.le_of_ble_eq_true rfl, Nat.le_of_ble_eq_true rfl⟩ rfl rfl rfl rfl rfl (fun _ => rfl) (h1 := hM C T L) rfl (st' := [.int (sSw s C.2.2.2.2.2.2.2.2.2.2.2.2.1)]) rfl ?_
  refine AW.br (amX1_earned _) 4 (tgt := 13) (C := ¬ (sSw s C.2.2.2.2.2.2.2.2.2.2.2.2.1) = 0) (C' := (sSw s C.2.2.2.2.2.2.2.2.2.2.2.2.1) = 0) (st' := []) rfl rfl rfl (fun c1 => ?_) (fun c1 => absurd c1 hs)
  refine AW.blk (amX1_earned _) 7 4 (h' := hM C T L) (pc' := 21) (lv' := [(0, .ref 0), (1, .int s), (2, .int c), (3, .int t)]) (st' := [.ref 1, .ref 14]) (L := []) rfl trivial ?_
  refine AW.callVp (amX1_earned _) 11 (kX0_copyFrom T C) rfl rfl [14, 15, 16, 17, 18, 19, 20, 21, 22, 23, 24, 25, 26, 1, 2, 3, 4, 5, 6, 7, 8, 9, 10, 11, 12, 13] [] ykX0_copyFrom yiX0_copyFrom yvX0_copyFrom mlX1_120 rfl rfl rfl rfl hR ⟨Nat.le_of_ble_eq_true rfl, Nat.le_of_ble_eq_true rfl, Nat.le_of_ble_eq_true rfl, Nat.le_of_ble_eq_true rfl⟩ rfl rfl rfl rfl rfl (fun _ => rfl) (h1 := hM C C L) rfl (st' := []) rfl ?_
  refine AW.blk (amX1_earned _) 12 1 (h' := hM C C L) (pc' := 25) (lv' := [(0, .ref 0), (1, .int s), (2, .int c), (3, .int t)]) (st' := [.int c]) (L := []) rfl trivial ?_
  refine AW.callSp (amX1_earned _) 13 (kX1_isCrossing c) [] [] ykX1_isCrossing ysX1_isCrossing mlX1_137 rfl rfl rfl rfl hR ⟨Nat.le_of_ble_eq_true rfl, Nat.le_of_ble_eq_true rfl, Nat.le_of_ble_eq_true rfl, Nat.le_of_ble_eq_true rfl⟩ rfl rfl rfl rfl rfl (fun _ => rfl) (h1 := hM C C L) rfl (st' := [.int (sCr c)]) rfl ?_
  refine AW.br (amX1_earned _) 14 (tgt := 40) (C := (sCr c) = 0) (C' := ¬ (sCr c) = 0) (st' := []) rfl rfl rfl (fun c2 => ?_) (fun c2 => ?_)
  · refine AW.pick [3, 1, 0] (lv' := [(3, .int t), (1, .int s), (0, .ref 0)]) rfl ?_
    exact J _ (by rw [sEaC, if_pos c2])
  · refine AW.blk (amX1_earned _) 15 4 (h' := hM C C L) (pc' := 37) (lv' := [(0, .ref 0), (1, .int s), (2, .int c), (3, .int t)]) (st' := [.int c, .int s, .ref 14]) (L := []) rfl trivial ?_
    refine AW.callVp (amX1_earned _) 19 (kX0_moveTo C.1 C.2.1 C.2.2.1 C.2.2.2.1 C.2.2.2.2.1 C.2.2.2.2.2.1 C.2.2.2.2.2.2.1 C.2.2.2.2.2.2.2.1 C.2.2.2.2.2.2.2.2.1 C.2.2.2.2.2.2.2.2.2.1 C.2.2.2.2.2.2.2.2.2.2.1 C.2.2.2.2.2.2.2.2.2.2.2.1 C.2.2.2.2.2.2.2.2.2.2.2.2.1 C.2.2.2.2.2.2.2.2.2.2.2.2.2 s c) rfl rfl [14, 15, 16, 17, 18, 19, 20, 21, 22, 23, 24, 25, 26] [] ykX0_moveTo yiX0_moveTo yvX0_moveTo mlX1_82 rfl rfl rfl rfl hR ⟨Nat.le_of_ble_eq_true rfl, Nat.le_of_ble_eq_true rfl, Nat.le_of_ble_eq_true rfl, Nat.le_of_ble_eq_true rfl⟩ rfl rfl rfl rfl rfl (fun _ => rfl) (h1 := hM C (C.1, C.2.1, C.2.2.1, sMoH s C.2.2.2.2.2.2.2.2.2.2.2.2.1 C.2.2.2.2.2.2.1 C.2.2.2.1, C.2.2.2.2.1, C.2.2.2.2.2.1, sMoP s c C.2.2.2.2.2.2.2.2.2.2.2.2.1 C.2.2.2.2.2.2.1, C.2.2.2.2.2.2.2.1, C.2.2.2.2.2.2.2.2.1, C.2.2.2.2.2.2.2.2.2.1, C.2.2.2.2.2.2.2.2.2.2.1, C.2.2.2.2.2.2.2.2.2.2.2.1, C.2.2.2.2.2.2.2.2.2.2.2.2.1, C.2.2.2.2.2.2.2.2.2.2.2.2.2) L) rfl (st' := []) rfl ?_
    refine AW.pick [3, 1, 0] (lv' := [(3, .int t), (1, .int s), (0, .ref 0)]) rfl ?_
    exact J _ (by rw [sEaC, if_neg c2]; rfl)
set_option maxHeartbeats 2000000 in
theorem kX1_earns (C T : CS) (L : Nat → Int32) (s t : Int32) (hs : ¬ sSw s C.2.2.2.2.2.2.2.2.2.2.2.2.1 = 0) (h1 : ¬ t < 1) (h2 : t ≤ 96) : AMet yX1_earns cX1_earns 3 (some .int) { frames := 6, cells := 0, slots := 0, locals := 140 } [.ref 0, .int s, .int t] (hM C T L) (some (.int (sEa s (-1) t C).1)) (hM C (sEa s (-1) t C).2 L) := by
  refine AMet.of (by decide) rfl ?_
  intro G hR hE hI
  refine AW.blk (amX1_earns _) 0 2 (h' := hM C T L) (pc' := 2) (lv' := [(0, .ref 0), (1, .int s), (2, .int t)]) (st' := [.int s, .ref 0]) (L := []) rfl trivial ?_
  refine AW.callVp (amX1_earns _) 2 (kX1_needSweeper C T L s hs) rfl rfl [0, 1, 2, 3, 4, 5, 6, 7, 8, 9, 10, 11, 12, 13, 14, 15, 16, 17, 18, 19, 20, 21, 22, 23, 24, 25, 26, 27] [] ykX1_needSweeper yiX1_needSweeper yvX1_needSweeper mlX1_76 rfl rfl rfl rfl hR ⟨Nat.le_of_ble_eq_true rfl, Nat.le_of_ble_eq_true rfl, Nat.le_of_ble_eq_true rfl, Nat.le_of_ble_eq_true rfl⟩ rfl rfl rfl rfl rfl (fun _ => rfl) (h1 := hM C T L) rfl (st' := []) rfl ?_
  refine AW.blk (amX1_earns _) 3 1 (h' := hM C T L) (pc' := 6) (lv' := [(0, .ref 0), (1, .int s), (2, .int t)]) (st' := [.int t]) (L := []) rfl trivial ?_
  refine AW.callSp (amX1_earns _) 4 (kX1_needQuarters t h1 h2) [] [] ykX1_needQuarters ysX1_needQuarters mlX1_106 rfl rfl rfl rfl hR ⟨Nat.le_of_ble_eq_true rfl, Nat.le_of_ble_eq_true rfl, Nat.le_of_ble_eq_true rfl, Nat.le_of_ble_eq_true rfl⟩ rfl rfl rfl rfl rfl (fun _ => rfl) (h1 := hM C T L) rfl (st' := []) rfl ?_
  refine AW.blk (amX1_earns _) 5 4 (h' := hM C T L) (pc' := 13) (lv' := [(0, .ref 0), (1, .int s), (2, .int t)]) (st' := [.int t, .int ((-1)), .int s, .ref 0]) (L := []) rfl trivial ?_
  refine AW.callVp (amX1_earns _) 9 (kX1_earned C T L s (-1) t hs) rfl rfl [0, 1, 2, 3, 4, 5, 6, 7, 8, 9, 10, 11, 12, 13, 14, 15, 16, 17, 18, 19, 20, 21, 22, 23, 24, 25, 26, 27] [] ykX1_earned yiX1_earned yvX1_earned mlX1_116 rfl rfl rfl rfl hR ⟨Nat.le_of_ble_eq_true rfl, Nat.le_of_ble_eq_true rfl, Nat.le_of_ble_eq_true rfl, Nat.le_of_ble_eq_true rfl⟩ rfl rfl rfl rfl rfl (fun _ => rfl) (h1 := hM C ((sEa s (-1) t C).2) L) rfl (st' := [.int ((sEa s (-1) t C).1)]) rfl ?_
  exact AW.iretE (amX1_earns _) 10 hE rfl rfl (by first | rfl | exact narrow_b _ (by decide)) rfl rfl (rfl) rfl
def sAd1 (s t : Int32) (C : CS) (i : Nat) (a : Int32 × Int32 × CS) : Int32 × Int32 × CS := if (sEa s (nI i) t C).1 ≤ a.2.1 then (a.1, a.2.1, (sEa s (nI i) t C).2) else (nI i, (sEa s (nI i) t C).1, (sEa s (nI i) t C).2)
def sAdv (s t : Int32) (C : CS) : Int32 × Int32 × CS := lpN (sAd1 s t C) 9 0 (-1, (sEa s (-1) t C).1, (sEa s (-1) t C).2)
set_option maxHeartbeats 2000000 in
theorem kX1_advise (C T : CS) (L : Nat → Int32) (s t : Int32) (hs : ¬ sSw s C.2.2.2.2.2.2.2.2.2.2.2.2.1 = 0) (h1 : ¬ t < 1) (h2 : t ≤ 96) : AMet yX1_advise cX1_advise 7 (some .int) { frames := 6, cells := 0, slots := 0, locals := 140 } [.ref 0, .int s, .int t] (hM C T L) (some (.int (sAdv s t C).1)) (hM C (sAdv s t C).2.2 L) := by
  refine AMet.of (by decide) rfl ?_
  intro G hR hE hI
  have E : ∀ (b m : Int32) (D : CS), (b, m, D) = sAdv s t C → AW G (yX1_advise.cls, cX1_advise, 7, 28) (hM C D L) 0 0 60 [(3, .int b), (0, .ref 0)] [] := by
    intro b m D hf
    refine AW.blk (amX1_advise _) 33 1 (h' := hM C D L) (pc' := 61) (lv' := [(3, .int b), (0, .ref 0)]) (st' := [.int b]) (L := []) rfl trivial ?_
    exact AW.iretE (amX1_advise _) 34 hE rfl rfl rfl rfl rfl (by rw [← hf]) (by rw [← hf])
  have K : ∀ (k i : Nat) (b : Int32) (m : Int32) (D : CS), i + k = 9 → lpN (sAd1 s t C) k i (b, m, D) = sAdv s t C → AW G (yX1_advise.cls, cX1_advise, 7, 28) (hM C D L) 0 0 23 [(5, .int (nI i)), (4, .int m), (3, .int b), (1, .int s), (2, .int t), (0, .ref 0)] [] := by
    intro k
    induction k with
    | zero =>
      intro i b m D hi hf
      refine AW.blk (amX1_advise _) 15 2 (h' := hM C D L) (pc' := 27) (lv' := [(5, .int (nI i)), (4, .int m), (3, .int b), (1, .int s), (2, .int t), (0, .ref 0)]) (st' := [.int 9, .int (nI i)]) (L := []) rfl trivial ?_
      refine AW.br (amX1_advise _) 17 (tgt := 60) (C := 9 ≤ (nI i)) (C' := ¬ 9 ≤ (nI i)) (st' := []) rfl rfl rfl (fun c1 => ?_) (fun c1 => absurd (nI_le (a := 9) (b := i) (by omega) (by omega)) c1)
      refine AW.pick [2, 5] (lv' := [(3, .int b), (0, .ref 0)]) rfl ?_
      exact E _ _ _ hf
    | succ k ih =>
      intro i b m D hi hf
      refine AW.blk (amX1_advise _) 15 2 (h' := hM C D L) (pc' := 27) (lv' := [(5, .int (nI i)), (4, .int m), (3, .int b), (1, .int s), (2, .int t), (0, .ref 0)]) (st' := [.int 9, .int (nI i)]) (L := []) rfl trivial ?_
      refine AW.br (amX1_advise _) 17 (tgt := 60) (C := 9 ≤ (nI i)) (C' := ¬ 9 ≤ (nI i)) (st' := []) rfl rfl rfl (fun c1 => absurd c1 (nI_ge (a := i) (b := 9) (by omega) (by decide))) (fun c1 => ?_)
      refine AW.blk (amX1_advise _) 18 4 (h' := hM C D L) (pc' := 35) (lv' := [(5, .int (nI i)), (4, .int m), (3, .int b), (1, .int s), (2, .int t), (0, .ref 0)]) (st' := [.int t, .int (nI i), .int s, .ref 0]) (L := []) rfl trivial ?_
      refine AW.callVp (amX1_advise _) 22 (kX1_earned C D L s (nI i) t hs) rfl rfl [0, 1, 2, 3, 4, 5, 6, 7, 8, 9, 10, 11, 12, 13, 14, 15, 16, 17, 18, 19, 20, 21, 22, 23, 24, 25, 26, 27] [] ykX1_earned yiX1_earned yvX1_earned mlX1_116 rfl rfl rfl rfl hR ⟨Nat.le_of_ble_eq_true rfl, Nat.le_of_ble_eq_true rfl, Nat.le_of_ble_eq_true rfl, Nat.le_of_ble_eq_true rfl⟩ rfl rfl rfl rfl rfl (fun _ => rfl) (h1 := hM C ((sEa s (nI i) t C).2) L) rfl (st' := [.int ((sEa s (nI i) t C).1)]) rfl ?_
      refine AW.blk (amX1_advise _) 23 3 (h' := hM C ((sEa s (nI i) t C).2) L) (pc' := 44) (lv' := [(6, .int ((sEa s (nI i) t C).1)), (5, .int (nI i)), (4, .int m), (3, .int b), (1, .int s), (2, .int t), (0, .ref 0)]) (st' := [.int m, .int ((sEa s (nI i) t C).1)]) (L := []) rfl trivial ?_
      refine AW.br (amX1_advise _) 26 (tgt := 54) (C := ((sEa s (nI i) t C).1) ≤ m) (C' := ¬ ((sEa s (nI i) t C).1) ≤ m) (st' := []) rfl rfl rfl (fun c2 => ?_) (fun c2 => ?_)
      · refine AW.blk (amX1_advise _) 31 2 (h' := hM C ((sEa s (nI i) t C).2) L) (pc' := 23) (lv' := [(5, .int ((nI i) + 1)), (6, .int ((sEa s (nI i) t C).1)), (4, .int m), (3, .int b), (1, .int s), (2, .int t), (0, .ref 0)]) (st' := []) (L := []) rfl trivial ?_
        refine AW.pick [0, 2, 3, 4, 5, 6] (lv' := [(5, .int ((nI i) + 1)), (4, .int m), (3, .int b), (1, .int s), (2, .int t), (0, .ref 0)]) rfl ?_
        rw [nI_1 i]
        exact ih (i + 1) _ _ _ (by omega) (by rw [← hf]; simp only [lpN, sAd1, if_neg c1, if_pos c2])
      · refine AW.blk (amX1_advise _) 27 6 (h' := hM C ((sEa s (nI i) t C).2) L) (pc' := 23) (lv' := [(5, .int ((nI i) + 1)), (3, .int (nI i)), (4, .int ((sEa s (nI i) t C).1)), (6, .int ((sEa s (nI i) t C).1)), (1, .int s), (2, .int t), (0, .ref 0)]) (st' := []) (L := []) rfl trivial ?_
        refine AW.pick [0, 2, 1, 4, 5, 6] (lv' := [(5, .int ((nI i) + 1)), (4, .int ((sEa s (nI i) t C).1)), (3, .int (nI i)), (1, .int s), (2, .int t), (0, .ref 0)]) rfl ?_
        rw [nI_1 i]
        exact ih (i + 1) _ _ _ (by omega) (by rw [← hf]; simp only [lpN, sAd1, if_neg c1, if_neg c2])
  refine AW.blk (amX1_advise _) 0 2 (h' := hM C T L) (pc' := 2) (lv' := [(0, .ref 0), (1, .int s), (2, .int t)]) (st' := [.int s, .ref 0]) (L := []) rfl trivial ?_
  refine AW.callVp (amX1_advise _) 2 (kX1_needSweeper C T L s hs) rfl rfl [0, 1, 2, 3, 4, 5, 6, 7, 8, 9, 10, 11, 12, 13, 14, 15, 16, 17, 18, 19, 20, 21, 22, 23, 24, 25, 26, 27] [] ykX1_needSweeper yiX1_needSweeper yvX1_needSweeper mlX1_76 rfl rfl rfl rfl hR ⟨Nat.le_of_ble_eq_true rfl, Nat.le_of_ble_eq_true rfl, Nat.le_of_ble_eq_true rfl, Nat.le_of_ble_eq_true rfl⟩ rfl rfl rfl rfl rfl (fun _ => rfl) (h1 := hM C T L) rfl (st' := []) rfl ?_
  refine AW.blk (amX1_advise _) 3 1 (h' := hM C T L) (pc' := 6) (lv' := [(0, .ref 0), (1, .int s), (2, .int t)]) (st' := [.int t]) (L := []) rfl trivial ?_
  refine AW.callSp (amX1_advise _) 4 (kX1_needQuarters t h1 h2) [] [] ykX1_needQuarters ysX1_needQuarters mlX1_106 rfl rfl rfl rfl hR ⟨Nat.le_of_ble_eq_true rfl, Nat.le_of_ble_eq_true rfl, Nat.le_of_ble_eq_true rfl, Nat.le_of_ble_eq_true rfl⟩ rfl rfl rfl rfl rfl (fun _ => rfl) (h1 := hM C T L) rfl (st' := []) rfl ?_
  refine AW.blk (amX1_advise _) 5 6 (h' := hM C T L) (pc' := 15) (lv' := [(3, .int ((-1))), (0, .ref 0), (1, .int s), (2, .int t)]) (st' := [.int t, .int ((-1)), .int s, .ref 0]) (L := []) rfl trivial ?_
  refine AW.callVp (amX1_advise _) 11 (kX1_earned C T L s (-1) t hs) rfl rfl [0, 1, 2, 3, 4, 5, 6, 7, 8, 9, 10, 11, 12, 13, 14, 15, 16, 17, 18, 19, 20, 21, 22, 23, 24, 25, 26, 27] [] ykX1_earned yiX1_earned yvX1_earned mlX1_116 rfl rfl rfl rfl hR ⟨Nat.le_of_ble_eq_true rfl, Nat.le_of_ble_eq_true rfl, Nat.le_of_ble_eq_true rfl, Nat.le_of_ble_eq_true rfl⟩ rfl rfl rfl rfl rfl (fun _ => rfl) (h1 := hM C ((sEa s (-1) t C).2) L) rfl (st' := [.int ((sEa s (-1) t C).1)]) rfl ?_
  refine AW.blk (amX1_advise _) 12 3 (h' := hM C ((sEa s (-1) t C).2) L) (pc' := 23) (lv' := [(5, .int 0), (4, .int ((sEa s (-1) t C).1)), (3, .int ((-1))), (0, .ref 0), (1, .int s), (2, .int t)]) (st' := []) (L := []) rfl trivial ?_
  refine AW.pick [0, 1, 2, 4, 5, 3] (lv' := [(5, .int 0), (4, .int ((sEa s (-1) t C).1)), (3, .int ((-1))), (1, .int s), (2, .int t), (0, .ref 0)]) rfl ?_
  exact K 9 0 _ _ _ rfl rfl
def sFo (t : Int32) (C : CS) : Nat → Int32
  | 0 => (sLive t C).1
  | 1 => sSum (sLive t C).2.1 9
  | _ => sHeld (sLive t C).2.2.2.2.2.2.2.2.2.2.2.2.2.1 (sLive t C).2.2.2.2.1
set_option maxHeartbeats 2000000 in
theorem kX1_foresee_0 (C T : CS) (L : Nat → Int32) (t : Int32) (h1 : ¬ t < 1) (h2 : t ≤ 96) : AMet yX1_foresee cX1_foresee 4 (some .int) { frames := 5, cells := 0, slots := 0, locals := 116 } [.ref 0, .int t, .int (nI 0)] (hM C T L) (some (.int (sFo t C 0))) (hM C (sLive t C).2 L) := by
  refine AMet.of (by decide) rfl ?_
  intro G hR hE hI
  refine AW.blk (amX1_foresee _) 0 1 (h' := hM C T L) (pc' := 1) (lv' := [(0, .ref 0), (1, .int t), (2, .int (nI 0))]) (st' := [.int t]) (L := []) rfl trivial ?_
  refine AW.callSp (amX1_foresee _) 1 (kX1_needQuarters t h1 h2) [] [] ykX1_needQuarters ysX1_needQuarters mlX1_106 rfl rfl rfl rfl hR ⟨Nat.le_of_ble_eq_true rfl, Nat.le_of_ble_eq_true rfl, Nat.le_of_ble_eq_true rfl, Nat.le_of_ble_eq_true rfl⟩ rfl rfl rfl rfl rfl (fun _ => rfl) (h1 := hM C T L) rfl (st' := []) rfl ?_
  refine AW.blk (amX1_foresee _) 2 2 (h' := hM C T L) (pc' := 6) (lv' := [(0, .ref 0), (1, .int t), (2, .int (nI 0))]) (st' := [.int 3, .int (nI 0)]) (L := []) rfl trivial ?_
  refine AW.callSp (amX1_foresee _) 4 (kX1_needFact (nI 0) 3 (by decide) (by decide)) [] [] ykX1_needFact ysX1_needFact mlX1_93 rfl rfl rfl rfl hR ⟨Nat.le_of_ble_eq_true rfl, Nat.le_of_ble_eq_true rfl, Nat.le_of_ble_eq_true rfl, Nat.le_of_ble_eq_true rfl⟩ rfl rfl rfl rfl rfl (fun _ => rfl) (h1 := hM C T L) rfl (st' := []) rfl ?_
  refine AW.blk (amX1_foresee _) 5 4 (h' := hM C T L) (pc' := 17) (lv' := [(0, .ref 0), (1, .int t), (2, .int (nI 0))]) (st' := [.ref 1, .ref 14]) (L := []) rfl trivial ?_
  refine AW.callVp (amX1_foresee _) 9 (kX0_copyFrom T C) rfl rfl [14, 15, 16, 17, 18, 19, 20, 21, 22, 23, 24, 25, 26, 1, 2, 3, 4, 5, 6, 7, 8, 9, 10, 11, 12, 13] [] ykX0_copyFrom yiX0_copyFrom yvX0_copyFrom mlX1_120 rfl rfl rfl rfl hR ⟨Nat.le_of_ble_eq_true rfl, Nat.le_of_ble_eq_true rfl, Nat.le_of_ble_eq_true rfl, Nat.le_of_ble_eq_true rfl⟩ rfl rfl rfl rfl rfl (fun _ => rfl) (h1 := hM C C L) rfl (st' := []) rfl ?_
  refine AW.blk (amX1_foresee _) 10 3 (h' := hM C C L) (pc' := 25) (lv' := [(0, .ref 0), (1, .int t), (2, .int (nI 0))]) (st' := [.int t, .ref 14]) (L := []) rfl trivial ?_
  refine AW.callVp (amX1_foresee _) 13 (kX0_live C t) rfl rfl [14, 15, 16, 17, 18, 19, 20, 21, 22, 23, 24, 25, 26] [] ykX0_live yiX0_live yvX0_live mlX1_109 rfl rfl rfl rfl hR ⟨Nat.le_of_ble_eq_true rfl, Nat.le_of_ble_eq_true rfl, Nat.le_of_ble_eq_true rfl, Nat.le_of_ble_eq_true rfl⟩ rfl rfl rfl rfl rfl (fun _ => rfl) (h1 := hM C ((sLive t C).2) L) rfl (st' := [.int ((sLive t C).1)]) rfl ?_
  refine AW.blk (amX1_foresee _) 14 2 (h' := hM C ((sLive t C).2) L) (pc' := 30) (lv' := [(3, .int ((sLive t C).1)), (0, .ref 0), (1, .int t), (2, .int (nI 0))]) (st' := [.int (nI 0)]) (L := []) rfl trivial ?_
  refine AW.br (amX1_foresee _) 16 (tgt := 35) (C := ¬ (nI 0) = 0) (C' := (nI 0) = 0) (st' := []) rfl rfl rfl (fun c1 => absurd (show (nI 0 : Int32) = 0 by decide) c1) (fun c1 => ?_)
  refine AW.blk (amX1_foresee _) 17 1 (h' := hM C ((sLive t C).2) L) (pc' := 34) (lv' := [(3, .int ((sLive t C).1)), (0, .ref 0), (1, .int t), (2, .int (nI 0))]) (st' := [.int ((sLive t C).1)]) (L := []) rfl trivial ?_
  exact AW.iretE (amX1_foresee _) 18 hE rfl rfl (by first | rfl | exact narrow_b _ (by decide)) rfl rfl (rfl) rfl
set_option maxHeartbeats 2000000 in
theorem kX1_foresee_1 (C T : CS) (L : Nat → Int32) (t : Int32) (h1 : ¬ t < 1) (h2 : t ≤ 96) : AMet yX1_foresee cX1_foresee 4 (some .int) { frames := 5, cells := 0, slots := 0, locals := 116 } [.ref 0, .int t, .int (nI 1)] (hM C T L) (some (.int (sFo t C 1))) (hM C (sLive t C).2 L) := by
  refine AMet.of (by decide) rfl ?_
  intro G hR hE hI
  refine AW.blk (amX1_foresee _) 0 1 (h' := hM C T L) (pc' := 1) (lv' := [(0, .ref 0), (1, .int t), (2, .int (nI 1))]) (st' := [.int t]) (L := []) rfl trivial ?_
  refine AW.callSp (amX1_foresee _) 1 (kX1_needQuarters t h1 h2) [] [] ykX1_needQuarters ysX1_needQuarters mlX1_106 rfl rfl rfl rfl hR ⟨Nat.le_of_ble_eq_true rfl, Nat.le_of_ble_eq_true rfl, Nat.le_of_ble_eq_true rfl, Nat.le_of_ble_eq_true rfl⟩ rfl rfl rfl rfl rfl (fun _ => rfl) (h1 := hM C T L) rfl (st' := []) rfl ?_
  refine AW.blk (amX1_foresee _) 2 2 (h' := hM C T L) (pc' := 6) (lv' := [(0, .ref 0), (1, .int t), (2, .int (nI 1))]) (st' := [.int 3, .int (nI 1)]) (L := []) rfl trivial ?_
  refine AW.callSp (amX1_foresee _) 4 (kX1_needFact (nI 1) 3 (by decide) (by decide)) [] [] ykX1_needFact ysX1_needFact mlX1_93 rfl rfl rfl rfl hR ⟨Nat.le_of_ble_eq_true rfl, Nat.le_of_ble_eq_true rfl, Nat.le_of_ble_eq_true rfl, Nat.le_of_ble_eq_true rfl⟩ rfl rfl rfl rfl rfl (fun _ => rfl) (h1 := hM C T L) rfl (st' := []) rfl ?_
  refine AW.blk (amX1_foresee _) 5 4 (h' := hM C T L) (pc' := 17) (lv' := [(0, .ref 0), (1, .int t), (2, .int (nI 1))]) (st' := [.ref 1, .ref 14]) (L := []) rfl trivial ?_
  refine AW.callVp (amX1_foresee _) 9 (kX0_copyFrom T C) rfl rfl [14, 15, 16, 17, 18, 19, 20, 21, 22, 23, 24, 25, 26, 1, 2, 3, 4, 5, 6, 7, 8, 9, 10, 11, 12, 13] [] ykX0_copyFrom yiX0_copyFrom yvX0_copyFrom mlX1_120 rfl rfl rfl rfl hR ⟨Nat.le_of_ble_eq_true rfl, Nat.le_of_ble_eq_true rfl, Nat.le_of_ble_eq_true rfl, Nat.le_of_ble_eq_true rfl⟩ rfl rfl rfl rfl rfl (fun _ => rfl) (h1 := hM C C L) rfl (st' := []) rfl ?_
  refine AW.blk (amX1_foresee _) 10 3 (h' := hM C C L) (pc' := 25) (lv' := [(0, .ref 0), (1, .int t), (2, .int (nI 1))]) (st' := [.int t, .ref 14]) (L := []) rfl trivial ?_
  refine AW.callVp (amX1_foresee _) 13 (kX0_live C t) rfl rfl [14, 15, 16, 17, 18, 19, 20, 21, 22, 23, 24, 25, 26] [] ykX0_live yiX0_live yvX0_live mlX1_109 rfl rfl rfl rfl hR ⟨Nat.le_of_ble_eq_true rfl, Nat.le_of_ble_eq_true rfl, Nat.le_of_ble_eq_true rfl, Nat.le_of_ble_eq_true rfl⟩ rfl rfl rfl rfl rfl (fun _ => rfl) (h1 := hM C ((sLive t C).2) L) rfl (st' := [.int ((sLive t C).1)]) rfl ?_
  refine AW.blk (amX1_foresee _) 14 2 (h' := hM C ((sLive t C).2) L) (pc' := 30) (lv' := [(3, .int ((sLive t C).1)), (0, .ref 0), (1, .int t), (2, .int (nI 1))]) (st' := [.int (nI 1)]) (L := []) rfl trivial ?_
  refine AW.br (amX1_foresee _) 16 (tgt := 35) (C := ¬ (nI 1) = 0) (C' := (nI 1) = 0) (st' := []) rfl rfl rfl (fun c1 => ?_) (fun c1 => absurd c1 (show ¬ (nI 1 : Int32) = 0 by decide))
  refine AW.blk (amX1_foresee _) 19 2 (h' := hM C ((sLive t C).2) L) (pc' := 37) (lv' := [(3, .int ((sLive t C).1)), (0, .ref 0), (1, .int t), (2, .int (nI 1))]) (st' := [.int 1, .int (nI 1)]) (L := []) rfl trivial ?_
  refine AW.br (amX1_foresee _) 21 (tgt := 50) (C := ¬ (nI 1) = 1) (C' := (nI 1) = 1) (st' := []) rfl rfl rfl (fun c2 => absurd (show (nI 1 : Int32) = 1 by decide) c2) (fun c2 => ?_)
  refine AW.blk (amX1_foresee _) 22 2 (h' := hM C ((sLive t C).2) L) (pc' := 44) (lv' := [(3, .int ((sLive t C).1)), (0, .ref 0), (1, .int t), (2, .int (nI 1))]) (st' := [.ref 14]) (L := []) rfl trivial ?_
  refine AW.callVp (amX1_foresee _) 24 (kX0_allMud ((sLive t C).2.1) ((sLive t C).2.2.1) ((sLive t C).2.2.2.1) ((sLive t C).2.2.2.2.1) ((sLive t C).2.2.2.2.2.1) ((sLive t C).2.2.2.2.2.2.1) ((sLive t C).2.2.2.2.2.2.2.1) ((sLive t C).2.2.2.2.2.2.2.2.1) ((sLive t C).2.2.2.2.2.2.2.2.2.1) ((sLive t C).2.2.2.2.2.2.2.2.2.2.1) ((sLive t C).2.2.2.2.2.2.2.2.2.2.2.1) ((sLive t C).2.2.2.2.2.2.2.2.2.2.2.2.1) ((sLive t C).2.2.2.2.2.2.2.2.2.2.2.2.2.1) ((sLive t C).2.2.2.2.2.2.2.2.2.2.2.2.2.2)) rfl rfl [14, 15, 16, 17, 18, 19, 20, 21, 22, 23, 24, 25, 26] [] ykX0_allMud yiX0_allMud yvX0_allMud mlX1_124 rfl rfl rfl rfl hR ⟨Nat.le_of_ble_eq_true rfl, Nat.le_of_ble_eq_true rfl, Nat.le_of_ble_eq_true rfl, Nat.le_of_ble_eq_true rfl⟩ rfl rfl rfl rfl rfl (fun _ => rfl) (h1 := hM C ((sLive t C).2) L) rfl (st' := [.int (sSum ((sLive t C).2.1) 9)]) rfl ?_
  refine AW.blk (amX1_foresee _) 25 1 (h' := hM C ((sLive t C).2) L) (pc' := 57) (lv' := [(3, .int ((sLive t C).1)), (0, .ref 0), (1, .int t), (2, .int (nI 1))]) (st' := [.int (sSum ((sLive t C).2.1) 9)]) (L := []) rfl trivial ?_
  exact AW.iretE (amX1_foresee _) 29 hE rfl rfl (by first | rfl | exact narrow_b _ (by decide)) rfl rfl (rfl) rfl
set_option maxHeartbeats 2000000 in
theorem kX1_foresee_2 (C T : CS) (L : Nat → Int32) (t : Int32) (h1 : ¬ t < 1) (h2 : t ≤ 96) : AMet yX1_foresee cX1_foresee 4 (some .int) { frames := 5, cells := 0, slots := 0, locals := 116 } [.ref 0, .int t, .int (nI 2)] (hM C T L) (some (.int (sFo t C 2))) (hM C (sLive t C).2 L) := by
  refine AMet.of (by decide) rfl ?_
  intro G hR hE hI
  refine AW.blk (amX1_foresee _) 0 1 (h' := hM C T L) (pc' := 1) (lv' := [(0, .ref 0), (1, .int t), (2, .int (nI 2))]) (st' := [.int t]) (L := []) rfl trivial ?_
  refine AW.callSp (amX1_foresee _) 1 (kX1_needQuarters t h1 h2) [] [] ykX1_needQuarters ysX1_needQuarters mlX1_106 rfl rfl rfl rfl hR ⟨Nat.le_of_ble_eq_true rfl, Nat.le_of_ble_eq_true rfl, Nat.le_of_ble_eq_true rfl, Nat.le_of_ble_eq_true rfl⟩ rfl rfl rfl rfl rfl (fun _ => rfl) (h1 := hM C T L) rfl (st' := []) rfl ?_
  refine AW.blk (amX1_foresee _) 2 2 (h' := hM C T L) (pc' := 6) (lv' := [(0, .ref 0), (1, .int t), (2, .int (nI 2))]) (st' := [.int 3, .int (nI 2)]) (L := []) rfl trivial ?_
  refine AW.callSp (amX1_foresee _) 4 (kX1_needFact (nI 2) 3 (by decide) (by decide)) [] [] ykX1_needFact ysX1_needFact mlX1_93 rfl rfl rfl rfl hR ⟨Nat.le_of_ble_eq_true rfl, Nat.le_of_ble_eq_true rfl, Nat.le_of_ble_eq_true rfl, Nat.le_of_ble_eq_true rfl⟩ rfl rfl rfl rfl rfl (fun _ => rfl) (h1 := hM C T L) rfl (st' := []) rfl ?_
  refine AW.blk (amX1_foresee _) 5 4 (h' := hM C T L) (pc' := 17) (lv' := [(0, .ref 0), (1, .int t), (2, .int (nI 2))]) (st' := [.ref 1, .ref 14]) (L := []) rfl trivial ?_
  refine AW.callVp (amX1_foresee _) 9 (kX0_copyFrom T C) rfl rfl [14, 15, 16, 17, 18, 19, 20, 21, 22, 23, 24, 25, 26, 1, 2, 3, 4, 5, 6, 7, 8, 9, 10, 11, 12, 13] [] ykX0_copyFrom yiX0_copyFrom yvX0_copyFrom mlX1_120 rfl rfl rfl rfl hR ⟨Nat.le_of_ble_eq_true rfl, Nat.le_of_ble_eq_true rfl, Nat.le_of_ble_eq_true rfl, Nat.le_of_ble_eq_true rfl⟩ rfl rfl rfl rfl rfl (fun _ => rfl) (h1 := hM C C L) rfl (st' := []) rfl ?_
  refine AW.blk (amX1_foresee _) 10 3 (h' := hM C C L) (pc' := 25) (lv' := [(0, .ref 0), (1, .int t), (2, .int (nI 2))]) (st' := [.int t, .ref 14]) (L := []) rfl trivial ?_
  refine AW.callVp (amX1_foresee _) 13 (kX0_live C t) rfl rfl [14, 15, 16, 17, 18, 19, 20, 21, 22, 23, 24, 25, 26] [] ykX0_live yiX0_live yvX0_live mlX1_109 rfl rfl rfl rfl hR ⟨Nat.le_of_ble_eq_true rfl, Nat.le_of_ble_eq_true rfl, Nat.le_of_ble_eq_true rfl, Nat.le_of_ble_eq_true rfl⟩ rfl rfl rfl rfl rfl (fun _ => rfl) (h1 := hM C ((sLive t C).2) L) rfl (st' := [.int ((sLive t C).1)]) rfl ?_
  refine AW.blk (amX1_foresee _) 14 2 (h' := hM C ((sLive t C).2) L) (pc' := 30) (lv' := [(3, .int ((sLive t C).1)), (0, .ref 0), (1, .int t), (2, .int (nI 2))]) (st' := [.int (nI 2)]) (L := []) rfl trivial ?_
  refine AW.br (amX1_foresee _) 16 (tgt := 35) (C := ¬ (nI 2) = 0) (C' := (nI 2) = 0) (st' := []) rfl rfl rfl (fun c1 => ?_) (fun c1 => absurd c1 (show ¬ (nI 2 : Int32) = 0 by decide))
  refine AW.blk (amX1_foresee _) 19 2 (h' := hM C ((sLive t C).2) L) (pc' := 37) (lv' := [(3, .int ((sLive t C).1)), (0, .ref 0), (1, .int t), (2, .int (nI 2))]) (st' := [.int 1, .int (nI 2)]) (L := []) rfl trivial ?_
  refine AW.br (amX1_foresee _) 21 (tgt := 50) (C := ¬ (nI 2) = 1) (C' := (nI 2) = 1) (st' := []) rfl rfl rfl (fun c2 => ?_) (fun c2 => absurd c2 (show ¬ (nI 2 : Int32) = 1 by decide))
  refine AW.blk (amX1_foresee _) 26 2 (h' := hM C ((sLive t C).2) L) (pc' := 54) (lv' := [(3, .int ((sLive t C).1)), (0, .ref 0), (1, .int t), (2, .int (nI 2))]) (st' := [.ref 14]) (L := []) rfl trivial ?_
  refine AW.callVp (amX1_foresee _) 28 (kX0_heldPitches ((sLive t C).2.1) ((sLive t C).2.2.1) ((sLive t C).2.2.2.1) ((sLive t C).2.2.2.2.1) ((sLive t C).2.2.2.2.2.1) ((sLive t C).2.2.2.2.2.2.1) ((sLive t C).2.2.2.2.2.2.2.1) ((sLive t C).2.2.2.2.2.2.2.2.1) ((sLive t C).2.2.2.2.2.2.2.2.2.1) ((sLive t C).2.2.2.2.2.2.2.2.2.2.1) ((sLive t C).2.2.2.2.2.2.2.2.2.2.2.1) ((sLive t C).2.2.2.2.2.2.2.2.2.2.2.2.1) ((sLive t C).2.2.2.2.2.2.2.2.2.2.2.2.2.1) ((sLive t C).2.2.2.2.2.2.2.2.2.2.2.2.2.2)) rfl rfl [14, 15, 16, 17, 18, 19, 20, 21, 22, 23, 24, 25, 26] [] ykX0_heldPitches yiX0_heldPitches yvX0_heldPitches mlX1_128 rfl rfl rfl rfl hR ⟨Nat.le_of_ble_eq_true rfl, Nat.le_of_ble_eq_true rfl, Nat.le_of_ble_eq_true rfl, Nat.le_of_ble_eq_true rfl⟩ rfl rfl rfl rfl rfl (fun _ => rfl) (h1 := hM C ((sLive t C).2) L) rfl (st' := [.int (sHeld ((sLive t C).2.2.2.2.2.2.2.2.2.2.2.2.2.1) ((sLive t C).2.2.2.2.1))]) rfl ?_
  exact AW.iretE (amX1_foresee _) 29 hE rfl rfl (by first | rfl | exact narrow_b _ (by decide)) rfl rfl (rfl) rfl
theorem kX1_foresee (C T : CS) (L : Nat → Int32) (t : Int32) (h1 : ¬ t < 1) (h2 : t ≤ 96) : ∀ (w : Nat), w < 3 → AMet yX1_foresee cX1_foresee 4 (some .int) { frames := 5, cells := 0, slots := 0, locals := 116 } [.ref 0, .int t, .int (nI w)] (hM C T L) (some (.int (sFo t C w))) (hM C (sLive t C).2 L)
  | 0, _ => kX1_foresee_0 C T L t h1 h2
  | 1, _ => kX1_foresee_1 C T L t h1 h2
  | 2, _ => kX1_foresee_2 C T L t h1 h2
  | w + 3, h => absurd h (by omega)
end
section
/-! ===== the checksum; a new object ===== -/
theorem sSw_one {n : Int32} {i : Nat} (h : i < 8) (h2 : ¬ n ≤ nI i) : ¬ sSw (nI i) n = 0 := by
  unfold sSw
  rw [if_neg (nI_pos (by omega)), if_neg (show ¬ (8 : Int32) ≤ nI i from nle (N := 8) h rfl), if_neg h2]
  decide
theorem sCr_one {i : Nat} (h : i < 9) : ¬ sCr (nI i) = 0 := by
  unfold sCr
  rw [if_neg (nI_pos (by omega)), if_neg (show ¬ (9 : Int32) ≤ nI i from nle (N := 9) h rfl)]
  decide
def dg1 (g : Nat → Int32) (i : Nat) (d : Int64) : Int64 := d * 31 + (g i).toInt64
def dgG (C : CS) : Nat → Int32 := sGF C.2.2.2.2.2.2.2.2.2.2.2.2.1 C.2.2.2.2.2.2.2.2.2.2.2.2.2 C.1 C.2.2.2.1 C.2.2.2.2.2.2.2.2.2.1 C.2.2.2.2.2.2.2.2.2.2.1 C.2.2.2.2.2.2.2.2.2.2.2.1
def dgC (C : CS) (c : Nat) : Nat → Int32 := sCF (nI c) C.2.2.2.2.2.2.2.2.2.2.2.2.1 C.1 C.2.1 C.2.2.1 C.2.2.2.1 C.2.2.2.2.1 C.2.2.2.2.2.2.1
def dgR (C : CS) (i : Nat) : Int32 := C.2.2.2.2.2.1 (nI i).toNatClampNeg
def dgS (C : CS) (c : Nat) : Nat → Int32 := sSF (nI c) C.2.2.2.2.2.2.2.2.2.2.2.2.1 C.2.2.2.1 C.2.2.2.2.2.2.1 C.2.2.2.2.2.2.2.1 C.2.2.2.2.2.2.2.2.1 C.2.2.2.2.2.2.2.2.2.1 C.2.2.2.2.2.2.2.2.2.2.1 C.2.2.2.2.2.2.2.2.2.2.2.1
def dg2 (C : CS) (c : Nat) (d : Int64) : Int64 := lpN (dg1 (dgC C c)) 6 0 d
def dg4 (C : CS) (c : Nat) (d : Int64) : Int64 := lpN (dg1 (dgS C c)) 8 0 d
def sDig (C : CS) : Int64 := lpS C.2.2.2.2.2.2.2.2.2.2.2.2.1 (dg4 C) 8 0 (lpN (dg1 (dgR C)) 8 0 (lpN (dg2 C) 9 0 (lpN (dg1 (dgG C)) 8 0 1033)))
set_option maxRecDepth 4000 in
set_option maxHeartbeats 2000000 in
theorem kX1_digest (C T : CS) (L : Nat → Int32) : AMet yX1_digest cX1_digest 5 (some .long) { frames := 3, cells := 0, slots := 0, locals := 64 } [.ref 0] (hM C T L) (some (.long (sDig C))) (hM C T L) := by
  refine AMet.of (by decide) rfl ?_
  intro G hR hE hI
  obtain ⟨FA, hFA⟩ : ∃ z, z = sDig C := ⟨_, rfl⟩
  rw [← hFA] at hE
  have E4 : ∀ (d : Int64), d = FA → AW G (yX1_digest.cls, cX1_digest, 5, 28) (hM C T L) 0 0 172 [(1, .long d), (0, .ref 0)] [] := by
    intro d hf
    refine AW.blk (amX1_digest _) 92 1 (h' := hM C T L) (pc' := 173) (lv' := [(1, .long d), (0, .ref 0)]) (st' := [.long d]) (L := []) rfl trivial ?_
    exact AW.lretE (amX1_digest _) 93 hE rfl rfl rfl rfl hf.symm rfl
  obtain ⟨F4, hF4⟩ : ∃ z, z = FA := ⟨_, rfl⟩
  rw [← hF4] at E4
  have K4I : ∀ (c : Nat) (F1 : Int64), c < 8 → ¬ sSw (nI c) C.2.2.2.2.2.2.2.2.2.2.2.2.1 = 0 → (AW G (yX1_digest.cls, cX1_digest, 5, 28) (hM C T L) 0 0 166 [(3, .int (nI c)), (1, .long F1), (0, .ref 0)] []) → ∀ (d0 : Int64), dg4 C c d0 = F1 → AW G (yX1_digest.cls, cX1_digest, 5, 28) (hM C T L) 0 0 132 [(3, .int (nI c)), (1, .long d0), (0, .ref 0)] [] := by
    intro c F1 hc9 hs E81 d0 hb0
    have EI : ∀ (d : Int64), d = F1 → AW G (yX1_digest.cls, cX1_digest, 5, 28) (hM C T L) 0 0 166 [(3, .int (nI c)), (1, .long d), (0, .ref 0)] [] := fun d hb => by rw [hb]; exact E81
    have K : ∀ (k i : Nat) (d : Int64), i + k = 8 → lpN (dg1 (dgS C c)) k i d = F1 → AW G (yX1_digest.cls, cX1_digest, 5, 28) (hM C T L) 0 0 135 [(4, .int (nI i)), (3, .int (nI c)), (1, .long d), (0, .ref 0)] [] := by
      intro k
      induction k with
      | zero =>
        intro i d hi hf
        refine AW.blk (amX1_digest _) 74 2 (h' := hM C T L) (pc' := 139) (lv' := [(4, .int (nI i)), (3, .int (nI c)), (1, .long d), (0, .ref 0)]) (st' := [.int 8, .int (nI i)]) (L := []) rfl trivial ?_
        refine AW.br (amX1_digest _) 76 (tgt := 166) (C := 8 ≤ (nI i)) (C' := ¬ 8 ≤ (nI i)) (st' := []) rfl rfl rfl (fun c1 => ?_) (fun c1 => absurd (nI_le (a := 8) (b := i) (by omega) (by omega)) c1)
        refine AW.pick [1, 2, 3] (lv' := [(3, .int (nI c)), (1, .long d), (0, .ref 0)]) rfl ?_
        exact EI _ hf
      | succ k ih =>
        intro i d hi hf
        refine AW.blk (amX1_digest _) 74 2 (h' := hM C T L) (pc' := 139) (lv' := [(4, .int (nI i)), (3, .int (nI c)), (1, .long d), (0, .ref 0)]) (st' := [.int 8, .int (nI i)]) (L := []) rfl trivial ?_
        refine AW.br (amX1_digest _) 76 (tgt := 166) (C := 8 ≤ (nI i)) (C' := ¬ 8 ≤ (nI i)) (st' := []) rfl rfl rfl (fun c1 => absurd c1 (nI_ge (a := i) (b := 8) (by omega) (by decide))) (fun c1 => ?_)
        refine AW.blk (amX1_digest _) 77 1 (h' := hM C T L) (pc' := 143) (lv' := [(4, .int (nI i)), (3, .int (nI c)), (1, .long d), (0, .ref 0)]) (st' := [.long d]) (L := []) rfl trivial ?_
        refine AW.ldcL (amX1_digest _) 78 31 rfl kcX1_135 ?_
        refine AW.blk (amX1_digest _) 79 5 (h' := hM C T L) (pc' := 154) (lv' := [(4, .int (nI i)), (3, .int (nI c)), (1, .long d), (0, .ref 0)]) (st' := [.int (nI i), .int (nI c), .ref 1, .long (d * 31)]) (L := []) rfl trivial ?_
        refine AW.callVp (amX1_digest _) 84 (kX0_sweeperFact C.1 C.2.1 C.2.2.1 C.2.2.2.1 C.2.2.2.2.1 C.2.2.2.2.2.1 C.2.2.2.2.2.2.1 C.2.2.2.2.2.2.2.1 C.2.2.2.2.2.2.2.2.1 C.2.2.2.2.2.2.2.2.2.1 C.2.2.2.2.2.2.2.2.2.2.1 C.2.2.2.2.2.2.2.2.2.2.2.1 C.2.2.2.2.2.2.2.2.2.2.2.2.1 C.2.2.2.2.2.2.2.2.2.2.2.2.2 (nI c) hs i (by omega)) rfl rfl [1, 2, 3, 4, 5, 6, 7, 8, 9, 10, 11, 12, 13] [] ykX0_sweeperFact yiX0_sweeperFact yvX0_sweeperFact mlX1_96 rfl rfl rfl rfl hR ⟨Nat.le_of_ble_eq_true rfl, Nat.le_of_ble_eq_true rfl, Nat.le_of_ble_eq_true rfl, Nat.le_of_ble_eq_true rfl⟩ rfl rfl rfl rfl rfl (fun _ => rfl) (h1 := hM C T L) rfl (st' := [.int (sSF (nI c) C.2.2.2.2.2.2.2.2.2.2.2.2.1 C.2.2.2.1 C.2.2.2.2.2.2.1 C.2.2.2.2.2.2.2.1 C.2.2.2.2.2.2.2.2.1 C.2.2.2.2.2.2.2.2.2.1 C.2.2.2.2.2.2.2.2.2.2.1 C.2.2.2.2.2.2.2.2.2.2.2.1 i), .long (d * 31)]) rfl ?_
        refine AW.blk (amX1_digest _) 85 5 (h' := hM C T L) (pc' := 135) (lv' := [(4, .int ((nI i) + 1)), (1, .long ((d * 31) + ((sSF (nI c) C.2.2.2.2.2.2.2.2.2.2.2.2.1 C.2.2.2.1 C.2.2.2.2.2.2.1 C.2.2.2.2.2.2.2.1 C.2.2.2.2.2.2.2.2.1 C.2.2.2.2.2.2.2.2.2.1 C.2.2.2.2.2.2.2.2.2.2.1 C.2.2.2.2.2.2.2.2.2.2.2.1 i).toInt64))), (3, .int (nI c)), (0, .ref 0)]) (st' := []) (L := []) rfl trivial ?_
        refine AW.pick [0, 2, 1, 3] (lv' := [(4, .int ((nI i) + 1)), (3, .int (nI c)), (1, .long ((d * 31) + ((sSF (nI c) C.2.2.2.2.2.2.2.2.2.2.2.2.1 C.2.2.2.1 C.2.2.2.2.2.2.1 C.2.2.2.2.2.2.2.1 C.2.2.2.2.2.2.2.2.1 C.2.2.2.2.2.2.2.2.2.1 C.2.2.2.2.2.2.2.2.2.2.1 C.2.2.2.2.2.2.2.2.2.2.2.1 i).toInt64))), (0, .ref 0)]) rfl ?_
        rw [nI_1 i]
        exact ih (i + 1) _ (by omega) (by rw [← hf]; simp only [lpN, dg1, dgS, if_neg c1])
    refine AW.blk (amX1_digest _) 72 2 (h' := hM C T L) (pc' := 135) (lv' := [(4, .int 0), (3, .int (nI c)), (1, .long d0), (0, .ref 0)]) (st' := []) (L := []) rfl trivial ?_
    exact K 8 0 d0 rfl hb0
  have K4O : ∀ (k i : Nat) (d : Int64), i + k = 8 → lpS C.2.2.2.2.2.2.2.2.2.2.2.2.1 (dg4 C) k i d = F4 → AW G (yX1_digest.cls, cX1_digest, 5, 28) (hM C T L) 0 0 115 [(3, .int (nI i)), (1, .long d), (0, .ref 0)] [] := by
    intro k
    induction k with
    | zero =>
      intro i d hi hf
      refine AW.blk (amX1_digest _) 64 2 (h' := hM C T L) (pc' := 118) (lv' := [(3, .int (nI i)), (1, .long d), (0, .ref 0)]) (st' := [.int 8, .int (nI i)]) (L := []) rfl trivial ?_
      refine AW.br (amX1_digest _) 66 (tgt := 172) (C := 8 ≤ (nI i)) (C' := ¬ 8 ≤ (nI i)) (st' := []) rfl rfl rfl (fun c1 => ?_) (fun c1 => absurd (nI_le (a := 8) (b := i) (by omega) (by omega)) c1)
      refine AW.pick [1, 2] (lv' := [(1, .long d), (0, .ref 0)]) rfl ?_
      exact E4 _ hf
    | succ k ih =>
      intro i d hi hf
      refine AW.blk (amX1_digest _) 64 2 (h' := hM C T L) (pc' := 118) (lv' := [(3, .int (nI i)), (1, .long d), (0, .ref 0)]) (st' := [.int 8, .int (nI i)]) (L := []) rfl trivial ?_
      refine AW.br (amX1_digest _) 66 (tgt := 172) (C := 8 ≤ (nI i)) (C' := ¬ 8 ≤ (nI i)) (st' := []) rfl rfl rfl (fun c1 => absurd c1 (nI_ge (a := i) (b := 8) (by omega) (by decide))) (fun c1 => ?_)
      refine AW.blk (amX1_digest _) 67 4 (h' := hM C T L) (pc' := 129) (lv' := [(3, .int (nI i)), (1, .long d), (0, .ref 0)]) (st' := [.int C.2.2.2.2.2.2.2.2.2.2.2.2.1, .int (nI i)]) (L := []) rfl trivial ?_
      refine AW.br (amX1_digest _) 71 (tgt := 172) (C := C.2.2.2.2.2.2.2.2.2.2.2.2.1 ≤ (nI i)) (C' := ¬ C.2.2.2.2.2.2.2.2.2.2.2.2.1 ≤ (nI i)) (st' := []) rfl rfl rfl (fun c2 => ?_) (fun c2 => ?_)
      · refine AW.pick [1, 2] (lv' := [(1, .long d), (0, .ref 0)]) rfl ?_
        exact E4 _ (by rw [← hf]; simp only [lpS, if_neg c1, if_pos c2])
      · refine K4I i _ (by omega) (sSw_one (by omega) c2) ?_ d rfl
        refine AW.blk (amX1_digest _) 90 2 (h' := hM C T L) (pc' := 115) (lv' := [(3, .int ((nI i) + 1)), (1, .long (dg4 C i d)), (0, .ref 0)]) (st' := []) (L := []) rfl trivial ?_
        rw [nI_1 i]
        exact ih (i + 1) _ (by omega) (by rw [← hf]; simp only [lpS, if_neg c2])
  obtain ⟨F3, hF3⟩ : ∃ z, z = lpN (dg1 (dgR C)) 8 0 (lpN (dg2 C) 9 0 (lpN (dg1 (dgG C)) 8 0 1033)) := ⟨_, rfl⟩
  have E3 : ∀ (d : Int64), d = F3 → AW G (yX1_digest.cls, cX1_digest, 5, 28) (hM C T L) 0 0 113 [(1, .long d), (0, .ref 0)] [] := by
    intro d hf
    refine AW.blk (amX1_digest _) 62 2 (h' := hM C T L) (pc' := 115) (lv' := [(3, .int 0), (1, .long d), (0, .ref 0)]) (st' := []) (L := []) rfl trivial ?_
    exact K4O 8 0 d rfl (by rw [hF4, hFA, hf, hF3]; rfl)
  have K3 : ∀ (k i : Nat) (d : Int64), i + k = 8 → lpN (dg1 (dgR C)) k i d = F3 → AW G (yX1_digest.cls, cX1_digest, 5, 28) (hM C T L) 0 0 84 [(3, .int (nI i)), (1, .long d), (0, .ref 0)] [] := by
    intro k
    induction k with
    | zero =>
      intro i d hi hf
      refine AW.blk (amX1_digest _) 46 2 (h' := hM C T L) (pc' := 87) (lv' := [(3, .int (nI i)), (1, .long d), (0, .ref 0)]) (st' := [.int 8, .int (nI i)]) (L := []) rfl trivial ?_
      refine AW.br (amX1_digest _) 48 (tgt := 113) (C := 8 ≤ (nI i)) (C' := ¬ 8 ≤ (nI i)) (st' := []) rfl rfl rfl (fun c1 => ?_) (fun c1 => absurd (nI_le (a := 8) (b := i) (by omega) (by omega)) c1)
      refine AW.pick [1, 2] (lv' := [(1, .long d), (0, .ref 0)]) rfl ?_
      exact E3 _ hf
    | succ k ih =>
      intro i d hi hf
      refine AW.blk (amX1_digest _) 46 2 (h' := hM C T L) (pc' := 87) (lv' := [(3, .int (nI i)), (1, .long d), (0, .ref 0)]) (st' := [.int 8, .int (nI i)]) (L := []) rfl trivial ?_
      refine AW.br (amX1_digest _) 48 (tgt := 113) (C := 8 ≤ (nI i)) (C' := ¬ 8 ≤ (nI i)) (st' := []) rfl rfl rfl (fun c1 => absurd c1 (nI_ge (a := i) (b := 8) (by omega) (by decide))) (fun c1 => ?_)
      refine AW.blk (amX1_digest _) 49 1 (h' := hM C T L) (pc' := 91) (lv' := [(3, .int (nI i)), (1, .long d), (0, .ref 0)]) (st' := [.long d]) (L := []) rfl trivial ?_
      refine AW.ldcL (amX1_digest _) 50 31 rfl kcX1_135 ?_
      refine AW.blk (amX1_digest _) 51 11 (h' := hM C T L) (pc' := 84) (lv' := [(3, .int ((nI i) + 1)), (1, .long ((d * 31) + ((C.2.2.2.2.2.1 (nI i).toNatClampNeg).toInt64))), (0, .ref 0)]) (st' := []) (L := [vp_in (nI i) 8]) rfl (vpi (by omega) rfl) ?_
      rw [nI_1 i]
      exact ih (i + 1) _ (by omega) (by rw [← hf]; simp only [lpN, dg1, dgR, if_neg c1])
  obtain ⟨F2, hF2⟩ : ∃ z, z = lpN (dg2 C) 9 0 (lpN (dg1 (dgG C)) 8 0 1033) := ⟨_, rfl⟩
  have E2 : ∀ (d : Int64), d = F2 → AW G (yX1_digest.cls, cX1_digest, 5, 28) (hM C T L) 0 0 82 [(1, .long d), (0, .ref 0)] [] := by
    intro d hf
    refine AW.blk (amX1_digest _) 44 2 (h' := hM C T L) (pc' := 84) (lv' := [(3, .int 0), (1, .long d), (0, .ref 0)]) (st' := []) (L := []) rfl trivial ?_
    exact K3 8 0 d rfl (by rw [hF3, hf, hF2])
  have K2I : ∀ (c : Nat) (F1 : Int64), c < 9 → (AW G (yX1_digest.cls, cX1_digest, 5, 28) (hM C T L) 0 0 76 [(3, .int (nI c)), (1, .long F1), (0, .ref 0)] []) → ∀ (d0 : Int64), dg2 C c d0 = F1 → AW G (yX1_digest.cls, cX1_digest, 5, 28) (hM C T L) 0 0 42 [(3, .int (nI c)), (1, .long d0), (0, .ref 0)] [] := by
    intro c F1 hc9 E81 d0 hb0
    have EI : ∀ (d : Int64), d = F1 → AW G (yX1_digest.cls, cX1_digest, 5, 28) (hM C T L) 0 0 76 [(3, .int (nI c)), (1, .long d), (0, .ref 0)] [] := fun d hb => by rw [hb]; exact E81
    have K : ∀ (k i : Nat) (d : Int64), i + k = 6 → lpN (dg1 (dgC C c)) k i d = F1 → AW G (yX1_digest.cls, cX1_digest, 5, 28) (hM C T L) 0 0 45 [(4, .int (nI i)), (3, .int (nI c)), (1, .long d), (0, .ref 0)] [] := by
      intro k
      induction k with
      | zero =>
        intro i d hi hf
        refine AW.blk (amX1_digest _) 26 2 (h' := hM C T L) (pc' := 49) (lv' := [(4, .int (nI i)), (3, .int (nI c)), (1, .long d), (0, .ref 0)]) (st' := [.int 6, .int (nI i)]) (L := []) rfl trivial ?_
        refine AW.br (amX1_digest _) 28 (tgt := 76) (C := 6 ≤ (nI i)) (C' := ¬ 6 ≤ (nI i)) (st' := []) rfl rfl rfl (fun c1 => ?_) (fun c1 => absurd (nI_le (a := 6) (b := i) (by omega) (by omega)) c1)
        refine AW.pick [1, 2, 3] (lv' := [(3, .int (nI c)), (1, .long d), (0, .ref 0)]) rfl ?_
        exact EI _ hf
      | succ k ih =>
        intro i d hi hf
        refine AW.blk (amX1_digest _) 26 2 (h' := hM C T L) (pc' := 49) (lv' := [(4, .int (nI i)), (3, .int (nI c)), (1, .long d), (0, .ref 0)]) (st' := [.int 6, .int (nI i)]) (L := []) rfl trivial ?_
        refine AW.br (amX1_digest _) 28 (tgt := 76) (C := 6 ≤ (nI i)) (C' := ¬ 6 ≤ (nI i)) (st' := []) rfl rfl rfl (fun c1 => absurd c1 (nI_ge (a := i) (b := 6) (by omega) (by decide))) (fun c1 => ?_)
        refine AW.blk (amX1_digest _) 29 1 (h' := hM C T L) (pc' := 53) (lv' := [(4, .int (nI i)), (3, .int (nI c)), (1, .long d), (0, .ref 0)]) (st' := [.long d]) (L := []) rfl trivial ?_
        refine AW.ldcL (amX1_digest _) 30 31 rfl kcX1_135 ?_
        refine AW.blk (amX1_digest _) 31 5 (h' := hM C T L) (pc' := 64) (lv' := [(4, .int (nI i)), (3, .int (nI c)), (1, .long d), (0, .ref 0)]) (st' := [.int (nI i), .int (nI c), .ref 1, .long (d * 31)]) (L := []) rfl trivial ?_
        refine AW.callVp (amX1_digest _) 36 (kX0_crossingFact C.1 C.2.1 C.2.2.1 C.2.2.2.1 C.2.2.2.2.1 C.2.2.2.2.2.1 C.2.2.2.2.2.2.1 C.2.2.2.2.2.2.2.1 C.2.2.2.2.2.2.2.2.1 C.2.2.2.2.2.2.2.2.2.1 C.2.2.2.2.2.2.2.2.2.2.1 C.2.2.2.2.2.2.2.2.2.2.2.1 C.2.2.2.2.2.2.2.2.2.2.2.2.1 C.2.2.2.2.2.2.2.2.2.2.2.2.2 (nI c) (sCr_one hc9) i (by omega)) rfl rfl [1, 2, 3, 4, 5, 6, 7, 8, 9, 10, 11, 12, 13] [] ykX0_crossingFact yiX0_crossingFact yvX0_crossingFact mlX1_99 rfl rfl rfl rfl hR ⟨Nat.le_of_ble_eq_true rfl, Nat.le_of_ble_eq_true rfl, Nat.le_of_ble_eq_true rfl, Nat.le_of_ble_eq_true rfl⟩ rfl rfl rfl rfl rfl (fun _ => rfl) (h1 := hM C T L) rfl (st' := [.int (sCF (nI c) C.2.2.2.2.2.2.2.2.2.2.2.2.1 C.1 C.2.1 C.2.2.1 C.2.2.2.1 C.2.2.2.2.1 C.2.2.2.2.2.2.1 i), .long (d * 31)]) rfl ?_
        refine AW.blk (amX1_digest _) 37 5 (h' := hM C T L) (pc' := 45) (lv' := [(4, .int ((nI i) + 1)), (1, .long ((d * 31) + ((sCF (nI c) C.2.2.2.2.2.2.2.2.2.2.2.2.1 C.1 C.2.1 C.2.2.1 C.2.2.2.1 C.2.2.2.2.1 C.2.2.2.2.2.2.1 i).toInt64))), (3, .int (nI c)), (0, .ref 0)]) (st' := []) (L := []) rfl trivial ?_
        refine AW.pick [0, 2, 1, 3] (lv' := [(4, .int ((nI i) + 1)), (3, .int (nI c)), (1, .long ((d * 31) + ((sCF (nI c) C.2.2.2.2.2.2.2.2.2.2.2.2.1 C.1 C.2.1 C.2.2.1 C.2.2.2.1 C.2.2.2.2.1 C.2.2.2.2.2.2.1 i).toInt64))), (0, .ref 0)]) rfl ?_
        rw [nI_1 i]
        exact ih (i + 1) _ (by omega) (by rw [← hf]; simp only [lpN, dg1, dgC, if_neg c1])
    refine AW.blk (amX1_digest _) 24 2 (h' := hM C T L) (pc' := 45) (lv' := [(4, .int 0), (3, .int (nI c)), (1, .long d0), (0, .ref 0)]) (st' := []) (L := []) rfl trivial ?_
    exact K 6 0 d0 rfl hb0
  have K2O : ∀ (k i : Nat) (d : Int64), i + k = 9 → lpN (dg2 C) k i d = F2 → AW G (yX1_digest.cls, cX1_digest, 5, 28) (hM C T L) 0 0 36 [(3, .int (nI i)), (1, .long d), (0, .ref 0)] [] := by
    intro k
    induction k with
    | zero =>
      intro i d hi hf
      refine AW.blk (amX1_digest _) 21 2 (h' := hM C T L) (pc' := 39) (lv' := [(3, .int (nI i)), (1, .long d), (0, .ref 0)]) (st' := [.int 9, .int (nI i)]) (L := []) rfl trivial ?_
      refine AW.br (amX1_digest _) 23 (tgt := 82) (C := 9 ≤ (nI i)) (C' := ¬ 9 ≤ (nI i)) (st' := []) rfl rfl rfl (fun c1 => ?_) (fun c1 => absurd (nI_le (a := 9) (b := i) (by omega) (by omega)) c1)
      refine AW.pick [1, 2] (lv' := [(1, .long d), (0, .ref 0)]) rfl ?_
      exact E2 _ hf
    | succ k ih =>
      intro i d hi hf
      refine AW.blk (amX1_digest _) 21 2 (h' := hM C T L) (pc' := 39) (lv' := [(3, .int (nI i)), (1, .long d), (0, .ref 0)]) (st' := [.int 9, .int (nI i)]) (L := []) rfl trivial ?_
      refine AW.br (amX1_digest _) 23 (tgt := 82) (C := 9 ≤ (nI i)) (C' := ¬ 9 ≤ (nI i)) (st' := []) rfl rfl rfl (fun c1 => absurd c1 (nI_ge (a := i) (b := 9) (by omega) (by decide))) (fun c1 => ?_)
      refine K2I i _ (by omega) ?_ d rfl
      refine AW.blk (amX1_digest _) 42 2 (h' := hM C T L) (pc' := 36) (lv' := [(3, .int ((nI i) + 1)), (1, .long (dg2 C i d)), (0, .ref 0)]) (st' := []) (L := []) rfl trivial ?_
      rw [nI_1 i]
      exact ih (i + 1) _ (by omega) (by rw [← hf]; simp only [lpN])
  obtain ⟨F1, hF1⟩ : ∃ z, z = lpN (dg1 (dgG C)) 8 0 1033 := ⟨_, rfl⟩
  have E1 : ∀ (d : Int64), d = F1 → AW G (yX1_digest.cls, cX1_digest, 5, 28) (hM C T L) 0 0 34 [(1, .long d), (0, .ref 0)] [] := by
    intro d hf
    refine AW.blk (amX1_digest _) 19 2 (h' := hM C T L) (pc' := 36) (lv' := [(3, .int 0), (1, .long d), (0, .ref 0)]) (st' := []) (L := []) rfl trivial ?_
    exact K2O 9 0 d rfl (by rw [hF2, hf, hF1])
  have K1 : ∀ (k i : Nat) (d : Int64), i + k = 8 → lpN (dg1 (dgG C)) k i d = F1 → AW G (yX1_digest.cls, cX1_digest, 5, 28) (hM C T L) 0 0 6 [(3, .int (nI i)), (1, .long d), (0, .ref 0)] [] := by
    intro k
    induction k with
    | zero =>
      intro i d hi hf
      refine AW.blk (amX1_digest _) 4 2 (h' := hM C T L) (pc' := 9) (lv' := [(3, .int (nI i)), (1, .long d), (0, .ref 0)]) (st' := [.int 8, .int (nI i)]) (L := []) rfl trivial ?_
      refine AW.br (amX1_digest _) 6 (tgt := 34) (C := 8 ≤ (nI i)) (C' := ¬ 8 ≤ (nI i)) (st' := []) rfl rfl rfl (fun c1 => ?_) (fun c1 => absurd (nI_le (a := 8) (b := i) (by omega) (by omega)) c1)
      refine AW.pick [1, 2] (lv' := [(1, .long d), (0, .ref 0)]) rfl ?_
      exact E1 _ hf
    | succ k ih =>
      intro i d hi hf
      refine AW.blk (amX1_digest _) 4 2 (h' := hM C T L) (pc' := 9) (lv' := [(3, .int (nI i)), (1, .long d), (0, .ref 0)]) (st' := [.int 8, .int (nI i)]) (L := []) rfl trivial ?_
      refine AW.br (amX1_digest _) 6 (tgt := 34) (C := 8 ≤ (nI i)) (C' := ¬ 8 ≤ (nI i)) (st' := []) rfl rfl rfl (fun c1 => absurd c1 (nI_ge (a := i) (b := 8) (by omega) (by decide))) (fun c1 => ?_)
      refine AW.blk (amX1_digest _) 7 1 (h' := hM C T L) (pc' := 13) (lv' := [(3, .int (nI i)), (1, .long d), (0, .ref 0)]) (st' := [.long d]) (L := []) rfl trivial ?_
      refine AW.ldcL (amX1_digest _) 8 31 rfl kcX1_135 ?_
      refine AW.blk (amX1_digest _) 9 4 (h' := hM C T L) (pc' := 22) (lv' := [(3, .int (nI i)), (1, .long d), (0, .ref 0)]) (st' := [.int (nI i), .ref 1, .long (d * 31)]) (L := []) rfl trivial ?_
      refine AW.callVp (amX1_digest _) 13 (kX0_cityFact C.1 C.2.1 C.2.2.1 C.2.2.2.1 C.2.2.2.2.1 C.2.2.2.2.2.1 C.2.2.2.2.2.2.1 C.2.2.2.2.2.2.2.1 C.2.2.2.2.2.2.2.2.1 C.2.2.2.2.2.2.2.2.2.1 C.2.2.2.2.2.2.2.2.2.2.1 C.2.2.2.2.2.2.2.2.2.2.2.1 C.2.2.2.2.2.2.2.2.2.2.2.2.1 C.2.2.2.2.2.2.2.2.2.2.2.2.2 i (by omega)) rfl rfl [1, 2, 3, 4, 5, 6, 7, 8, 9, 10, 11, 12, 13] [] ykX0_cityFact yiX0_cityFact yvX0_cityFact mlX1_102 rfl rfl rfl rfl hR ⟨Nat.le_of_ble_eq_true rfl, Nat.le_of_ble_eq_true rfl, Nat.le_of_ble_eq_true rfl, Nat.le_of_ble_eq_true rfl⟩ rfl rfl rfl rfl rfl (fun _ => rfl) (h1 := hM C T L) rfl (st' := [.int (sGF C.2.2.2.2.2.2.2.2.2.2.2.2.1 C.2.2.2.2.2.2.2.2.2.2.2.2.2 C.1 C.2.2.2.1 C.2.2.2.2.2.2.2.2.2.1 C.2.2.2.2.2.2.2.2.2.2.1 C.2.2.2.2.2.2.2.2.2.2.2.1 i), .long (d * 31)]) rfl ?_
      refine AW.blk (amX1_digest _) 14 5 (h' := hM C T L) (pc' := 6) (lv' := [(3, .int ((nI i) + 1)), (1, .long ((d * 31) + ((sGF C.2.2.2.2.2.2.2.2.2.2.2.2.1 C.2.2.2.2.2.2.2.2.2.2.2.2.2 C.1 C.2.2.2.1 C.2.2.2.2.2.2.2.2.2.1 C.2.2.2.2.2.2.2.2.2.2.1 C.2.2.2.2.2.2.2.2.2.2.2.1 i).toInt64))), (0, .ref 0)]) (st' := []) (L := []) rfl trivial ?_
      rw [nI_1 i]
      exact ih (i + 1) _ (by omega) (by rw [← hf]; simp only [lpN, dg1, dgG, if_neg c1])
  refine AW.ldcL (amX1_digest _) 0 1033 rfl kcX1_133 ?_
  refine AW.blk (amX1_digest _) 1 3 (h' := hM C T L) (pc' := 6) (lv' := [(3, .int 0), (1, .long 1033), (0, .ref 0)]) (st' := []) (L := []) rfl trivial ?_
  exact K1 8 0 1033 rfl hF1.symm
end
section
/-! ===== new MudSweepers() ===== -/
theorem kclX1_7 : Cond.classLink RX1 7 RX0 ∈ kwl := by decide +kernel
theorem kclX3_25 : Cond.classLink RX3 25 RX2 ∈ kwl := by decide +kernel
theorem kins0 : Cond.instantiable RX0 14 ∈ kwl := by decide +kernel
theorem kini0 : Cond.initialized RX0 ∈ kwl := by decide +kernel
theorem dfX0 : ∀ j, j < 14 → defaultValue (tyX0 j) = vp_V [.null, .null, .null, .null, .null, .null, .null, .null, .null, .null, .null, .null, .int 0, .int 0] j := by decide +kernel
theorem kins1 : Cond.instantiable RX1 3 ∈ kwl := by decide +kernel
theorem kini1 : Cond.initialized RX1 ∈ kwl := by decide +kernel
theorem dfX1 : ∀ j, j < 3 → defaultValue (tyX1 j) = vp_V [.null, .null, .null] j := by decide +kernel
theorem kins2 : Cond.instantiable RX2 10 ∈ kwl := by decide +kernel
theorem kini2 : Cond.initialized RX2 ∈ kwl := by decide +kernel
theorem dfX2 : ∀ j, j < 10 → defaultValue (tyX2 j) = vp_V [.int 0, .null, .null, .null, .null, .null, .null, .null, .null, .null] j := by decide +kernel
theorem kins3 : Cond.instantiable RX3 9 ∈ kwl := by decide +kernel
theorem kini3 : Cond.initialized RX3 ∈ kwl := by decide +kernel
theorem dfX3 : ∀ j, j < 9 → defaultValue (tyX3 j) = vp_V [.int 0, .null, .null, .null, .int 0, .null, .null, .null, .null] j := by decide +kernel
theorem kX0_initS : AMet yX0_init cX0_init 2 none { frames := 1, cells := 12, slots := 101, locals := 40 } [.ref 0] [aO 0 [.null, .null, .null, .null, .null, .null, .null, .null, .null, .null, .null, .null, .int 0, .int 0]] none ([aO 0 [.ref 1, .ref 2, .ref 3, .ref 4, .ref 5, .ref 6, .ref 7, .ref 8, .ref 9, .ref 10, .ref 11, .ref 12, .int sC0.2.2.2.2.2.2.2.2.2.2.2.2.1, .int sC0.2.2.2.2.2.2.2.2.2.2.2.2.2]] ++ [aI 9 sC0.1, aI 9 sC0.2.1, aI 9 sC0.2.2.1, aI 9 sC0.2.2.2.1, aI 9 sC0.2.2.2.2.1, aI 8 sC0.2.2.2.2.2.1, aI 8 sC0.2.2.2.2.2.2.1, aI 8 sC0.2.2.2.2.2.2.2.1, aI 8 sC0.2.2.2.2.2.2.2.2.1, aI 8 sC0.2.2.2.2.2.2.2.2.2.1, aI 8 sC0.2.2.2.2.2.2.2.2.2.2.1, aI 8 sC0.2.2.2.2.2.2.2.2.2.2.2.1]) := kX0_init
set_option maxHeartbeats 2000000 in
theorem kX1_init  : AMet yX1_init cX1_init 1 none { frames := 2, cells := 27, slots := 239, locals := 61 } [.ref 0] ([aO 1 [.null, .null, .null]]) none (hM sC0 sC0 (fun _ => 0)) := by
  refine AMet.of (by decide) rfl ?_
  intro G hR hE hI
  refine AW.blk (amX1_init _) 0 1 (h' := [aO 1 [.null, .null, .null]]) (pc' := 1) (lv' := [(0, .ref 0)]) (st' := [.ref 0]) (L := []) rfl trivial ?_
  refine AW.objInit (amX1_init _) 1 rfl kobX1_1 rfl hR ⟨(Nat.le_of_ble_eq_true rfl), (Nat.le_of_ble_eq_true rfl)⟩ ?_
  refine AW.blk (amX1_init _) 2 1 (h' := [aO 1 [.null, .null, .null]]) (pc' := 5) (lv' := [(0, .ref 0)]) (st' := [.ref 0]) (L := []) rfl trivial ?_
  refine AW.newobj (fs := [.null, .null, .null, .null, .null, .null, .null, .null, .null, .null, .null, .null, .int 0, .int 0]) (tb_at (amX1_init _).1 3 rfl) (ci := 0) rfl tyX0_ok kclX1_7 kins0 kini0 (fun _ => rfl) dfX0 hR (Nat.le_of_ble_eq_true rfl) (Nat.le_of_ble_eq_true rfl) rfl rfl rfl (h1 := [aO 1 [.null, .null, .null], aO 0 [.null, .null, .null, .null, .null, .null, .null, .null, .null, .null, .null, .null, .int 0, .int 0]]) rfl (st' := [.ref 1, .ref 0]) rfl ?_
  refine AW.blk (amX1_init _) 4 1 (h' := [aO 1 [.null, .null, .null], aO 0 [.null, .null, .null, .null, .null, .null, .null, .null, .null, .null, .null, .null, .int 0, .int 0]]) (pc' := 9) (lv' := [(0, .ref 0)]) (st' := [.ref 1, .ref 1, .ref 0]) (L := []) rfl trivial ?_
  refine AW.callI (amX1_init _) 5 kX0_initS [1] [] ykX0_init yiX0_init rfl mlX1_9 rfl rfl rfl rfl hR ⟨Nat.le_of_ble_eq_true rfl, Nat.le_of_ble_eq_true rfl, Nat.le_of_ble_eq_true rfl, Nat.le_of_ble_eq_true rfl⟩ rfl rfl rfl rfl rfl rfl rfl rfl rfl rfl (fun _ => rfl) (h1 := [aO 1 [.null, .null, .null]] ++ hCb 1 sC0) rfl (st' := [.ref 1, .ref 0]) rfl ?_
  refine AW.putF (amX1_init _) 6 (ci := 1) (N := 3) (j := 0) (C := RX1) (T := TX1) rfl (hI rfl) rfl (by decide) kpfX1_10 rfl rfl kpd1_0 (fun _ => ⟨rfl, rfl⟩) rfl rfl (h1 := [aO 1 [.ref 1, .null, .null]] ++ hCb 1 sC0) rfl ?_
  refine AW.blk (amX1_init _) 7 1 (h' := [aO 1 [.ref 1, .null, .null]] ++ hCb 1 sC0) (pc' := 16) (lv' := [(0, .ref 0)]) (st' := [.ref 0]) (L := []) rfl trivial ?_
  refine AW.newobj (fs := [.null, .null, .null, .null, .null, .null, .null, .null, .null, .null, .null, .null, .int 0, .int 0]) (tb_at (amX1_init _).1 8 rfl) (ci := 0) rfl tyX0_ok kclX1_7 kins0 kini0 (fun _ => rfl) dfX0 hR (Nat.le_of_ble_eq_true rfl) (Nat.le_of_ble_eq_true rfl) rfl rfl rfl (h1 := [aO 1 [.ref 1, .null, .null]] ++ hCb 1 sC0 ++ [aO 0 [.null, .null, .null, .null, .null, .null, .null, .null, .null, .null, .null, .null, .int 0, .int 0]]) rfl (st' := [.ref 14, .ref 0]) rfl ?_
  refine AW.blk (amX1_init _) 9 1 (h' := [aO 1 [.ref 1, .null, .null]] ++ hCb 1 sC0 ++ [aO 0 [.null, .null, .null, .null, .null, .null, .null, .null, .null, .null, .null, .null, .int 0, .int 0]]) (pc' := 20) (lv' := [(0, .ref 0)]) (st' := [.ref 14, .ref 14, .ref 0]) (L := []) rfl trivial ?_
  refine AW.callI (amX1_init _) 10 kX0_initS [14] [] ykX0_init yiX0_init rfl mlX1_9 rfl rfl rfl rfl hR ⟨Nat.le_of_ble_eq_true rfl, Nat.le_of_ble_eq_true rfl, Nat.le_of_ble_eq_true rfl, Nat.le_of_ble_eq_true rfl⟩ rfl rfl rfl rfl rfl rfl rfl rfl rfl rfl (fun _ => rfl) (h1 := [aO 1 [.ref 1, .null, .null]] ++ hCb 1 sC0 ++ hCb 14 sC0) rfl (st' := [.ref 14, .ref 0]) rfl ?_
  refine AW.putF (amX1_init _) 11 (ci := 1) (N := 3) (j := 1) (C := RX1) (T := TX1) rfl (hI rfl) rfl (by decide) kpfX1_16 rfl rfl kpd1_1 (fun _ => ⟨rfl, rfl⟩) rfl rfl (h1 := [aO 1 [.ref 1, .ref 14, .null]] ++ hCb 1 sC0 ++ hCb 14 sC0) rfl ?_
  refine AW.blk (amX1_init _) 12 2 (h' := [aO 1 [.ref 1, .ref 14, .null]] ++ hCb 1 sC0 ++ hCb 14 sC0) (pc' := 29) (lv' := [(0, .ref 0)]) (st' := [.int 9, .ref 0]) (L := []) rfl trivial ?_
  refine AW.newarr (amX1_init _) 14 9 rfl (by decide) (by decide) rfl hR (Nat.le_of_ble_eq_true rfl) (Nat.le_of_ble_eq_true rfl) rfl rfl rfl (h1 := [aO 1 [.ref 1, .ref 14, .null]] ++ hCb 1 sC0 ++ hCb 14 sC0 ++ [aI 9 (fun _ => 0)]) rfl (st' := [.ref 27, .ref 0]) rfl ?_
  refine AW.putF (amX1_init _) 15 (ci := 1) (N := 3) (j := 2) (C := RX1) (T := TX1) rfl (hI rfl) rfl (by decide) kpfX1_19 rfl rfl kpd1_2 (fun _ => ⟨rfl, rfl⟩) rfl rfl (h1 := hM sC0 sC0 (fun _ => 0)) rfl ?_
  exact AW.vretE (amX1_init _) 16 hE rfl rfl rfl rfl rfl
end
section
/-! ===== the reference: its state's methods ===== -/
def hS (th : Int32) (mud car wal hol paid rain place str bro pen swe dri : Nat → Int32) (n q : Int32) : aH := [aO 2 [.int q, .ref 1, .ref 2, .ref 3, .ref 4, .ref 5, .ref 6, .ref 7, .ref 8, .ref 9], aI 9 mud, aI 9 hol, aI 9 paid, aI 8 place, aI 8 bro, aI 8 pen, aI 8 swe, aI 8 dri, aO 3 [.int th, .ref 10, .ref 11, .ref 12, .int n, .ref 13, .ref 100, .ref 101, .ref 102], aI 9 car, aI 9 wal, aI 8 rain, aI 8 str]
def vP (N : Nat) (place : Nat → Int32) : Prop := ∀ i, i < N → vp_in (place (nI i).toNatClampNeg) 9
def vH (N : Nat) (hol : Nat → Int32) : Prop := ∀ x : Int32, vp_in x 9 → hol x.toNatClampNeg = -1 ∨ ∃ h, h < N ∧ hol x.toNatClampNeg = nI h
def vW (wal : Nat → Int32) : Prop := ∀ x : Int32, vp_in x 9 → ¬ wal x.toNatClampNeg < 0
theorem swN {N i : Nat} (hN : N ≤ 8) (hi : i < N) : ¬ sSw (nI i) (nI N) = 0 := sSw_one (by omega) (nI_ge hi (by omega))
theorem crV {x : Int32} (h : vp_in x 9) : ¬ sCr x = 0 := by
  obtain ⟨j, hj, rfl⟩ := vp_in_of h (by decide)
  exact sCr_one hj
theorem swM (n : Int32) : sSw (-1) n = 0 := by unfold sSw; rw [if_pos (by decide)]
theorem vHin {N : Nat} {hol : Nat → Int32} {x : Int32} (hN : N ≤ 8) (hH : vH N hol) (hx : vp_in x 9) (hne : ¬ hol x.toNatClampNeg = -1) : vp_in (hol x.toNatClampNeg) 8 := by
  rcases hH x hx with h | ⟨j, hj, h⟩
  · exact absurd h hne
  · rw [h]; exact vpi (by omega) rfl
theorem vHsw {N : Nat} {hol : Nat → Int32} {x : Int32} (hN : N ≤ 8) (hH : vH N hol) (hx : vp_in x 9) (hne : ¬ hol x.toNatClampNeg = -1) : ¬ sSw (hol x.toNatClampNeg) (nI N) = 0 := by
  rcases hH x hx with h | ⟨j, hj, h⟩
  · exact absurd h hne
  · rw [h]; exact swN hN hj
theorem nb_in {x : Int32} (hx : vp_in x 9) : ∀ (d : Nat), d < 4 → sNb x d = -1 ∨ vp_in (sNb x d) 9 := by
  obtain ⟨j, hj, rfl⟩ := vp_in_of hx (by decide)
  have key : ∀ j, j < 9 → ∀ d, d < 4 → sNb (nI j) d = -1 ∨ ∃ k, k < 9 ∧ sNb (nI j) d = nI k := by decide +kernel
  intro d hd
  rcases key j hj d hd with h | ⟨k, hk, h⟩
  · exact Or.inl h
  · exact Or.inr (by rw [h]; exact vpi hk rfl)
set_option maxHeartbeats 2000000 in
theorem kX3_beside_0 (c : Int32) : AMet yX3_beside cX3_beside 2 (some .int) { frames := 0, cells := 0, slots := 0, locals := 0 } [.int c, .int (nI 0)] ([]) (some (.int (sNb c 0))) ([]) := by
  refine AMet.of (by decide) rfl ?_
  intro G hR hE hI
  refine AW.blk (amX3_beside _) 0 1 (h' := []) (pc' := 1) (lv' := [(0, .int c), (1, .int (nI 0))]) (st' := [.int (nI 0)]) (L := []) rfl trivial ?_
  refine AW.br (amX3_beside _) 1 (tgt := 18) (C := ¬ (nI 0) = 0) (C' := (nI 0) = 0) (st' := []) rfl rfl rfl (fun c1 => absurd (show (nI 0 : Int32) = 0 by decide) c1) (fun c1 => ?_)
  refine AW.blk (amX3_beside _) 2 3 (h' := []) (pc' := 7) (lv' := [(0, .int c), (1, .int (nI 0))]) (st' := [.int (c - c / 3 * 3)]) (L := [¬ 3 = 0]) rfl (show ¬ (3 : Int32) = 0 by decide) ?_
  refine AW.br (amX3_beside _) 5 (tgt := 16) (C := (c - c / 3 * 3) ≤ 0) (C' := ¬ (c - c / 3 * 3) ≤ 0) (st' := []) rfl rfl rfl (fun c2 => ?_) (fun c2 => ?_)
  · refine AW.blk (amX3_beside _) 10 1 (h' := []) (pc' := 17) (lv' := [(0, .int c), (1, .int (nI 0))]) (st' := [.int ((-1))]) (L := []) rfl trivial ?_
    exact AW.iretE (amX3_beside _) 11 hE rfl rfl (by first | rfl | exact narrow_b _ (by decide)) rfl rfl (by simp only [sNb, if_pos c1, if_pos c2]) rfl
  · refine AW.blk (amX3_beside _) 6 4 (h' := []) (pc' := 17) (lv' := [(0, .int c), (1, .int (nI 0))]) (st' := [.int (c - 1)]) (L := []) rfl trivial ?_
    exact AW.iretE (amX3_beside _) 11 hE rfl rfl (by first | rfl | exact narrow_b _ (by decide)) rfl rfl (by simp only [sNb, if_pos c1, if_neg c2]) rfl
set_option maxHeartbeats 2000000 in
theorem kX3_beside_1 (c : Int32) : AMet yX3_beside cX3_beside 2 (some .int) { frames := 0, cells := 0, slots := 0, locals := 0 } [.int c, .int (nI 1)] ([]) (some (.int (sNb c 1))) ([]) := by
  refine AMet.of (by decide) rfl ?_
  intro G hR hE hI
  refine AW.blk (amX3_beside _) 0 1 (h' := []) (pc' := 1) (lv' := [(0, .int c), (1, .int (nI 1))]) (st' := [.int (nI 1)]) (L := []) rfl trivial ?_
  refine AW.br (amX3_beside _) 1 (tgt := 18) (C := ¬ (nI 1) = 0) (C' := (nI 1) = 0) (st' := []) rfl rfl rfl (fun c1 => ?_) (fun c1 => absurd c1 (show ¬ (nI 1 : Int32) = 0 by decide))
  refine AW.blk (amX3_beside _) 12 2 (h' := []) (pc' := 20) (lv' := [(0, .int c), (1, .int (nI 1))]) (st' := [.int 1, .int (nI 1)]) (L := []) rfl trivial ?_
  refine AW.br (amX3_beside _) 14 (tgt := 38) (C := ¬ (nI 1) = 1) (C' := (nI 1) = 1) (st' := []) rfl rfl rfl (fun c2 => absurd (show (nI 1 : Int32) = 1 by decide) c2) (fun c2 => ?_)
  refine AW.blk (amX3_beside _) 15 4 (h' := []) (pc' := 27) (lv' := [(0, .int c), (1, .int (nI 1))]) (st' := [.int 2, .int (c - c / 3 * 3)]) (L := [¬ 3 = 0]) rfl (show ¬ (3 : Int32) = 0 by decide) ?_
  refine AW.br (amX3_beside _) 19 (tgt := 36) (C := 2 ≤ (c - c / 3 * 3)) (C' := ¬ 2 ≤ (c - c / 3 * 3)) (st' := []) rfl rfl rfl (fun c3 => ?_) (fun c3 => ?_)
  · refine AW.blk (amX3_beside _) 24 1 (h' := []) (pc' := 37) (lv' := [(0, .int c), (1, .int (nI 1))]) (st' := [.int ((-1))]) (L := []) rfl trivial ?_
    exact AW.iretE (amX3_beside _) 25 hE rfl rfl (by first | rfl | exact narrow_b _ (by decide)) rfl rfl (by simp only [sNb, if_neg c1, if_pos c2, if_pos c3]) rfl
  · refine AW.blk (amX3_beside _) 20 4 (h' := []) (pc' := 37) (lv' := [(0, .int c), (1, .int (nI 1))]) (st' := [.int (c + 1)]) (L := []) rfl trivial ?_
    exact AW.iretE (amX3_beside _) 25 hE rfl rfl (by first | rfl | exact narrow_b _ (by decide)) rfl rfl (by simp only [sNb, if_neg c1, if_pos c2, if_neg c3]) rfl
set_option maxHeartbeats 2000000 in
theorem kX3_beside_2 (c : Int32) : AMet yX3_beside cX3_beside 2 (some .int) { frames := 0, cells := 0, slots := 0, locals := 0 } [.int c, .int (nI 2)] ([]) (some (.int (sNb c 2))) ([]) := by
  refine AMet.of (by decide) rfl ?_
  intro G hR hE hI
  refine AW.blk (amX3_beside _) 0 1 (h' := []) (pc' := 1) (lv' := [(0, .int c), (1, .int (nI 2))]) (st' := [.int (nI 2)]) (L := []) rfl trivial ?_
  refine AW.br (amX3_beside _) 1 (tgt := 18) (C := ¬ (nI 2) = 0) (C' := (nI 2) = 0) (st' := []) rfl rfl rfl (fun c1 => ?_) (fun c1 => absurd c1 (show ¬ (nI 2 : Int32) = 0 by decide))
  refine AW.blk (amX3_beside _) 12 2 (h' := []) (pc' := 20) (lv' := [(0, .int c), (1, .int (nI 2))]) (st' := [.int 1, .int (nI 2)]) (L := []) rfl trivial ?_
  refine AW.br (amX3_beside _) 14 (tgt := 38) (C := ¬ (nI 2) = 1) (C' := (nI 2) = 1) (st' := []) rfl rfl rfl (fun c2 => ?_) (fun c2 => absurd c2 (show ¬ (nI 2 : Int32) = 1 by decide))
  refine AW.blk (amX3_beside _) 26 2 (h' := []) (pc' := 40) (lv' := [(0, .int c), (1, .int (nI 2))]) (st' := [.int 2, .int (nI 2)]) (L := []) rfl trivial ?_
  refine AW.br (amX3_beside _) 28 (tgt := 58) (C := ¬ (nI 2) = 2) (C' := (nI 2) = 2) (st' := []) rfl rfl rfl (fun c3 => absurd (show (nI 2 : Int32) = 2 by decide) c3) (fun c3 => ?_)
  refine AW.blk (amX3_beside _) 29 2 (h' := []) (pc' := 45) (lv' := [(0, .int c), (1, .int (nI 2))]) (st' := [.int 3, .int c]) (L := []) rfl trivial ?_
  refine AW.br (amX3_beside _) 31 (tgt := 54) (C := c < 3) (C' := ¬ c < 3) (st' := []) rfl rfl rfl (fun c4 => ?_) (fun c4 => ?_)
  · refine AW.blk (amX3_beside _) 36 2 (h' := []) (pc' := 71) (lv' := [(0, .int c), (1, .int (nI 2))]) (st' := [.int ((-1))]) (L := []) rfl trivial ?_
    exact AW.iretE (amX3_beside _) 46 hE rfl rfl (by first | rfl | exact narrow_b _ (by decide)) rfl rfl (by simp only [sNb, if_neg c1, if_neg c2, if_pos c3, if_pos c4]) rfl
  · refine AW.blk (amX3_beside _) 32 4 (h' := []) (pc' := 71) (lv' := [(0, .int c), (1, .int (nI 2))]) (st' := [.int (c - 3)]) (L := []) rfl trivial ?_
    exact AW.iretE (amX3_beside _) 46 hE rfl rfl (by first | rfl | exact narrow_b _ (by decide)) rfl rfl (by simp only [sNb, if_neg c1, if_neg c2, if_pos c3, if_neg c4]) rfl
set_option maxHeartbeats 2000000 in
theorem kX3_beside_3 (c : Int32) : AMet yX3_beside cX3_beside 2 (some .int) { frames := 0, cells := 0, slots := 0, locals := 0 } [.int c, .int (nI 3)] ([]) (some (.int (sNb c 3))) ([]) := by
  refine AMet.of (by decide) rfl ?_
  intro G hR hE hI
  refine AW.blk (amX3_beside _) 0 1 (h' := []) (pc' := 1) (lv' := [(0, .int c), (1, .int (nI 3))]) (st' := [.int (nI 3)]) (L := []) rfl trivial ?_
  refine AW.br (amX3_beside _) 1 (tgt := 18) (C := ¬ (nI 3) = 0) (C' := (nI 3) = 0) (st' := []) rfl rfl rfl (fun c1 => ?_) (fun c1 => absurd c1 (show ¬ (nI 3 : Int32) = 0 by decide))
  refine AW.blk (amX3_beside _) 12 2 (h' := []) (pc' := 20) (lv' := [(0, .int c), (1, .int (nI 3))]) (st' := [.int 1, .int (nI 3)]) (L := []) rfl trivial ?_
  refine AW.br (amX3_beside _) 14 (tgt := 38) (C := ¬ (nI 3) = 1) (C' := (nI 3) = 1) (st' := []) rfl rfl rfl (fun c2 => ?_) (fun c2 => absurd c2 (show ¬ (nI 3 : Int32) = 1 by decide))
  refine AW.blk (amX3_beside _) 26 2 (h' := []) (pc' := 40) (lv' := [(0, .int c), (1, .int (nI 3))]) (st' := [.int 2, .int (nI 3)]) (L := []) rfl trivial ?_
  refine AW.br (amX3_beside _) 28 (tgt := 58) (C := ¬ (nI 3) = 2) (C' := (nI 3) = 2) (st' := []) rfl rfl rfl (fun c3 => ?_) (fun c3 => absurd c3 (show ¬ (nI 3 : Int32) = 2 by decide))
  refine AW.blk (amX3_beside _) 38 2 (h' := []) (pc' := 61) (lv' := [(0, .int c), (1, .int (nI 3))]) (st' := [.int 6, .int c]) (L := []) rfl trivial ?_
  refine AW.br (amX3_beside _) 40 (tgt := 70) (C := 6 ≤ c) (C' := ¬ 6 ≤ c) (st' := []) rfl rfl rfl (fun c4 => ?_) (fun c4 => ?_)
  · refine AW.blk (amX3_beside _) 45 1 (h' := []) (pc' := 71) (lv' := [(0, .int c), (1, .int (nI 3))]) (st' := [.int ((-1))]) (L := []) rfl trivial ?_
    exact AW.iretE (amX3_beside _) 46 hE rfl rfl (by first | rfl | exact narrow_b _ (by decide)) rfl rfl (by simp only [sNb, if_neg c1, if_neg c2, if_neg c3, if_pos c4]) rfl
  · refine AW.blk (amX3_beside _) 41 4 (h' := []) (pc' := 71) (lv' := [(0, .int c), (1, .int (nI 3))]) (st' := [.int (c + 3)]) (L := []) rfl trivial ?_
    exact AW.iretE (amX3_beside _) 46 hE rfl rfl (by first | rfl | exact narrow_b _ (by decide)) rfl rfl (by simp only [sNb, if_neg c1, if_neg c2, if_neg c3, if_neg c4]) rfl
theorem kX3_beside (c : Int32) : ∀ (d : Nat), d < 4 → AMet yX3_beside cX3_beside 2 (some .int) { frames := 0, cells := 0, slots := 0, locals := 0 } [.int c, .int (nI d)] [] (some (.int (sNb c d))) []
  | 0, _ => kX3_beside_0 c
  | 1, _ => kX3_beside_1 c
  | 2, _ => kX3_beside_2 c
  | 3, _ => kX3_beside_3 c
  | n + 4, h => absurd h (by omega)
def hG (th n : Int32) (wal : Nat → Int32) : aH := [aO 3 [.int th, .ref 103, .ref 1, .ref 104, .int n, .ref 105, .ref 100, .ref 101, .ref 102], aI 9 wal]
def mGo1 (x : Int32) (wal : Nat → Int32) (d : Nat) (b : Int32) : Int32 := if sNb x d = -1 then b else if b = -1 then sNb x d else if wal (sNb x d).toNatClampNeg ≤ wal b.toNatClampNeg then b else sNb x d
def mGo (x : Int32) (wal : Nat → Int32) : Int32 := lpN (mGo1 x wal) 4 0 (-1)
theorem mGo1_in {x b : Int32} {wal : Nat → Int32} {d : Nat} (hx : vp_in x 9) (hd : d < 4) (hb : b = -1 ∨ vp_in b 9) : mGo1 x wal d b = -1 ∨ vp_in (mGo1 x wal d b) 9 := by
  unfold mGo1
  split
  · exact hb
  · rename_i h
    have h2 := (nb_in hx d hd).resolve_left h
    split
    · exact Or.inr h2
    · split
      · exact hb
      · exact Or.inr h2
set_option maxHeartbeats 2000000 in
theorem kX3_goesTo (th n : Int32) (wal : Nat → Int32) (x : Int32) (hx : vp_in x 9) : AMet yX3_goesTo cX3_goesTo 5 (some .int) { frames := 1, cells := 0, slots := 0, locals := 21 } [.ref 0, .int x] (hG th n wal) (some (.int (mGo x wal))) (hG th n wal) := by
  refine AMet.of (by decide) rfl ?_
  intro G hR hE hI
  have E : ∀ (b : Int32), b = mGo x wal → AW G (yX3_goesTo.cls, cX3_goesTo, 5, 2) (hG th n wal) 0 0 52 [(2, .int b), (0, .ref 0)] [] := by
    intro b hf
    refine AW.blk (amX3_goesTo _) 30 1 (h' := hG th n wal) (pc' := 53) (lv' := [(2, .int b), (0, .ref 0)]) (st' := [.int b]) (L := []) rfl trivial ?_
    exact AW.iretE (amX3_goesTo _) 31 hE rfl rfl (by first | rfl | exact narrow_b _ (by decide)) rfl rfl (by rw [← hf]) (by first | rfl | (rw [← hf]))
  have K : ∀ (k i : Nat) (b : Int32), (b = -1 ∨ vp_in b 9) → i + k = 4 → lpN (mGo1 x wal) k i b = mGo x wal → AW G (yX3_goesTo.cls, cX3_goesTo, 5, 2) (hG th n wal) 0 0 4 [(3, .int (nI i)), (1, .int x), (2, .int b), (0, .ref 0)] [] := by
    intro k
    induction k with
    | zero =>
      intro i b hb hi hf
      refine AW.blk (amX3_goesTo _) 4 2 (h' := hG th n wal) (pc' := 6) (lv' := [(3, .int (nI i)), (1, .int x), (2, .int b), (0, .ref 0)]) (st' := [.int 4, .int (nI i)]) (L := []) rfl trivial ?_
      refine AW.br (amX3_goesTo _) 6 (tgt := 52) (C := 4 ≤ (nI i)) (C' := ¬ 4 ≤ (nI i)) (st' := []) rfl rfl rfl (fun c1 => ?_) (fun c1 => absurd (nI_le (a := 4) (b := i) (by omega) (by omega)) c1)
      refine AW.pick [2, 3] (lv' := [(2, .int b), (0, .ref 0)]) rfl ?_
      exact E _ hf
    | succ k ih =>
      intro i b hb hi hf
      refine AW.blk (amX3_goesTo _) 4 2 (h' := hG th n wal) (pc' := 6) (lv' := [(3, .int (nI i)), (1, .int x), (2, .int b), (0, .ref 0)]) (st' := [.int 4, .int (nI i)]) (L := []) rfl trivial ?_
      refine AW.br (amX3_goesTo _) 6 (tgt := 52) (C := 4 ≤ (nI i)) (C' := ¬ 4 ≤ (nI i)) (st' := []) rfl rfl rfl (fun c1 => absurd c1 (nI_ge (a := i) (b := 4) (by omega) (by decide))) (fun c1 => ?_)
      refine AW.blk (amX3_goesTo _) 7 2 (h' := hG th n wal) (pc' := 11) (lv' := [(3, .int (nI i)), (1, .int x), (2, .int b), (0, .ref 0)]) (st' := [.int (nI i), .int x]) (L := []) rfl trivial ?_
      refine AW.callS (amX3_goesTo _) 9 (kX3_beside x i (by omega)) [] [] ykX3_beside ysX3_beside mlX3_51 rfl rfl rfl rfl hR ⟨Nat.le_of_ble_eq_true rfl, Nat.le_of_ble_eq_true rfl, Nat.le_of_ble_eq_true rfl, Nat.le_of_ble_eq_true rfl⟩ rfl rfl rfl rfl rfl (fun _ => rfl) (h1 := hG th n wal) rfl (st' := [.int (sNb x i)]) rfl ?_
      refine AW.blk (amX3_goesTo _) 10 3 (h' := hG th n wal) (pc' := 19) (lv' := [(4, .int (sNb x i)), (3, .int (nI i)), (1, .int x), (2, .int b), (0, .ref 0)]) (st' := [.int ((-1)), .int (sNb x i)]) (L := []) rfl trivial ?_
      refine AW.br (amX3_goesTo _) 13 (tgt := 46) (C := (sNb x i) = (-1)) (C' := ¬ (sNb x i) = (-1)) (st' := []) rfl rfl rfl (fun c2 => ?_) (fun c2 => ?_)
      · refine AW.blk (amX3_goesTo _) 28 2 (h' := hG th n wal) (pc' := 4) (lv' := [(3, .int ((nI i) + 1)), (4, .int (sNb x i)), (1, .int x), (2, .int b), (0, .ref 0)]) (st' := []) (L := []) rfl trivial ?_
        refine AW.pick [0, 2, 3, 4] (lv' := [(3, .int ((nI i) + 1)), (1, .int x), (2, .int b), (0, .ref 0)]) rfl ?_
        rw [nI_1 i]
        have hs := mGo1_in (wal := wal) hx (show i < 4 by omega) hb
        have hf2 : lpN (mGo1 x wal) k (i + 1) (mGo1 x wal i b) = mGo x wal := hf
        simp only [mGo1, if_neg c1, if_pos c2] at hs hf2
        exact ih (i + 1) _ hs (by omega) hf2
      · refine AW.blk (amX3_goesTo _) 14 2 (h' := hG th n wal) (pc' := 24) (lv' := [(4, .int (sNb x i)), (3, .int (nI i)), (1, .int x), (2, .int b), (0, .ref 0)]) (st' := [.int ((-1)), .int b]) (L := []) rfl trivial ?_
        refine AW.br (amX3_goesTo _) 16 (tgt := 43) (C := b = (-1)) (C' := ¬ b = (-1)) (st' := []) rfl rfl rfl (fun c3 => ?_) (fun c3 => ?_)
        · refine AW.blk (amX3_goesTo _) 26 4 (h' := hG th n wal) (pc' := 4) (lv' := [(3, .int ((nI i) + 1)), (2, .int (sNb x i)), (4, .int (sNb x i)), (1, .int x), (0, .ref 0)]) (st' := []) (L := []) rfl trivial ?_
          refine AW.pick [0, 3, 1, 4] (lv' := [(3, .int ((nI i) + 1)), (1, .int x), (2, .int (sNb x i)), (0, .ref 0)]) rfl ?_
          rw [nI_1 i]
          have hs := mGo1_in (wal := wal) hx (show i < 4 by omega) hb
          have hf2 : lpN (mGo1 x wal) k (i + 1) (mGo1 x wal i b) = mGo x wal := hf
          simp only [mGo1, if_neg c1, if_neg c2, if_pos c3] at hs hf2
          exact ih (i + 1) _ hs (by omega) hf2
        · refine AW.blk (amX3_goesTo _) 17 8 (h' := hG th n wal) (pc' := 40) (lv' := [(4, .int (sNb x i)), (3, .int (nI i)), (1, .int x), (2, .int b), (0, .ref 0)]) (st' := [.int (wal b.toNatClampNeg), .int (wal (sNb x i).toNatClampNeg)]) (L := [vp_in (sNb x i) 9, vp_in b 9]) rfl ⟨((nb_in hx i (by omega)).resolve_left c2), (hb.resolve_left c3)⟩ ?_
          refine AW.br (amX3_goesTo _) 25 (tgt := 46) (C := (wal (sNb x i).toNatClampNeg) ≤ (wal b.toNatClampNeg)) (C' := ¬ (wal (sNb x i).toNatClampNeg) ≤ (wal b.toNatClampNeg)) (st' := []) rfl rfl rfl (fun c4 => ?_) (fun c4 => ?_)
          · refine AW.blk (amX3_goesTo _) 28 2 (h' := hG th n wal) (pc' := 4) (lv' := [(3, .int ((nI i) + 1)), (4, .int (sNb x i)), (1, .int x), (2, .int b), (0, .ref 0)]) (st' := []) (L := []) rfl trivial ?_
            refine AW.pick [0, 2, 3, 4] (lv' := [(3, .int ((nI i) + 1)), (1, .int x), (2, .int b), (0, .ref 0)]) rfl ?_
            rw [nI_1 i]
            have hs := mGo1_in (wal := wal) hx (show i < 4 by omega) hb
            have hf2 : lpN (mGo1 x wal) k (i + 1) (mGo1 x wal i b) = mGo x wal := hf
            simp only [mGo1, if_neg c1, if_neg c2, if_neg c3, if_pos c4] at hs hf2
            exact ih (i + 1) _ hs (by omega) hf2
          · refine AW.blk (amX3_goesTo _) 26 4 (h' := hG th n wal) (pc' := 4) (lv' := [(3, .int ((nI i) + 1)), (2, .int (sNb x i)), (4, .int (sNb x i)), (1, .int x), (0, .ref 0)]) (st' := []) (L := []) rfl trivial ?_
            refine AW.pick [0, 3, 1, 4] (lv' := [(3, .int ((nI i) + 1)), (1, .int x), (2, .int (sNb x i)), (0, .ref 0)]) rfl ?_
            rw [nI_1 i]
            have hs := mGo1_in (wal := wal) hx (show i < 4 by omega) hb
            have hf2 : lpN (mGo1 x wal) k (i + 1) (mGo1 x wal i b) = mGo x wal := hf
            simp only [mGo1, if_neg c1, if_neg c2, if_neg c3, if_neg c4] at hs hf2
            exact ih (i + 1) _ hs (by omega) hf2
  refine AW.blk (amX3_goesTo _) 0 4 (h' := hG th n wal) (pc' := 4) (lv' := [(3, .int 0), (2, .int ((-1))), (0, .ref 0), (1, .int x)]) (st' := []) (L := []) rfl trivial ?_
  refine AW.pick [0, 3, 1, 2] (lv' := [(3, .int 0), (1, .int x), (2, .int ((-1))), (0, .ref 0)]) rfl ?_
  exact K 4 0 (-1) (Or.inl rfl) rfl rfl
end
section
/-! ===== the reference: holds, sweeps, sweep, pay, look, send, sums ===== -/
theorem mGo_both {x : Int32} {wal : Nat → Int32} (hx : vp_in x 9) (hW : vW wal) : vp_in (mGo x wal) 9 ∧ mGo x wal = sBN x wal := by
  -- after each side both have seen the same neighbours
  have step : ∀ (d : Nat) (b : Int32) (a : Int32 × Int32), d < 4 → ((b = -1 ∧ a = (x, -1)) ∨ (vp_in b 9 ∧ a = (b, wal b.toNatClampNeg))) → ((mGo1 x wal d b = -1 ∧ sBN1 x wal d a = (x, -1)) ∨ (vp_in (mGo1 x wal d b) 9 ∧ sBN1 x wal d a = (mGo1 x wal d b, wal (mGo1 x wal d b).toNatClampNeg))) := by
    intro d b a hd hR
    unfold mGo1 sBN1
    by_cases h1 : sNb x d = -1
    · rw [if_pos h1, if_pos (by rw [h1]; decide)]
      exact hR
    · have h2 := (nb_in hx d hd).resolve_left h1
      rw [if_neg h1, if_neg (crV h2)]
      rcases hR with ⟨rfl, rfl⟩ | ⟨hb, rfl⟩
      · rw [if_pos rfl, if_neg (by
          intro z
          have h3 := hW _ h2
          rw [Int32.lt_iff_toInt_lt, Int32.toInt_zero] at h3
          have z := Int32.le_iff_toInt_le.mp z
          have e : ((-1 : Int32)).toInt = -1 := by decide
          show False
          have z : (wal (sNb x d).toNatClampNeg).toInt ≤ (-1 : Int32).toInt := z
          omega)]
        exact Or.inr ⟨h2, rfl⟩
      · have hbn : ¬ b = -1 := by
          intro z
          rw [z] at hb
          exact absurd hb (by unfold vp_in; decide)
        rw [if_neg hbn]
        by_cases h4 : wal (sNb x d).toNatClampNeg ≤ wal b.toNatClampNeg
        · rw [if_pos h4, if_pos h4]
          exact Or.inr ⟨hb, rfl⟩
        · rw [if_neg h4, if_neg h4]
          exact Or.inr ⟨h2, rfl⟩
  have loop : ∀ (k d : Nat) (b : Int32) (a : Int32 × Int32), d + k = 4 → ((b = -1 ∧ a = (x, -1)) ∨ (vp_in b 9 ∧ a = (b, wal b.toNatClampNeg))) → ((lpN (mGo1 x wal) k d b = -1 ∧ lpN (sBN1 x wal) k d a = (x, -1)) ∨ (vp_in (lpN (mGo1 x wal) k d b) 9 ∧ lpN (sBN1 x wal) k d a = (lpN (mGo1 x wal) k d b, wal (lpN (mGo1 x wal) k d b).toNatClampNeg))) := by
    intro k
    induction k with
    | zero => intro d b a _ h; exact h
    | succ k ih => intro d b a hd h; exact ih (d + 1) _ _ (by omega) (step d b a (by omega) h)
  have hne : ¬ mGo x wal = -1 := by
    obtain ⟨j, hj, rfl⟩ := vp_in_of hx (by decide)
    -- behind the first two sides a neighbour is known
    have st1 : ∀ d b, d < 4 → ¬ b = -1 → ¬ mGo1 (nI j) wal d b = -1 := by
      intro d b hd hb
      unfold mGo1
      split
      · exact hb
      · rename_i h
        split
        · exact hb
        · exact h
    have st2 : ∀ d b, d < 4 → ¬ sNb (nI j) d = -1 → ¬ mGo1 (nI j) wal d b = -1 := by
      intro d b hd h
      unfold mGo1
      rw [if_neg h]
      split
      · exact h
      · rename_i hb
        split
        · exact hb
        · exact h
    have h01 : ∀ j, j < 9 → ¬ sNb (nI j) 0 = -1 ∨ ¬ sNb (nI j) 1 = -1 := by decide +kernel
    show ¬ mGo1 (nI j) wal 3 (mGo1 (nI j) wal 2 (mGo1 (nI j) wal 1 (mGo1 (nI j) wal 0 (-1)))) = -1
    refine st1 3 _ (by decide) (st1 2 _ (by decide) ?_)
    rcases h01 j hj with h | h
    · exact st1 1 _ (by decide) (st2 0 _ (by decide) h)
    · exact st2 1 _ (by decide) h
  rcases loop 4 0 (-1) (x, -1) rfl (Or.inl ⟨rfl, rfl⟩) with ⟨h, -⟩ | ⟨h0, h⟩
  · exact absurd h hne
  · refine ⟨h0, ?_⟩
    show mGo x wal = (lpN (sBN1 x wal) 4 0 (x, -1)).1
    rw [h]
    rfl
theorem mGo_eq {x : Int32} {wal : Nat → Int32} (hx : vp_in x 9) (hW : vW wal) : mGo x wal = sBN x wal := (mGo_both hx hW).2
theorem sBN_in {x : Int32} {wal : Nat → Int32} (hx : vp_in x 9) (hW : vW wal) : vp_in (sBN x wal) 9 := by
  obtain ⟨h1, h2⟩ := mGo_both hx hW
  rw [← h2]; exact h1
theorem sWa_a {c : Int32} {mud wal : Nat → Int32} (hc : vp_in c 9) (h : ¬ 5 < mud c.toNatClampNeg) : sWa c mud wal = wal c.toNatClampNeg / 2 := by
  unfold sWa
  rw [if_neg (crV hc), if_pos, if_neg h]
  rw [Int32.lt_iff_toInt_lt] at h
  rw [Int32.le_iff_toInt_le]
  have e1 : (5 : Int32).toInt = 5 := by decide
  have e2 : (15 : Int32).toInt = 15 := by decide
  omega
theorem sWa_b {c : Int32} {mud wal : Nat → Int32} (hc : vp_in c 9) (h : 5 < mud c.toNatClampNeg) (h2 : ¬ 15 < mud c.toNatClampNeg) : sWa c mud wal = wal c.toNatClampNeg / 5 := by
  unfold sWa
  rw [if_neg (crV hc), if_pos (Int32.not_lt.mp h2), if_pos h]
theorem sWa_c {c : Int32} {mud wal : Nat → Int32} (hc : vp_in c 9) (h2 : 15 < mud c.toNatClampNeg) : sWa c mud wal = 0 := by
  unfold sWa
  rw [if_neg (crV hc), if_neg (Int32.not_le.mpr h2)]
set_option maxHeartbeats 2000000 in
theorem kX2_holds (th : Int32) (mud car wal hol paid rain place str bro pen swe dri : Nat → Int32) (N : Nat) (q : Int32) (i : Nat) (hN : N ≤ 8) (hi : i < N) (hP : vP N place) : AMet yX2_holds cX2_holds 2 (some .boolean) { frames := 0, cells := 0, slots := 0, locals := 0 } [.ref 0, .int (nI i)] (hS th mud car wal hol paid rain place str bro pen swe dri (nI N) q) (some (.int (sHP (nI i) (nI N) place hol))) (hS th mud car wal hol paid rain place str bro pen swe dri (nI N) q) := by
  refine AMet.of (by decide) rfl ?_
  intro G hR hE hI
  refine AW.blk (amX2_holds _) 0 8 (h' := hS th mud car wal hol paid rain place str bro pen swe dri (nI N) q) (pc' := 12) (lv' := [(0, .ref 0), (1, .int (nI i))]) (st' := [.int (nI i), .int (hol (place (nI i).toNatClampNeg).toNatClampNeg)]) (L := [vp_in (nI i) 8, vp_in (place (nI i).toNatClampNeg) 9]) rfl ⟨(vpi (by omega) rfl), (hP i hi)⟩ ?_
  refine AW.br (amX2_holds _) 8 (tgt := 19) (C := ¬ (hol (place (nI i).toNatClampNeg).toNatClampNeg) = (nI i)) (C' := (hol (place (nI i).toNatClampNeg).toNatClampNeg) = (nI i)) (st' := []) rfl rfl rfl (fun c1 => ?_) (fun c1 => ?_)
  · refine AW.blk (amX2_holds _) 11 1 (h' := hS th mud car wal hol paid rain place str bro pen swe dri (nI N) q) (pc' := 20) (lv' := [(0, .ref 0), (1, .int (nI i))]) (st' := [.int 0]) (L := []) rfl trivial ?_
    exact AW.iretE (amX2_holds _) 12 hE rfl rfl (by first | rfl | exact narrow_b _ (by decide)) rfl rfl (by simp only [sHP, if_neg (swN hN hi), if_neg (crV (hP i hi)), if_neg c1]) rfl
  · refine AW.blk (amX2_holds _) 9 2 (h' := hS th mud car wal hol paid rain place str bro pen swe dri (nI N) q) (pc' := 20) (lv' := [(0, .ref 0), (1, .int (nI i))]) (st' := [.int 1]) (L := []) rfl trivial ?_
    exact AW.iretE (amX2_holds _) 12 hE rfl rfl (by first | rfl | exact narrow_b _ (by decide)) rfl rfl (by simp only [sHP, if_neg (swN hN hi), if_neg (crV (hP i hi)), if_pos c1]) rfl
set_option maxHeartbeats 2000000 in
theorem kX2_sweeps (th : Int32) (mud car wal hol paid rain place str bro pen swe dri : Nat → Int32) (N : Nat) (q : Int32) (i : Nat) (hN : N ≤ 8) (hi : i < N) : AMet yX2_sweeps cX2_sweeps 2 (some .int) { frames := 0, cells := 0, slots := 0, locals := 0 } [.ref 0, .int (nI i)] (hS th mud car wal hol paid rain place str bro pen swe dri (nI N) q) (some (.int (sRe (nI i) (nI N) str bro))) (hS th mud car wal hol paid rain place str bro pen swe dri (nI N) q) := by
  refine AMet.of (by decide) rfl ?_
  intro G hR hE hI
  refine AW.blk (amX2_sweeps _) 0 12 (h' := hS th mud car wal hol paid rain place str bro pen swe dri (nI N) q) (pc' := 19) (lv' := [(0, .ref 0), (1, .int (nI i))]) (st' := [.int ((str (nI i).toNatClampNeg) + ((bro (nI i).toNatClampNeg) / 8))]) (L := [vp_in (nI i) 8, vp_in (nI i) 8, ¬ 8 = 0]) rfl ⟨(vpi (by omega) rfl), (vpi (by omega) rfl), (show ¬ (8 : Int32) = 0 by decide)⟩ ?_
  exact AW.iretE (amX2_sweeps _) 12 hE rfl rfl (by first | rfl | exact narrow_b _ (by decide)) rfl rfl (by simp only [sRe, if_neg (swN hN hi)]) rfl
set_option maxHeartbeats 2000000 in
theorem kX2_sweep (th : Int32) (mud car wal hol paid rain place str bro pen swe dri : Nat → Int32) (N : Nat) (q : Int32) (i : Nat) (hN : N ≤ 8) (hi : i < N) (hP : vP N place) : AMet yX2_sweep cX2_sweep 3 none { frames := 1, cells := 0, slots := 0, locals := 40 } [.ref 0, .int (nI i)] (hS th mud car wal hol paid rain place str bro pen swe dri (nI N) q) none (hS th (upd mud (place (nI i).toNatClampNeg).toNatClampNeg (mud (place (nI i).toNatClampNeg).toNatClampNeg - imin (mud (place (nI i).toNatClampNeg).toNatClampNeg) (sRe (nI i) (nI N) str bro))) car wal hol paid rain place str (upd bro (nI i).toNatClampNeg (imax 0 (bro (nI i).toNatClampNeg - 1))) pen (upd swe (nI i).toNatClampNeg (swe (nI i).toNatClampNeg + imin (mud (place (nI i).toNatClampNeg).toNatClampNeg) (sRe (nI i) (nI N) str bro))) dri (nI N) q) := by
  refine AMet.of (by decide) rfl ?_
  intro G hR hE hI
  refine AW.blk (amX2_sweep _) 0 9 (h' := hS th mud car wal hol paid rain place str bro pen swe dri (nI N) q) (pc' := 13) (lv' := [(0, .ref 0), (1, .int (nI i))]) (st' := [.int (nI i), .ref 0, .int (mud (place (nI i).toNatClampNeg).toNatClampNeg)]) (L := [vp_in (nI i) 8, vp_in (place (nI i).toNatClampNeg) 9]) rfl ⟨(vpi (by omega) rfl), (hP i hi)⟩ ?_
  refine AW.callV (amX2_sweep _) 9 (kX2_sweeps th mud car wal hol paid rain place str bro pen swe dri N q i hN hi) rfl rfl [0, 1, 2, 3, 4, 5, 6, 7, 8, 9, 10, 11, 12, 13] [100, 101, 102] ykX2_sweeps yiX2_sweeps yvX2_sweeps mlX2_57 rfl rfl rfl rfl hR ⟨Nat.le_of_ble_eq_true rfl, Nat.le_of_ble_eq_true rfl, Nat.le_of_ble_eq_true rfl, Nat.le_of_ble_eq_true rfl⟩ rfl rfl rfl rfl rfl (fun _ => rfl) (h1 := hS th mud car wal hol paid rain place str bro pen swe dri (nI N) q) rfl (st' := [.int (sRe (nI i) (nI N) str bro), .int (mud (place (nI i).toNatClampNeg).toNatClampNeg)]) rfl ?_
  refine AW.mmin (amX2_sweep _) 10 rfl kmmX2_61 hR rfl ⟨Nat.le_of_ble_eq_true rfl, Nat.le_of_ble_eq_true rfl, Nat.le_of_ble_eq_true rfl, Nat.le_of_ble_eq_true rfl⟩ ?_
  refine AW.blk (amX2_sweep _) 11 30 (h' := hS th (upd mud (place (nI i).toNatClampNeg).toNatClampNeg ((mud (place (nI i).toNatClampNeg).toNatClampNeg) - (imin (mud (place (nI i).toNatClampNeg).toNatClampNeg) (sRe (nI i) (nI N) str bro)))) car wal hol paid rain place str bro pen (upd swe (nI i).toNatClampNeg ((swe (nI i).toNatClampNeg) + (imin (mud (place (nI i).toNatClampNeg).toNatClampNeg) (sRe (nI i) (nI N) str bro)))) dri (nI N) q) (pc' := 59) (lv' := [(2, .int (imin (mud (place (nI i).toNatClampNeg).toNatClampNeg) (sRe (nI i) (nI N) str bro))), (0, .ref 0), (1, .int (nI i))]) (st' := [.int ((bro (nI i).toNatClampNeg) - 1), .int 0, .int (nI i), .ref 5]) (L := [vp_in (nI i) 8, vp_in (place (nI i).toNatClampNeg) 9, vp_in (place (nI i).toNatClampNeg) 9, vp_in (nI i) 8, vp_in (nI i) 8, vp_in (nI i) 8]) rfl ⟨(vpi (by omega) rfl), (hP i hi), (hP i hi), (vpi (by omega) rfl), (vpi (by omega) rfl), (vpi (by omega) rfl)⟩ ?_
  refine AW.mmax (amX2_sweep _) 41 rfl kmmX2_67 hR rfl ⟨Nat.le_of_ble_eq_true rfl, Nat.le_of_ble_eq_true rfl, Nat.le_of_ble_eq_true rfl, Nat.le_of_ble_eq_true rfl⟩ ?_
  refine AW.blk (amX2_sweep _) 42 1 (h' := hS th (upd mud (place (nI i).toNatClampNeg).toNatClampNeg ((mud (place (nI i).toNatClampNeg).toNatClampNeg) - (imin (mud (place (nI i).toNatClampNeg).toNatClampNeg) (sRe (nI i) (nI N) str bro)))) car wal hol paid rain place str (upd bro (nI i).toNatClampNeg (imax 0 ((bro (nI i).toNatClampNeg) - 1))) pen (upd swe (nI i).toNatClampNeg ((swe (nI i).toNatClampNeg) + (imin (mud (place (nI i).toNatClampNeg).toNatClampNeg) (sRe (nI i) (nI N) str bro)))) dri (nI N) q) (pc' := 63) (lv' := [(2, .int (imin (mud (place (nI i).toNatClampNeg).toNatClampNeg) (sRe (nI i) (nI N) str bro))), (0, .ref 0), (1, .int (nI i))]) (st' := []) (L := [vp_in (nI i) 8]) rfl (vpi (by omega) rfl) ?_
  exact AW.vretE (amX2_sweep _) 43 hE rfl rfl rfl rfl rfl
set_option maxHeartbeats 2000000 in
theorem kX2_pay (th : Int32) (mud car wal hol paid rain place str bro pen swe dri : Nat → Int32) (N : Nat) (q : Int32) (c : Nat) (hN : N ≤ 8) (hc : c < 9) (hH : vH N hol) (hne : ¬ hol (nI c).toNatClampNeg = -1) : AMet yX2_pay cX2_pay 3 (some .int) { frames := 0, cells := 0, slots := 0, locals := 0 } [.ref 0, .int (nI c)] (hS th mud car wal hol paid rain place str bro pen swe dri (nI N) q) (some (.int (sWa (nI c) mud wal))) (hS th mud car wal hol (upd paid (nI c).toNatClampNeg (paid (nI c).toNatClampNeg + sWa (nI c) mud wal)) rain place str bro (upd pen (hol (nI c).toNatClampNeg).toNatClampNeg (pen (hol (nI c).toNatClampNeg).toNatClampNeg + sWa (nI c) mud wal)) swe dri (nI N) q) := by
  refine AMet.of (by decide) rfl ?_
  intro G hR hE hI
  have J : ∀ (v : Int32), v = sWa (nI c) mud wal → AW G (yX2_pay.cls, cX2_pay, 3, 14) (hS th mud car wal hol paid rain place str bro pen swe dri (nI N) q) 0 0 50 [(0, .ref 0), (1, .int (nI c))] [.int v] := by
    intro v hv
    refine AW.blk (amX2_pay _) 29 21 (h' := hS th mud car wal hol (upd paid (nI c).toNatClampNeg ((paid (nI c).toNatClampNeg) + v)) rain place str bro (upd pen (hol (nI c).toNatClampNeg).toNatClampNeg ((pen (hol (nI c).toNatClampNeg).toNatClampNeg) + v)) swe dri (nI N) q) (pc' := 77) (lv' := [(2, .int v), (0, .ref 0), (1, .int (nI c))]) (st' := [.int v]) (L := [vp_in (nI c) 9, vp_in (nI c) 9, vp_in (nI c) 9, vp_in (hol (nI c).toNatClampNeg) 8, vp_in (hol (nI c).toNatClampNeg) 8]) rfl ⟨(vpi hc rfl), (vpi hc rfl), (vpi hc rfl), (vHin hN hH (vpi hc rfl) hne), (vHin hN hH (vpi hc rfl) hne)⟩ ?_
    exact AW.iretE (amX2_pay _) 50 hE rfl rfl rfl rfl rfl hv.symm (by rw [hv])
  refine AW.blk (amX2_pay _) 0 5 (h' := hS th mud car wal hol paid rain place str bro pen swe dri (nI N) q) (pc' := 7) (lv' := [(0, .ref 0), (1, .int (nI c))]) (st' := [.int 5, .int (mud (nI c).toNatClampNeg)]) (L := [vp_in (nI c) 9]) rfl (vpi hc rfl) ?_
  refine AW.br (amX2_pay _) 5 (tgt := 24) (C := 5 < (mud (nI c).toNatClampNeg)) (C' := ¬ 5 < (mud (nI c).toNatClampNeg)) (st' := []) rfl rfl rfl (fun c1 => ?_) (fun c1 => ?_)
  · refine AW.blk (amX2_pay _) 14 5 (h' := hS th mud car wal hol paid rain place str bro pen swe dri (nI N) q) (pc' := 32) (lv' := [(0, .ref 0), (1, .int (nI c))]) (st' := [.int 15, .int (mud (nI c).toNatClampNeg)]) (L := [vp_in (nI c) 9]) rfl (vpi hc rfl) ?_
    refine AW.br (amX2_pay _) 19 (tgt := 49) (C := 15 < (mud (nI c).toNatClampNeg)) (C' := ¬ 15 < (mud (nI c).toNatClampNeg)) (st' := []) rfl rfl rfl (fun c2 => ?_) (fun c2 => ?_)
    · refine AW.blk (amX2_pay _) 28 1 (h' := hS th mud car wal hol paid rain place str bro pen swe dri (nI N) q) (pc' := 50) (lv' := [(0, .ref 0), (1, .int (nI c))]) (st' := [.int 0]) (L := []) rfl trivial ?_
      exact J _ (sWa_c (vpi hc rfl) c2).symm
    · refine AW.blk (amX2_pay _) 20 8 (h' := hS th mud car wal hol paid rain place str bro pen swe dri (nI N) q) (pc' := 50) (lv' := [(0, .ref 0), (1, .int (nI c))]) (st' := [.int ((wal (nI c).toNatClampNeg) / 5)]) (L := [vp_in (nI c) 9, ¬ 5 = 0]) rfl ⟨(vpi hc rfl), (show ¬ (5 : Int32) = 0 by decide)⟩ ?_
      exact J _ (sWa_b (vpi hc rfl) c1 c2).symm
  · refine AW.blk (amX2_pay _) 6 8 (h' := hS th mud car wal hol paid rain place str bro pen swe dri (nI N) q) (pc' := 50) (lv' := [(0, .ref 0), (1, .int (nI c))]) (st' := [.int ((wal (nI c).toNatClampNeg) / 2)]) (L := [vp_in (nI c) 9, ¬ 2 = 0]) rfl ⟨(vpi hc rfl), (show ¬ (2 : Int32) = 0 by decide)⟩ ?_
    exact J _ (sWa_a (vpi hc rfl) c1).symm
set_option maxHeartbeats 2000000 in
theorem kX2_look (th : Int32) (mud car wal hol paid rain place str bro pen swe dri : Nat → Int32) (N : Nat) (q : Int32) (i : Nat) (hN : N ≤ 8) (hi : i < N) (hP : vP N place) (hH : vH N hol) (hW : vW wal) : AMet yX2_look cX2_look 4 none { frames := 2, cells := 0, slots := 0, locals := 45 } [.ref 0, .int (nI i)] (hS th mud car wal hol paid rain place str bro pen swe dri (nI N) q) none (hS th mud car wal (sSkH (nI i) (nI N) str place hol) paid rain (sSkP (nI i) (nI N) str wal place hol) str bro pen swe (sSkD (nI i) (nI N) str place hol dri) (nI N) q) := by
  refine AMet.of (by decide) rfl ?_
  intro G hR hE hI
  refine AW.blk (amX2_look _) 0 12 (h' := hS th mud car wal hol paid rain place str bro pen swe dri (nI N) q) (pc' := 16) (lv' := [(3, .int (hol (place (nI i).toNatClampNeg).toNatClampNeg)), (2, .int (place (nI i).toNatClampNeg)), (0, .ref 0), (1, .int (nI i))]) (st' := [.int ((-1)), .int (hol (place (nI i).toNatClampNeg).toNatClampNeg)]) (L := [vp_in (nI i) 8, vp_in (place (nI i).toNatClampNeg) 9]) rfl ⟨(vpi (by omega) rfl), (hP i hi)⟩ ?_
  refine AW.br (amX2_look _) 12 (tgt := 55) (C := (hol (place (nI i).toNatClampNeg).toNatClampNeg) = (-1)) (C' := ¬ (hol (place (nI i).toNatClampNeg).toNatClampNeg) = (-1)) (st' := []) rfl rfl rfl (fun c1 => ?_) (fun c1 => ?_)
  · refine AW.blk (amX2_look _) 33 2 (h' := hS th mud car wal hol paid rain place str bro pen swe dri (nI N) q) (pc' := 57) (lv' := [(3, .int (hol (place (nI i).toNatClampNeg).toNatClampNeg)), (2, .int (place (nI i).toNatClampNeg)), (0, .ref 0), (1, .int (nI i))]) (st' := [.int ((-1)), .int (hol (place (nI i).toNatClampNeg).toNatClampNeg)]) (L := []) rfl trivial ?_
    refine AW.br (amX2_look _) 35 (tgt := 70) (C := (hol (place (nI i).toNatClampNeg).toNatClampNeg) = (-1)) (C' := ¬ (hol (place (nI i).toNatClampNeg).toNatClampNeg) = (-1)) (st' := []) rfl rfl rfl (fun e1 => ?_) (fun e1 => absurd c1 e1)
    refine AW.blk (amX2_look _) 44 5 (h' := hS th mud car wal (upd hol (place (nI i).toNatClampNeg).toNatClampNeg (nI i)) paid rain place str bro pen swe dri (nI N) q) (pc' := 77) (lv' := [(3, .int (hol (place (nI i).toNatClampNeg).toNatClampNeg)), (2, .int (place (nI i).toNatClampNeg)), (0, .ref 0), (1, .int (nI i))]) (st' := []) (L := [vp_in (place (nI i).toNatClampNeg) 9]) rfl (hP i hi) ?_
    exact AW.vretE (amX2_look _) 49 hE rfl rfl rfl rfl (by simp only [sSkP, sSkH, sSkD, if_neg (swN hN hi), if_neg (crV (hP i hi)), if_pos (show sSw (hol (place (nI i).toNatClampNeg).toNatClampNeg) (nI N) = 0 by rw [c1]; exact swM _)])
  · refine AW.blk (amX2_look _) 13 10 (h' := hS th mud car wal hol paid rain place str bro pen swe dri (nI N) q) (pc' := 37) (lv' := [(3, .int (hol (place (nI i).toNatClampNeg).toNatClampNeg)), (2, .int (place (nI i).toNatClampNeg)), (0, .ref 0), (1, .int (nI i))]) (st' := [.int (str (nI i).toNatClampNeg), .int (str (hol (place (nI i).toNatClampNeg).toNatClampNeg).toNatClampNeg)]) (L := [vp_in (hol (place (nI i).toNatClampNeg).toNatClampNeg) 8, vp_in (nI i) 8]) rfl ⟨(vHin hN hH (hP i hi) c1), (vpi (by omega) rfl)⟩ ?_
    refine AW.br (amX2_look _) 23 (tgt := 55) (C := (str (hol (place (nI i).toNatClampNeg).toNatClampNeg).toNatClampNeg) < (str (nI i).toNatClampNeg)) (C' := ¬ (str (hol (place (nI i).toNatClampNeg).toNatClampNeg).toNatClampNeg) < (str (nI i).toNatClampNeg)) (st' := []) rfl rfl rfl (fun d1 => ?_) (fun d1 => ?_)
    · refine AW.blk (amX2_look _) 33 2 (h' := hS th mud car wal hol paid rain place str bro pen swe dri (nI N) q) (pc' := 57) (lv' := [(3, .int (hol (place (nI i).toNatClampNeg).toNatClampNeg)), (2, .int (place (nI i).toNatClampNeg)), (0, .ref 0), (1, .int (nI i))]) (st' := [.int ((-1)), .int (hol (place (nI i).toNatClampNeg).toNatClampNeg)]) (L := []) rfl trivial ?_
      refine AW.br (amX2_look _) 35 (tgt := 70) (C := (hol (place (nI i).toNatClampNeg).toNatClampNeg) = (-1)) (C' := ¬ (hol (place (nI i).toNatClampNeg).toNatClampNeg) = (-1)) (st' := []) rfl rfl rfl (fun d2 => absurd d2 c1) (fun d2 => ?_)
      refine AW.blk (amX2_look _) 36 13 (h' := hS th mud car wal (upd hol (place (nI i).toNatClampNeg).toNatClampNeg (nI i)) paid rain place str bro pen swe (upd dri (hol (place (nI i).toNatClampNeg).toNatClampNeg).toNatClampNeg ((dri (hol (place (nI i).toNatClampNeg).toNatClampNeg).toNatClampNeg) + 1)) (nI N) q) (pc' := 77) (lv' := [(3, .int (hol (place (nI i).toNatClampNeg).toNatClampNeg)), (2, .int (place (nI i).toNatClampNeg)), (0, .ref 0), (1, .int (nI i))]) (st' := []) (L := [vp_in (hol (place (nI i).toNatClampNeg).toNatClampNeg) 8, vp_in (hol (place (nI i).toNatClampNeg).toNatClampNeg) 8, vp_in (place (nI i).toNatClampNeg) 9]) rfl ⟨(vHin hN hH (hP i hi) c1), (vHin hN hH (hP i hi) c1), (hP i hi)⟩ ?_
      exact AW.vretE (amX2_look _) 49 hE rfl rfl rfl rfl (by simp only [sSkP, sSkH, sSkD, if_neg (swN hN hi), if_neg (crV (hP i hi)), if_neg (vHsw hN hH (hP i hi) c1), if_neg (Int32.not_le.mpr d1)])
    · refine AW.blk (amX2_look _) 24 6 (h' := hS th mud car wal hol paid rain place str bro pen swe dri (nI N) q) (pc' := 50) (lv' := [(3, .int (hol (place (nI i).toNatClampNeg).toNatClampNeg)), (2, .int (place (nI i).toNatClampNeg)), (0, .ref 0), (1, .int (nI i))]) (st' := [.int (place (nI i).toNatClampNeg), .ref 9, .int (nI i), .ref 4]) (L := []) rfl trivial ?_
      refine AW.callV (amX2_look _) 30 (kX3_goesTo th (nI N) wal (place (nI i).toNatClampNeg) (hP i hi)) rfl rfl [9, 11] [100, 101, 102, 10, 12, 13] ykX3_goesTo yiX3_goesTo yvX3_goesTo mlX2_73 rfl rfl rfl rfl hR ⟨Nat.le_of_ble_eq_true rfl, Nat.le_of_ble_eq_true rfl, Nat.le_of_ble_eq_true rfl, Nat.le_of_ble_eq_true rfl⟩ rfl rfl rfl rfl rfl (fun _ => rfl) (h1 := hS th mud car wal hol paid rain place str bro pen swe dri (nI N) q) rfl (st' := [.int (mGo (place (nI i).toNatClampNeg) wal), .int (nI i), .ref 4]) rfl ?_
      rw [mGo_eq (hP i hi) hW]
      refine AW.blk (amX2_look _) 31 1 (h' := hS th mud car wal hol paid rain (upd place (nI i).toNatClampNeg (sBN (place (nI i).toNatClampNeg) wal)) str bro pen swe dri (nI N) q) (pc' := 54) (lv' := [(3, .int (hol (place (nI i).toNatClampNeg).toNatClampNeg)), (2, .int (place (nI i).toNatClampNeg)), (0, .ref 0), (1, .int (nI i))]) (st' := []) (L := [vp_in (nI i) 8]) rfl (vpi (by omega) rfl) ?_
      exact AW.vretE (amX2_look _) 32 hE rfl rfl rfl rfl (by simp only [sSkP, sSkH, sSkD, if_neg (swN hN hi), if_neg (crV (hP i hi)), if_neg (vHsw hN hH (hP i hi) c1), if_pos (Int32.not_lt.mp d1)])
set_option maxHeartbeats 2000000 in
theorem kX2_send (th : Int32) (mud car wal hol paid rain place str bro pen swe dri : Nat → Int32) (N : Nat) (q : Int32) (x : Int32) (i : Nat) (hN : N ≤ 8) (hi : i < N) (hP : vP N place) : AMet yX2_send cX2_send 4 (some .int) { frames := 1, cells := 0, slots := 0, locals := 21 } [.ref 0, .int (nI i), .int x] (hS th mud car wal hol paid rain place str bro pen swe dri (nI N) q) (some (.int (place (nI i).toNatClampNeg))) (hS th mud car wal (sMoH (nI i) (nI N) place hol) paid rain (sMoP (nI i) x (nI N) place) str bro pen swe dri (nI N) q) := by
  refine AMet.of (by decide) rfl ?_
  intro G hR hE hI
  have hh : (sHP (nI i) (nI N) place hol = 0) = ¬ hol (place (nI i).toNatClampNeg).toNatClampNeg = nI i := by
    simp only [sHP, if_neg (swN hN hi), if_neg (crV (hP i hi))]
    split
    · rename_i h; simp [h]
    · rename_i h; simp [h]
  refine AW.blk (amX2_send _) 0 7 (h' := hS th mud car wal hol paid rain place str bro pen swe dri (nI N) q) (pc' := 9) (lv' := [(3, .int (place (nI i).toNatClampNeg)), (0, .ref 0), (1, .int (nI i)), (2, .int x)]) (st' := [.int (nI i), .ref 0]) (L := [vp_in (nI i) 8]) rfl (vpi (by omega) rfl) ?_
  refine AW.callV (amX2_send _) 7 (kX2_holds th mud car wal hol paid rain place str bro pen swe dri N q i hN hi hP) rfl rfl [0, 1, 2, 3, 4, 5, 6, 7, 8, 9, 10, 11, 12, 13] [100, 101, 102] ykX2_holds yiX2_holds yvX2_holds mlX2_85 rfl rfl rfl rfl hR ⟨Nat.le_of_ble_eq_true rfl, Nat.le_of_ble_eq_true rfl, Nat.le_of_ble_eq_true rfl, Nat.le_of_ble_eq_true rfl⟩ rfl rfl rfl rfl rfl (fun _ => rfl) (h1 := hS th mud car wal hol paid rain place str bro pen swe dri (nI N) q) rfl (st' := [.int (sHP (nI i) (nI N) place hol)]) rfl ?_
  refine AW.br (amX2_send _) 8 (tgt := 22) (C := (sHP (nI i) (nI N) place hol) = 0) (C' := ¬ (sHP (nI i) (nI N) place hol) = 0) (st' := []) rfl rfl rfl (fun c1 => ?_) (fun c1 => ?_)
  · refine AW.blk (amX2_send _) 14 6 (h' := hS th mud car wal hol paid rain (upd place (nI i).toNatClampNeg x) str bro pen swe dri (nI N) q) (pc' := 30) (lv' := [(3, .int (place (nI i).toNatClampNeg)), (0, .ref 0), (1, .int (nI i)), (2, .int x)]) (st' := [.int (place (nI i).toNatClampNeg)]) (L := [vp_in (nI i) 8]) rfl (vpi (by omega) rfl) ?_
    exact AW.iretE (amX2_send _) 20 hE rfl rfl rfl rfl rfl rfl (by simp only [sMoP, sMoH, if_neg (swN hN hi), if_neg (crV (hP i hi)), if_neg (hh ▸ c1)])
  · refine AW.blk (amX2_send _) 9 11 (h' := hS th mud car wal (upd hol (place (nI i).toNatClampNeg).toNatClampNeg (-1)) paid rain (upd place (nI i).toNatClampNeg x) str bro pen swe dri (nI N) q) (pc' := 30) (lv' := [(3, .int (place (nI i).toNatClampNeg)), (0, .ref 0), (1, .int (nI i)), (2, .int x)]) (st' := [.int (place (nI i).toNatClampNeg)]) (L := [vp_in (place (nI i).toNatClampNeg) 9, vp_in (nI i) 8]) rfl ⟨(hP i hi), (vpi (by omega) rfl)⟩ ?_
    exact AW.iretE (amX2_send _) 20 hE rfl rfl rfl rfl rfl rfl (by simp only [sMoP, sMoH, if_neg (swN hN hi), if_neg (crV (hP i hi)), if_pos (Classical.not_not.mp (hh ▸ c1))])
end
section
/-! ===== the reference: a quarter ===== -/
theorem lpS_N {α : Type} {N M : Nat} (f : Nat → α → α) (a : α) (hN : N ≤ M) (hM : M < 2 ^ 31) : lpS (nI N) f M 0 a = lpN f N 0 a := by
  have key : ∀ (j i k : Nat) (a : α), i + j = N → j ≤ k → lpS (nI N) f k i a = lpN f j i a := by
    intro j
    induction j with
    | zero =>
      intro i k a hi hk
      cases k with
      | zero => rfl
      | succ k =>
        have : nI N ≤ nI i := nI_le (by omega) (by omega)
        show (if nI N ≤ nI i then a else _) = a
        rw [if_pos this]
    | succ j ih =>
      intro i k a hi hk
      cases k with
      | zero => omega
      | succ k =>
        have : ¬ nI N ≤ nI i := nI_ge (by omega) (by omega)
        show (if nI N ≤ nI i then a else lpS (nI N) f k (i + 1) (f i a)) = lpN f j (i + 1) (f i a)
        rw [if_neg this]
        exact ih (i + 1) k (f i a) (by omega) (by omega)
  exact key N 0 M a (by omega) hN
theorem wet_m {q : Int32} {rain : Nat → Int32} (h : vp_in (q - q / 8 * 8) 8) : sWet q rain = rain (q - q / 8 * 8).toNatClampNeg := by
  unfold sWet
  obtain ⟨j, hj, e⟩ := vp_in_of h (by decide)
  rw [e, if_neg (nI_pos (by omega)), if_neg (show ¬ (8 : Int32) ≤ nI j from nle (N := 8) hj rfl)]
theorem sMd1_m {w : Int32} {car m : Nat → Int32} {i : Nat} (hi : i < 9) : sMd1 w car i m = upd m (nI i).toNatClampNeg (imin 50 (m (nI i).toNatClampNeg + car (nI i).toNatClampNeg + w)) := by
  unfold sMd1 sAM
  rw [if_neg (sCr_one hi), Int32.add_assoc]
theorem sSw1_m {N i : Nat} {place hol str : Nat → Int32} {a : (Nat → Int32) × (Nat → Int32) × (Nat → Int32)} (hN : N ≤ 8) (hi : i < N) (hP : vP N place) : sSw1 (nI N) place hol str i a = if sHP (nI i) (nI N) place hol = 0 then a else (upd a.1 (place (nI i).toNatClampNeg).toNatClampNeg (a.1 (place (nI i).toNatClampNeg).toNatClampNeg - imin (a.1 (place (nI i).toNatClampNeg).toNatClampNeg) (sRe (nI i) (nI N) str a.2.1)), upd a.2.1 (nI i).toNatClampNeg (imax 0 (a.2.1 (nI i).toNatClampNeg - 1)), upd a.2.2 (nI i).toNatClampNeg (a.2.2 (nI i).toNatClampNeg + imin (a.1 (place (nI i).toNatClampNeg).toNatClampNeg) (sRe (nI i) (nI N) str a.2.1))) := by
  unfold sSw1 sHP
  rw [if_neg (crV (hP i hi)), if_neg (swN hN hi), if_neg (crV (hP i hi))]
  by_cases h : hol (place (nI i).toNatClampNeg).toNatClampNeg = nI i
  · rw [if_pos h, if_pos h, if_neg (by decide)]
  · rw [if_neg h, if_neg h, if_pos rfl]
theorem sPy1_m {N c : Nat} {hol mud wal : Nat → Int32} {a : Int32 × (Nat → Int32) × (Nat → Int32)} (hN : N ≤ 8) (hc : c < 9) (hH : vH N hol) : sPy1 (nI N) hol mud wal c a = if hol (nI c).toNatClampNeg = -1 then a else (a.1 + sWa (nI c) mud wal, upd a.2.1 (hol (nI c).toNatClampNeg).toNatClampNeg (a.2.1 (hol (nI c).toNatClampNeg).toNatClampNeg + sWa (nI c) mud wal), upd a.2.2 (nI c).toNatClampNeg (a.2.2 (nI c).toNatClampNeg + sWa (nI c) mud wal)) := by
  unfold sPy1
  by_cases h : hol (nI c).toNatClampNeg = -1
  · rw [if_pos h, if_pos (by rw [h]; exact swM _)]
  · rw [if_neg h, if_neg (vHsw hN hH (vpi hc rfl) h)]
theorem look_P {N i : Nat} {str wal place hol : Nat → Int32} (hN : N ≤ 8) (hi : i < N) (hP : vP N place) (hW : vW wal) : vP N (sSkP (nI i) (nI N) str wal place hol) := by
  unfold sSkP
  rw [if_neg (swN hN hi), if_neg (crV (hP i hi))]
  split
  · exact hP
  · split
    · intro j hj
      by_cases h : j = i
      · subst h
        rw [pk_us]
        exact sBN_in (hP j hj) hW
      · rw [pk_un (by rw [nI_clamp (by omega), nI_clamp (by omega)]; exact h)]
        exact hP j hj
    · exact hP
theorem look_H {N i : Nat} {str place hol : Nat → Int32} (hN : N ≤ 8) (hi : i < N) (hP : vP N place) (hH : vH N hol) : vH N (sSkH (nI i) (nI N) str place hol) := by
  have hu : vH N (upd hol (place (nI i).toNatClampNeg).toNatClampNeg (nI i)) := by
    intro x hx
    by_cases h : x.toNatClampNeg = (place (nI i).toNatClampNeg).toNatClampNeg
    · right
      exact ⟨i, hi, by unfold upd; rw [if_pos h]⟩
    · rw [pk_un h]
      exact hH x hx
  unfold sSkH
  rw [if_neg (swN hN hi), if_neg (crV (hP i hi))]
  split
  · exact hu
  · split
    · exact hH
    · exact hu
theorem lk1_V {N i : Nat} {str wal : Nat → Int32} {a : (Nat → Int32) × (Nat → Int32) × (Nat → Int32)} (hN : N ≤ 8) (hi : i < N) (hP : vP N a.1) (hH : vH N a.2.1) (hW : vW wal) : vP N (sLk1 (nI N) str wal i a).1 ∧ vH N (sLk1 (nI N) str wal i a).2.1 := by
  unfold sLk1
  split
  · exact ⟨look_P hN hi hP hW, look_H hN hi hP hH⟩
  · exact ⟨hP, hH⟩
def hSt (th : Int32) (C : CS) : aH := hS th C.1 C.2.1 C.2.2.1 C.2.2.2.1 C.2.2.2.2.1 C.2.2.2.2.2.1 C.2.2.2.2.2.2.1 C.2.2.2.2.2.2.2.1 C.2.2.2.2.2.2.2.2.1 C.2.2.2.2.2.2.2.2.2.1 C.2.2.2.2.2.2.2.2.2.2.1 C.2.2.2.2.2.2.2.2.2.2.2.1 C.2.2.2.2.2.2.2.2.2.2.2.2.1 C.2.2.2.2.2.2.2.2.2.2.2.2.2
set_option maxHeartbeats 2000000 in
theorem kX2_pass (th : Int32) (mud car wal hol paid rain place str bro pen swe dri : Nat → Int32) (N : Nat) (q : Int32) (hN : N ≤ 8) (hP : vP N place) (hH : vH N hol) (hW : vW wal) (hq : vp_in (q - q / 8 * 8) 8) : AMet yX2_pass cX2_pass 4 (some .int) { frames := 3, cells := 0, slots := 0, locals := 68 } [.ref 0] (hS th mud car wal hol paid rain place str bro pen swe dri (nI N) q) (some (.int (sQ (mud, car, wal, hol, paid, rain, place, str, bro, pen, swe, dri, nI N, q)).1)) (hSt th (sQ (mud, car, wal, hol, paid, rain, place, str, bro, pen, swe, dri, nI N, q)).2) := by
  refine AMet.of (by decide) rfl ?_
  intro G hR hE hI
  obtain ⟨w, hw⟩ : ∃ z, z = sWet q rain := ⟨_, rfl⟩
  obtain ⟨S, hS'⟩ : ∃ z, z = sSwQ w (nI N) place hol str (sMd w car mud, bro, swe) := ⟨_, rfl⟩
  obtain ⟨Y, hY⟩ : ∃ z, z = sPyQ w (nI N) hol S.1 wal (0, pen, paid) := ⟨_, rfl⟩
  obtain ⟨L, hL⟩ : ∃ z, z = sLook (nI N) str wal (place, hol, dri) := ⟨_, rfl⟩
  have hfin : sQ (mud, car, wal, hol, paid, rain, place, str, bro, pen, swe, dri, nI N, q) = (Y.1, S.1, car, wal, L.2.1, Y.2.2, rain, L.1, str, S.2.1, Y.2.1, S.2.2, L.2.2, nI N, q + 1) := by subst hL; subst hY; subst hS'; subst hw; rfl
  rw [hfin] at hE
  have E2 : ∀ (p1 h1 d1 : Nat → Int32), (p1, h1, d1) = L → AW G (yX2_pass.cls, cX2_pass, 4, 14) (hS th S.1 car wal h1 Y.2.2 rain p1 str S.2.1 Y.2.1 S.2.2 d1 (nI N) q) 0 0 163 [(2, .int Y.1), (0, .ref 0)] [] := by
    intro p1 h1 d1 hf
    refine AW.blk (amX2_pass _) 90 7 (h' := hS th S.1 car wal h1 Y.2.2 rain p1 str S.2.1 Y.2.1 S.2.2 d1 (nI N) (q + 1)) (pc' := 174) (lv' := [(2, .int Y.1), (0, .ref 0)]) (st' := [.int Y.1]) (L := []) rfl trivial ?_
    exact AW.iretE (amX2_pass _) 97 hE rfl rfl rfl rfl rfl rfl (by rw [← hf]; rfl)
  have K4 : ∀ (k i : Nat) (p1 : Nat → Int32) (h1 : Nat → Int32) (d1 : Nat → Int32), vP N p1 → vH N h1 → i + k = N → lpN (sLk1 (nI N) str wal) k i (p1, h1, d1) = L → AW G (yX2_pass.cls, cX2_pass, 4, 14) (hS th S.1 car wal h1 Y.2.2 rain p1 str S.2.1 Y.2.1 S.2.2 d1 (nI N) q) 0 0 133 [(3, .int (nI i)), (2, .int Y.1), (0, .ref 0)] [] := by
    intro k
    induction k with
    | zero =>
      intro i p1 h1 d1 hP1 hH1 hi hf
      refine AW.blk (amX2_pass _) 76 4 (h' := hS th S.1 car wal h1 Y.2.2 rain p1 str S.2.1 Y.2.1 S.2.2 d1 (nI N) q) (pc' := 141) (lv' := [(3, .int (nI i)), (2, .int Y.1), (0, .ref 0)]) (st' := [.int (nI N), .int (nI i)]) (L := []) rfl trivial ?_
      refine AW.br (amX2_pass _) 80 (tgt := 163) (C := (nI N) ≤ (nI i)) (C' := ¬ (nI N) ≤ (nI i)) (st' := []) rfl rfl rfl (fun c1 => ?_) (fun c1 => absurd (nI_le (a := N) (b := i) (by omega) (by omega)) c1)
      refine AW.pick [1, 2] (lv' := [(2, .int Y.1), (0, .ref 0)]) rfl ?_
      exact E2 _ _ _ hf
    | succ k ih =>
      intro i p1 h1 d1 hP1 hH1 hi hf
      refine AW.blk (amX2_pass _) 76 4 (h' := hS th S.1 car wal h1 Y.2.2 rain p1 str S.2.1 Y.2.1 S.2.2 d1 (nI N) q) (pc' := 141) (lv' := [(3, .int (nI i)), (2, .int Y.1), (0, .ref 0)]) (st' := [.int (nI N), .int (nI i)]) (L := []) rfl trivial ?_
      refine AW.br (amX2_pass _) 80 (tgt := 163) (C := (nI N) ≤ (nI i)) (C' := ¬ (nI N) ≤ (nI i)) (st' := []) rfl rfl rfl (fun c1 => absurd c1 (nI_ge (a := i) (b := N) (by omega) (by omega))) (fun c1 => ?_)
      refine AW.blk (amX2_pass _) 81 2 (h' := hS th S.1 car wal h1 Y.2.2 rain p1 str S.2.1 Y.2.1 S.2.2 d1 (nI N) q) (pc' := 146) (lv' := [(3, .int (nI i)), (2, .int Y.1), (0, .ref 0)]) (st' := [.int (nI i), .ref 0]) (L := []) rfl trivial ?_
      refine AW.callV (amX2_pass _) 83 (kX2_holds th S.1 car wal h1 Y.2.2 rain p1 str S.2.1 Y.2.1 S.2.2 d1 N q i hN (by omega) hP1) rfl rfl [0, 1, 2, 3, 4, 5, 6, 7, 8, 9, 10, 11, 12, 13] [100, 101, 102] ykX2_holds yiX2_holds yvX2_holds mlX2_85 rfl rfl rfl rfl hR ⟨Nat.le_of_ble_eq_true rfl, Nat.le_of_ble_eq_true rfl, Nat.le_of_ble_eq_true rfl, Nat.le_of_ble_eq_true rfl⟩ rfl rfl rfl rfl rfl (fun _ => rfl) (h1 := hS th S.1 car wal h1 Y.2.2 rain p1 str S.2.1 Y.2.1 S.2.2 d1 (nI N) q) rfl (st' := [.int (sHP (nI i) (nI N) p1 h1)]) rfl ?_
      refine AW.br (amX2_pass _) 84 (tgt := 157) (C := ¬ (sHP (nI i) (nI N) p1 h1) = 0) (C' := (sHP (nI i) (nI N) p1 h1) = 0) (st' := []) rfl rfl rfl (fun c2 => ?_) (fun c2 => ?_)
      · refine AW.blk (amX2_pass _) 88 2 (h' := hS th S.1 car wal h1 Y.2.2 rain p1 str S.2.1 Y.2.1 S.2.2 d1 (nI N) q) (pc' := 133) (lv' := [(3, .int ((nI i) + 1)), (2, .int Y.1), (0, .ref 0)]) (st' := []) (L := []) rfl trivial ?_
        rw [nI_1 i]
        have hv := lk1_V (str := str) (a := (p1, h1, d1)) hN (show i < N by omega) hP1 hH1 hW
        simp only [sLk1, if_neg c1, if_neg c2] at hv
        exact ih (i + 1) _ _ _ hv.1 hv.2 (by omega) (by rw [← hf]; simp only [lpN, sLk1, if_neg c1, if_neg c2])
      · refine AW.blk (amX2_pass _) 85 2 (h' := hS th S.1 car wal h1 Y.2.2 rain p1 str S.2.1 Y.2.1 S.2.2 d1 (nI N) q) (pc' := 154) (lv' := [(3, .int (nI i)), (2, .int Y.1), (0, .ref 0)]) (st' := [.int (nI i), .ref 0]) (L := []) rfl trivial ?_
        refine AW.callV (amX2_pass _) 87 (kX2_look th S.1 car wal h1 Y.2.2 rain p1 str S.2.1 Y.2.1 S.2.2 d1 N q i hN (by omega) hP1 hH1 hW) rfl rfl [0, 1, 2, 3, 4, 5, 6, 7, 8, 9, 10, 11, 12, 13] [100, 101, 102] ykX2_look yiX2_look yvX2_look mlX2_96 rfl rfl rfl rfl hR ⟨Nat.le_of_ble_eq_true rfl, Nat.le_of_ble_eq_true rfl, Nat.le_of_ble_eq_true rfl, Nat.le_of_ble_eq_true rfl⟩ rfl rfl rfl rfl rfl (fun _ => rfl) (h1 := hS th S.1 car wal (sSkH (nI i) (nI N) str p1 h1) Y.2.2 rain (sSkP (nI i) (nI N) str wal p1 h1) str S.2.1 Y.2.1 S.2.2 (sSkD (nI i) (nI N) str p1 h1 d1) (nI N) q) rfl (st' := []) rfl ?_
        refine AW.blk (amX2_pass _) 88 2 (h' := hS th S.1 car wal (sSkH (nI i) (nI N) str p1 h1) Y.2.2 rain (sSkP (nI i) (nI N) str wal p1 h1) str S.2.1 Y.2.1 S.2.2 (sSkD (nI i) (nI N) str p1 h1 d1) (nI N) q) (pc' := 133) (lv' := [(3, .int ((nI i) + 1)), (2, .int Y.1), (0, .ref 0)]) (st' := []) (L := []) rfl trivial ?_
        rw [nI_1 i]
        have hv := lk1_V (str := str) (a := (p1, h1, d1)) hN (show i < N by omega) hP1 hH1 hW
        simp only [sLk1, if_neg c1, if_pos c2] at hv
        exact ih (i + 1) _ _ _ hv.1 hv.2 (by omega) (by rw [← hf]; simp only [lpN, sLk1, if_neg c1, if_pos c2])
  have J : AW G (yX2_pass.cls, cX2_pass, 4, 14) (hS th S.1 car wal hol Y.2.2 rain place str S.2.1 Y.2.1 S.2.2 dri (nI N) q) 0 0 131 [(2, .int Y.1), (0, .ref 0)] [] := by
    refine AW.blk (amX2_pass _) 74 2 (h' := hS th S.1 car wal hol Y.2.2 rain place str S.2.1 Y.2.1 S.2.2 dri (nI N) q) (pc' := 133) (lv' := [(3, .int 0), (2, .int Y.1), (0, .ref 0)]) (st' := []) (L := []) rfl trivial ?_
    exact K4 N 0 place hol dri hP hH (by omega) (by rw [hL, sLook, lpS_N _ _ hN (by decide)])
  have P0 : ¬ 6 ≤ w → AW G (yX2_pass.cls, cX2_pass, 4, 14) (hS th S.1 car wal hol paid rain place str S.2.1 pen S.2.2 dri (nI N) q) 0 0 99 [(2, .int 0), (0, .ref 0)] [] := by
    intro h6
    have hY' : lpN (sPy1 (nI N) hol S.1 wal) 9 0 (0, pen, paid) = Y := by rw [hY, sPyQ, if_neg h6, sPay]
    have E : ∀ (y0 : Int32) (y1 y2 : Nat → Int32), (y0, y1, y2) = Y → AW G (yX2_pass.cls, cX2_pass, 4, 14) (hS th S.1 car wal hol y2 rain place str S.2.1 y1 S.2.2 dri (nI N) q) 0 0 131 [(2, .int y0), (0, .ref 0)] [] := by
      intro y0 y1 y2 hf
      rw [← hf] at J
      exact J
    have K : ∀ (k i : Nat) (y0 : Int32) (y1 : Nat → Int32) (y2 : Nat → Int32), i + k = 9 → lpN (sPy1 (nI N) hol S.1 wal) k i (y0, y1, y2) = Y → AW G (yX2_pass.cls, cX2_pass, 4, 14) (hS th S.1 car wal hol y2 rain place str S.2.1 y1 S.2.2 dri (nI N) q) 0 0 101 [(3, .int (nI i)), (2, .int y0), (0, .ref 0)] [] := by
      intro k
      induction k with
      | zero =>
        intro i y0 y1 y2 hi hf
        refine AW.blk (amX2_pass _) 57 2 (h' := hS th S.1 car wal hol y2 rain place str S.2.1 y1 S.2.2 dri (nI N) q) (pc' := 104) (lv' := [(3, .int (nI i)), (2, .int y0), (0, .ref 0)]) (st' := [.int 9, .int (nI i)]) (L := []) rfl trivial ?_
        refine AW.br (amX2_pass _) 59 (tgt := 131) (C := 9 ≤ (nI i)) (C' := ¬ 9 ≤ (nI i)) (st' := []) rfl rfl rfl (fun c1 => ?_) (fun c1 => absurd (nI_le (a := 9) (b := i) (by omega) (by omega)) c1)
        refine AW.pick [1, 2] (lv' := [(2, .int y0), (0, .ref 0)]) rfl ?_
        exact E _ _ _ hf
      | succ k ih =>
        intro i y0 y1 y2 hi hf
        refine AW.blk (amX2_pass _) 57 2 (h' := hS th S.1 car wal hol y2 rain place str S.2.1 y1 S.2.2 dri (nI N) q) (pc' := 104) (lv' := [(3, .int (nI i)), (2, .int y0), (0, .ref 0)]) (st' := [.int 9, .int (nI i)]) (L := []) rfl trivial ?_
        refine AW.br (amX2_pass _) 59 (tgt := 131) (C := 9 ≤ (nI i)) (C' := ¬ 9 ≤ (nI i)) (st' := []) rfl rfl rfl (fun c1 => absurd c1 (nI_ge (a := i) (b := 9) (by omega) (by omega))) (fun c1 => ?_)
        refine AW.blk (amX2_pass _) 60 5 (h' := hS th S.1 car wal hol y2 rain place str S.2.1 y1 S.2.2 dri (nI N) q) (pc' := 114) (lv' := [(3, .int (nI i)), (2, .int y0), (0, .ref 0)]) (st' := [.int ((-1)), .int (hol (nI i).toNatClampNeg)]) (L := [vp_in (nI i) 9]) rfl (vpi (by omega) rfl) ?_
        refine AW.br (amX2_pass _) 65 (tgt := 125) (C := (hol (nI i).toNatClampNeg) = (-1)) (C' := ¬ (hol (nI i).toNatClampNeg) = (-1)) (st' := []) rfl rfl rfl (fun c2 => ?_) (fun c2 => ?_)
        · refine AW.blk (amX2_pass _) 72 2 (h' := hS th S.1 car wal hol y2 rain place str S.2.1 y1 S.2.2 dri (nI N) q) (pc' := 101) (lv' := [(3, .int ((nI i) + 1)), (2, .int y0), (0, .ref 0)]) (st' := []) (L := []) rfl trivial ?_
          rw [nI_1 i]
          exact ih (i + 1) _ _ _ (by omega) (by rw [← hf]; simp only [lpN, sPy1_m hN (show i < 9 by omega) hH, if_neg c1, if_pos c2])
        · refine AW.blk (amX2_pass _) 66 3 (h' := hS th S.1 car wal hol y2 rain place str S.2.1 y1 S.2.2 dri (nI N) q) (pc' := 120) (lv' := [(3, .int (nI i)), (2, .int y0), (0, .ref 0)]) (st' := [.int (nI i), .ref 0, .int y0]) (L := []) rfl trivial ?_
          refine AW.callV (amX2_pass _) 69 (kX2_pay th S.1 car wal hol y2 rain place str S.2.1 y1 S.2.2 dri N q i hN (by omega) hH c2) rfl rfl [0, 1, 2, 3, 4, 5, 6, 7, 8, 9, 10, 11, 12, 13] [100, 101, 102] ykX2_pay yiX2_pay yvX2_pay mlX2_93 rfl rfl rfl rfl hR ⟨Nat.le_of_ble_eq_true rfl, Nat.le_of_ble_eq_true rfl, Nat.le_of_ble_eq_true rfl, Nat.le_of_ble_eq_true rfl⟩ rfl rfl rfl rfl rfl (fun _ => rfl) (h1 := hS th S.1 car wal hol (upd y2 (nI i).toNatClampNeg (y2 (nI i).toNatClampNeg + sWa (nI i) S.1 wal)) rain place str S.2.1 (upd y1 (hol (nI i).toNatClampNeg).toNatClampNeg (y1 (hol (nI i).toNatClampNeg).toNatClampNeg + sWa (nI i) S.1 wal)) S.2.2 dri (nI N) q) rfl (st' := [.int (sWa (nI i) S.1 wal), .int y0]) rfl ?_
          refine AW.blk (amX2_pass _) 70 4 (h' := hS th S.1 car wal hol (upd y2 (nI i).toNatClampNeg (y2 (nI i).toNatClampNeg + sWa (nI i) S.1 wal)) rain place str S.2.1 (upd y1 (hol (nI i).toNatClampNeg).toNatClampNeg (y1 (hol (nI i).toNatClampNeg).toNatClampNeg + sWa (nI i) S.1 wal)) S.2.2 dri (nI N) q) (pc' := 101) (lv' := [(3, .int ((nI i) + 1)), (2, .int (y0 + (sWa (nI i) S.1 wal))), (0, .ref 0)]) (st' := []) (L := []) rfl trivial ?_
          rw [nI_1 i]
          exact ih (i + 1) _ _ _ (by omega) (by rw [← hf]; simp only [lpN, sPy1_m hN (show i < 9 by omega) hH, if_neg c1, if_neg c2])
    refine AW.blk (amX2_pass _) 55 2 (h' := hS th S.1 car wal hol paid rain place str S.2.1 pen S.2.2 dri (nI N) q) (pc' := 101) (lv' := [(3, .int 0), (2, .int 0), (0, .ref 0)]) (st' := []) (L := []) rfl trivial ?_
    exact K 9 0 0 pen paid rfl hY'
  have P1 : ∀ (m1 : Nat → Int32), m1 = sMd w car mud → ¬ 6 ≤ w → AW G (yX2_pass.cls, cX2_pass, 4, 14) (hS th m1 car wal hol paid rain place str bro pen swe dri (nI N) q) 0 0 67 [(2, .int 0), (0, .ref 0)] [] := by
    intro m1 hm1 h6
    have hS2 : lpN (sSw1 (nI N) place hol str) N 0 (m1, bro, swe) = S := by rw [hS', sSwQ, if_neg h6, sSweep, lpS_N _ _ hN (by decide), hm1]
    have E : ∀ (s0 s1 s2 : Nat → Int32), (s0, s1, s2) = S → AW G (yX2_pass.cls, cX2_pass, 4, 14) (hS th s0 car wal hol paid rain place str s1 pen s2 dri (nI N) q) 0 0 99 [(2, .int 0), (0, .ref 0)] [] := by
      intro s0 s1 s2 hf
      have hx := P0 h6
      rw [← hf] at hx
      exact hx
    have K : ∀ (k i : Nat) (s0 : Nat → Int32) (s1 : Nat → Int32) (s2 : Nat → Int32), i + k = N → lpN (sSw1 (nI N) place hol str) k i (s0, s1, s2) = S → AW G (yX2_pass.cls, cX2_pass, 4, 14) (hS th s0 car wal hol paid rain place str s1 pen s2 dri (nI N) q) 0 0 69 [(3, .int (nI i)), (2, .int 0), (0, .ref 0)] [] := by
      intro k
      induction k with
      | zero =>
        intro i s0 s1 s2 hi hf
        refine AW.blk (amX2_pass _) 41 4 (h' := hS th s0 car wal hol paid rain place str s1 pen s2 dri (nI N) q) (pc' := 77) (lv' := [(3, .int (nI i)), (2, .int 0), (0, .ref 0)]) (st' := [.int (nI N), .int (nI i)]) (L := []) rfl trivial ?_
        refine AW.br (amX2_pass _) 45 (tgt := 99) (C := (nI N) ≤ (nI i)) (C' := ¬ (nI N) ≤ (nI i)) (st' := []) rfl rfl rfl (fun c1 => ?_) (fun c1 => absurd (nI_le (a := N) (b := i) (by omega) (by omega)) c1)
        refine AW.pick [1, 2] (lv' := [(2, .int 0), (0, .ref 0)]) rfl ?_
        exact E _ _ _ hf
      | succ k ih =>
        intro i s0 s1 s2 hi hf
        refine AW.blk (amX2_pass _) 41 4 (h' := hS th s0 car wal hol paid rain place str s1 pen s2 dri (nI N) q) (pc' := 77) (lv' := [(3, .int (nI i)), (2, .int 0), (0, .ref 0)]) (st' := [.int (nI N), .int (nI i)]) (L := []) rfl trivial ?_
        refine AW.br (amX2_pass _) 45 (tgt := 99) (C := (nI N) ≤ (nI i)) (C' := ¬ (nI N) ≤ (nI i)) (st' := []) rfl rfl rfl (fun c1 => absurd c1 (nI_ge (a := i) (b := N) (by omega) (by omega))) (fun c1 => ?_)
        refine AW.blk (amX2_pass _) 46 2 (h' := hS th s0 car wal hol paid rain place str s1 pen s2 dri (nI N) q) (pc' := 82) (lv' := [(3, .int (nI i)), (2, .int 0), (0, .ref 0)]) (st' := [.int (nI i), .ref 0]) (L := []) rfl trivial ?_
        refine AW.callV (amX2_pass _) 48 (kX2_holds th s0 car wal hol paid rain place str s1 pen s2 dri N q i hN (by omega) hP) rfl rfl [0, 1, 2, 3, 4, 5, 6, 7, 8, 9, 10, 11, 12, 13] [100, 101, 102] ykX2_holds yiX2_holds yvX2_holds mlX2_85 rfl rfl rfl rfl hR ⟨Nat.le_of_ble_eq_true rfl, Nat.le_of_ble_eq_true rfl, Nat.le_of_ble_eq_true rfl, Nat.le_of_ble_eq_true rfl⟩ rfl rfl rfl rfl rfl (fun _ => rfl) (h1 := hS th s0 car wal hol paid rain place str s1 pen s2 dri (nI N) q) rfl (st' := [.int (sHP (nI i) (nI N) place hol)]) rfl ?_
        refine AW.br (amX2_pass _) 49 (tgt := 93) (C := (sHP (nI i) (nI N) place hol) = 0) (C' := ¬ (sHP (nI i) (nI N) place hol) = 0) (st' := []) rfl rfl rfl (fun c2 => ?_) (fun c2 => ?_)
        · refine AW.blk (amX2_pass _) 53 2 (h' := hS th s0 car wal hol paid rain place str s1 pen s2 dri (nI N) q) (pc' := 69) (lv' := [(3, .int ((nI i) + 1)), (2, .int 0), (0, .ref 0)]) (st' := []) (L := []) rfl trivial ?_
          rw [nI_1 i]
          exact ih (i + 1) _ _ _ (by omega) (by rw [← hf]; simp only [lpN, sSw1_m hN (show i < N by omega) hP, if_neg c1, if_pos c2])
        · refine AW.blk (amX2_pass _) 50 2 (h' := hS th s0 car wal hol paid rain place str s1 pen s2 dri (nI N) q) (pc' := 90) (lv' := [(3, .int (nI i)), (2, .int 0), (0, .ref 0)]) (st' := [.int (nI i), .ref 0]) (L := []) rfl trivial ?_
          refine AW.callV (amX2_pass _) 52 (kX2_sweep th s0 car wal hol paid rain place str s1 pen s2 dri N q i hN (by omega) hP) rfl rfl [0, 1, 2, 3, 4, 5, 6, 7, 8, 9, 10, 11, 12, 13] [100, 101, 102] ykX2_sweep yiX2_sweep yvX2_sweep mlX2_89 rfl rfl rfl rfl hR ⟨Nat.le_of_ble_eq_true rfl, Nat.le_of_ble_eq_true rfl, Nat.le_of_ble_eq_true rfl, Nat.le_of_ble_eq_true rfl⟩ rfl rfl rfl rfl rfl (fun _ => rfl) (h1 := hS th (upd s0 (place (nI i).toNatClampNeg).toNatClampNeg (s0 (place (nI i).toNatClampNeg).toNatClampNeg - imin (s0 (place (nI i).toNatClampNeg).toNatClampNeg) (sRe (nI i) (nI N) str s1))) car wal hol paid rain place str (upd s1 (nI i).toNatClampNeg (imax 0 (s1 (nI i).toNatClampNeg - 1))) pen (upd s2 (nI i).toNatClampNeg (s2 (nI i).toNatClampNeg + imin (s0 (place (nI i).toNatClampNeg).toNatClampNeg) (sRe (nI i) (nI N) str s1))) dri (nI N) q) rfl (st' := []) rfl ?_
          refine AW.blk (amX2_pass _) 53 2 (h' := hS th (upd s0 (place (nI i).toNatClampNeg).toNatClampNeg (s0 (place (nI i).toNatClampNeg).toNatClampNeg - imin (s0 (place (nI i).toNatClampNeg).toNatClampNeg) (sRe (nI i) (nI N) str s1))) car wal hol paid rain place str (upd s1 (nI i).toNatClampNeg (imax 0 (s1 (nI i).toNatClampNeg - 1))) pen (upd s2 (nI i).toNatClampNeg (s2 (nI i).toNatClampNeg + imin (s0 (place (nI i).toNatClampNeg).toNatClampNeg) (sRe (nI i) (nI N) str s1))) dri (nI N) q) (pc' := 69) (lv' := [(3, .int ((nI i) + 1)), (2, .int 0), (0, .ref 0)]) (st' := []) (L := []) rfl trivial ?_
          rw [nI_1 i]
          exact ih (i + 1) _ _ _ (by omega) (by rw [← hf]; simp only [lpN, sSw1_m hN (show i < N by omega) hP, if_neg c1, if_neg c2])
    refine AW.blk (amX2_pass _) 39 2 (h' := hS th m1 car wal hol paid rain place str bro pen swe dri (nI N) q) (pc' := 69) (lv' := [(3, .int 0), (2, .int 0), (0, .ref 0)]) (st' := []) (L := []) rfl trivial ?_
    exact K N 0 m1 bro swe (by omega) hS2
  have E1 : ∀ (m1 : Nat → Int32), m1 = sMd w car mud → AW G (yX2_pass.cls, cX2_pass, 4, 14) (hS th m1 car wal hol paid rain place str bro pen swe dri (nI N) q) 0 0 59 [(1, .int w), (0, .ref 0)] [] := by
    intro m1 hf
    refine AW.blk (amX2_pass _) 34 4 (h' := hS th m1 car wal hol paid rain place str bro pen swe dri (nI N) q) (pc' := 64) (lv' := [(2, .int 0), (1, .int w), (0, .ref 0)]) (st' := [.int 6, .int w]) (L := []) rfl trivial ?_
    refine AW.br (amX2_pass _) 38 (tgt := 131) (C := 6 ≤ w) (C' := ¬ 6 ≤ w) (st' := []) rfl rfl rfl (fun c1 => ?_) (fun c1 => ?_)
    · have hS2 : S = (m1, bro, swe) := by rw [hS', hf, sSwQ, if_pos c1]
      have hY2 : Y = (0, pen, paid) := by rw [hY, sPyQ, if_pos c1]
      rw [hS2, hY2] at J
      refine AW.pick [0, 2] (lv' := [(2, .int 0), (0, .ref 0)]) rfl ?_
      exact J
    · refine AW.pick [0, 2] (lv' := [(2, .int 0), (0, .ref 0)]) rfl ?_
      exact P1 m1 hf c1
  have K1 : ∀ (k i : Nat) (m1 : Nat → Int32), i + k = 9 → lpN (sMd1 w car) k i m1 = sMd w car mud → AW G (yX2_pass.cls, cX2_pass, 4, 14) (hS th m1 car wal hol paid rain place str bro pen swe dri (nI N) q) 0 0 18 [(2, .int (nI i)), (1, .int w), (0, .ref 0)] [] := by
    intro k
    induction k with
    | zero =>
      intro i m1 hi hf
      refine AW.blk (amX2_pass _) 11 2 (h' := hS th m1 car wal hol paid rain place str bro pen swe dri (nI N) q) (pc' := 21) (lv' := [(2, .int (nI i)), (1, .int w), (0, .ref 0)]) (st' := [.int 9, .int (nI i)]) (L := []) rfl trivial ?_
      refine AW.br (amX2_pass _) 13 (tgt := 59) (C := 9 ≤ (nI i)) (C' := ¬ 9 ≤ (nI i)) (st' := []) rfl rfl rfl (fun c1 => ?_) (fun c1 => absurd (nI_le (a := 9) (b := i) (by omega) (by omega)) c1)
      refine AW.pick [1, 2] (lv' := [(1, .int w), (0, .ref 0)]) rfl ?_
      exact E1 _ hf
    | succ k ih =>
      intro i m1 hi hf
      refine AW.blk (amX2_pass _) 11 2 (h' := hS th m1 car wal hol paid rain place str bro pen swe dri (nI N) q) (pc' := 21) (lv' := [(2, .int (nI i)), (1, .int w), (0, .ref 0)]) (st' := [.int 9, .int (nI i)]) (L := []) rfl trivial ?_
      refine AW.br (amX2_pass _) 13 (tgt := 59) (C := 9 ≤ (nI i)) (C' := ¬ 9 ≤ (nI i)) (st' := []) rfl rfl rfl (fun c1 => absurd c1 (nI_ge (a := i) (b := 9) (by omega) (by omega))) (fun c1 => ?_)
      refine AW.blk (amX2_pass _) 14 16 (h' := hS th m1 car wal hol paid rain place str bro pen swe dri (nI N) q) (pc' := 49) (lv' := [(2, .int (nI i)), (1, .int w), (0, .ref 0)]) (st' := [.int (((m1 (nI i).toNatClampNeg) + (car (nI i).toNatClampNeg)) + w), .int 50, .int (nI i), .ref 1]) (L := [vp_in (nI i) 9, vp_in (nI i) 9]) rfl ⟨(vpi (by omega) rfl), (vpi (by omega) rfl)⟩ ?_
      refine AW.mmin (amX2_pass _) 30 rfl kmmX2_61 hR rfl ⟨Nat.le_of_ble_eq_true rfl, Nat.le_of_ble_eq_true rfl, Nat.le_of_ble_eq_true rfl, Nat.le_of_ble_eq_true rfl⟩ ?_
      refine AW.blk (amX2_pass _) 31 3 (h' := hS th (upd m1 (nI i).toNatClampNeg (imin 50 (((m1 (nI i).toNatClampNeg) + (car (nI i).toNatClampNeg)) + w))) car wal hol paid rain place str bro pen swe dri (nI N) q) (pc' := 18) (lv' := [(2, .int ((nI i) + 1)), (1, .int w), (0, .ref 0)]) (st' := []) (L := [vp_in (nI i) 9]) rfl (vpi (by omega) rfl) ?_
      rw [nI_1 i]
      exact ih (i + 1) _ (by omega) (by rw [← hf]; simp only [lpN, sMd1_m (show i < 9 by omega), if_neg c1])
  have hw2 : rain (q - q / 8 * 8).toNatClampNeg = w := by rw [hw, wet_m hq]
  refine AW.blk (amX2_pass _) 0 8 (h' := hS th mud car wal hol paid rain place str bro pen swe dri (nI N) q) (pc' := 15) (lv' := [(0, .ref 0)]) (st' := [.int (rain (q - q / 8 * 8).toNatClampNeg)]) (L := [¬ 8 = 0, vp_in (q - q / 8 * 8) 8]) rfl ⟨(show ¬ (8 : Int32) = 0 by decide), hq⟩ ?_
  rw [hw2]
  refine AW.blk (amX2_pass _) 8 3 (h' := hS th mud car wal hol paid rain place str bro pen swe dri (nI N) q) (pc' := 18) (lv' := [(2, .int 0), (1, .int w), (0, .ref 0)]) (st' := []) (L := []) rfl trivial ?_
  exact K1 9 0 mud rfl rfl
end
section
/-! ===== what holds of every city: ranges ===== -/
def rg (n hi : Nat) (f : Nat → Int32) : Prop := ∀ j, j < n → ∃ a, a ≤ hi ∧ f j = nI a
def VC (B : Nat) (C : CS) : Prop := ∃ N Q : Nat, N ≤ 8 ∧ Q ≤ B ∧ C.2.2.2.2.2.2.2.2.2.2.2.2.1 = nI N ∧ C.2.2.2.2.2.2.2.2.2.2.2.2.2 = nI Q ∧ vP N C.2.2.2.2.2.2.1 ∧ vH N C.2.2.2.1 ∧ rg 9 50 C.1 ∧ rg 9 9 C.2.1 ∧ rg 9 30 C.2.2.1 ∧ rg 8 9 C.2.2.2.2.2.1 ∧ rg 8 9 C.2.2.2.2.2.2.2.1 ∧ rg 8 40 C.2.2.2.2.2.2.2.2.1
theorem rg_upd {n hi k a : Nat} {f : Nat → Int32} (h : rg n hi f) (ha : a ≤ hi) : rg n hi (upd f k (nI a)) := by
  intro j hj
  by_cases hk : j = k
  · exact ⟨a, ha, by unfold upd; rw [if_pos hk]⟩
  · rw [pk_un hk]; exact h j hj
theorem rg_at {n hi : Nat} {f : Nat → Int32} {x : Int32} (h : rg n hi f) (hx : vp_in x n) (hn : n < 2 ^ 31) : ∃ a, a ≤ hi ∧ f x.toNatClampNeg = nI a := by
  obtain ⟨j, hj, rfl⟩ := vp_in_of hx hn
  rw [nI_clamp (by omega)]
  exact h j hj
theorem imin_n {a b : Nat} (ha : a < 2 ^ 31) (hb : b < 2 ^ 31) : imin (nI a) (nI b) = nI (min a b) := by
  unfold imin
  by_cases h : b < a
  · rw [if_pos ((nI_ltI hb ha).mpr h), Nat.min_eq_right (by omega)]
  · rw [if_neg (fun z => h ((nI_ltI hb ha).mp z)), Nat.min_eq_left (by omega)]
theorem imax_n {a b : Nat} (ha : a < 2 ^ 31) (hb : b < 2 ^ 31) : imax (nI a) (nI b) = nI (max a b) := by
  unfold imax
  by_cases h : a < b
  · rw [if_pos ((nI_ltI ha hb).mpr h), Nat.max_eq_right (by omega)]
  · rw [if_neg (fun z => h ((nI_ltI ha hb).mp z)), Nat.max_eq_left (by omega)]
theorem bro_less {b : Nat} (hb : b ≤ 40) : ∃ a, a ≤ 40 ∧ imax 0 (nI b - 1) = nI a := by
  cases b with
  | zero => exact ⟨0, by omega, by decide⟩
  | succ b =>
    refine ⟨b, by omega, ?_⟩
    rw [nI_pred]
    have := imax_n (a := 0) (b := b) (by omega) (by omega)
    rw [Nat.max_eq_right (by omega)] at this
    exact this
theorem rg_W {wal : Nat → Int32} (h : rg 9 30 wal) : vW wal := by
  intro x hx
  obtain ⟨a, ha, e⟩ := rg_at h hx (by decide)
  rw [e]
  exact nI_pos (by omega)
theorem re_n {s n : Int32} {str bro : Nat → Int32} (hs : rg 8 9 str) (hb : rg 8 40 bro) : ∃ a, a ≤ 20 ∧ sRe s n str bro = nI a := by
  unfold sRe
  by_cases h : sSw s n = 0
  · rw [if_pos h]; exact ⟨0, by omega, rfl⟩
  · rw [if_neg h]
    obtain ⟨a, ha, e1⟩ := rg_at hs (sSw_in h) (by decide)
    obtain ⟨b, hb', e2⟩ := rg_at hb (sSw_in h) (by decide)
    refine ⟨a + b / 8, by omega, ?_⟩
    rw [e1, e2, show (8 : Int32) = nI 8 from rfl, pk_div (by omega) (by decide) (by decide), nI_add]
theorem am_n {c m : Int32} {mud : Nat → Int32} {z : Nat} (hz : z < 1000000) (hm : m = nI z) (h : rg 9 50 mud) : rg 9 50 (sAM c m mud) := by
  unfold sAM
  by_cases hc : sCr c = 0
  · rw [if_pos hc]; exact h
  · rw [if_neg hc]
    obtain ⟨a, ha, e⟩ := rg_at h (sCr_in hc) (by decide)
    rw [e, hm, nI_add, show (50 : Int32) = nI 50 from rfl, imin_n (by decide) (by omega)]
    exact rg_upd h (by omega)
theorem wet_n {q : Int32} {rain : Nat → Int32} (h : rg 8 9 rain) : ∃ a, a ≤ 9 ∧ sWet q rain = nI a := by
  unfold sWet
  split
  · exact ⟨0, by omega, rfl⟩
  · rename_i h1
    split
    · exact ⟨0, by omega, rfl⟩
    · rename_i h2
      exact rg_at h (vp_in_of_lt (M := 8) (by decide) h1 h2) (by decide)
theorem lpN_inv {α : Type} {f : Nat → α → α} (I : α → Prop) {M : Nat} (hs : ∀ i a, i < M → I a → I (f i a)) : ∀ (k i : Nat) (a : α), i + k ≤ M → I a → I (lpN f k i a) := by
  intro k
  induction k with
  | zero => intro i a _ h; exact h
  | succ k ih => intro i a hi h; exact ih (i + 1) _ (by omega) (hs i a (by omega) h)
theorem lpS_inv {α : Type} {n : Int32} {f : Nat → α → α} (I : α → Prop) {M : Nat} (hs : ∀ i a, i < M → ¬ n ≤ nI i → I a → I (f i a)) : ∀ (k i : Nat) (a : α), i + k ≤ M → I a → I (lpS n f k i a) := by
  intro k
  induction k with
  | zero => intro i a _ h; exact h
  | succ k ih =>
    intro i a hi h
    show I (if n ≤ nI i then a else lpS n f k (i + 1) (f i a))
    split
    · exact h
    · rename_i hn
      exact ih (i + 1) _ (by omega) (hs i a (by omega) hn h)
theorem md_n {w : Int32} {car mud : Nat → Int32} {z : Nat} (hz : z ≤ 9) (hw : w = nI z) (hc : rg 9 9 car) (h : rg 9 50 mud) : rg 9 50 (sMd w car mud) := by
  refine lpN_inv (f := sMd1 w car) (rg 9 50) (M := 9) (fun i a hi ha => ?_) 9 0 mud (by omega) h
  obtain ⟨c, hc', e⟩ := hc i hi
  unfold sMd1
  rw [nI_clamp (by omega), e, hw, nI_add]
  exact am_n (z := c + z) (by omega) rfl ha
theorem sweep_n {n : Int32} {place hol str : Nat → Int32} {a : (Nat → Int32) × (Nat → Int32) × (Nat → Int32)} (hs : rg 8 9 str) (h1 : rg 9 50 a.1) (h2 : rg 8 40 a.2.1) : rg 9 50 (sSweep n place hol str a).1 ∧ rg 8 40 (sSweep n place hol str a).2.1 := by
  refine lpS_inv (f := sSw1 n place hol str) (fun a => rg 9 50 a.1 ∧ rg 8 40 a.2.1) (M := 8) (fun i a hi _ ha => ?_) 8 0 a (by omega) ⟨h1, h2⟩
  unfold sSw1
  split
  · exact ha
  · rename_i hc
    split
    · obtain ⟨m, hm, e⟩ := rg_at ha.1 (sCr_in hc) (by decide)
      obtain ⟨r, hr, e2⟩ := re_n (s := nI i) (n := n) hs ha.2
      obtain ⟨b, hb, e3⟩ := ha.2 i hi
      obtain ⟨b2, hb2, e4⟩ := bro_less hb
      refine ⟨?_, ?_⟩
      · show rg 9 50 (upd a.1 _ (a.1 _ - imin (a.1 _) _))
        rw [e, e2, imin_n (by omega) (by omega), pk_sub (by omega)]
        exact rg_upd ha.1 (by omega)
      · show rg 8 40 (upd a.2.1 _ (imax 0 (a.2.1 _ - 1)))
        rw [nI_clamp (by omega), e3, e4]
        exact rg_upd ha.2 hb2
    · exact ha
theorem look_n {N : Nat} {str wal : Nat → Int32} {a : (Nat → Int32) × (Nat → Int32) × (Nat → Int32)} (hN : N ≤ 8) (hW : vW wal) (hP : vP N a.1) (hH : vH N a.2.1) : vP N (sLook (nI N) str wal a).1 ∧ vH N (sLook (nI N) str wal a).2.1 := by
  unfold sLook
  rw [lpS_N _ _ hN (by decide)]
  exact lpN_inv (f := sLk1 (nI N) str wal) (fun a => vP N a.1 ∧ vH N a.2.1) (M := N) (fun i a hi ha => lk1_V hN hi ha.1 ha.2 hW) N 0 a (by omega) ⟨hP, hH⟩
theorem VC_Q {B : Nat} {C : CS} (h : VC B C) : VC (B + 1) (sQ C).2 := by
  obtain ⟨mud, car, wal, hol, paid, rain, place, str, bro, pen, swe, dri, n, q⟩ := C
  obtain ⟨N, Q, hN, hQ, e1, e2, hP, hH, r1, r2, r3, r4, r5, r6⟩ := h
  have e1 : n = nI N := e1
  have e2 : q = nI Q := e2
  subst e1; subst e2
  obtain ⟨z, hz, hw⟩ := wet_n (q := nI Q) r4
  have hmd : rg 9 50 (sMd (sWet (nI Q) rain) car mud) := md_n hz hw r2 r1
  obtain ⟨hp, hh⟩ := look_n (str := str) (a := (place, hol, dri)) hN (rg_W r3) hP hH
  have hsw : rg 9 50 (sSwQ (sWet (nI Q) rain) (nI N) place hol str (sMd (sWet (nI Q) rain) car mud, bro, swe)).1 ∧ rg 8 40 (sSwQ (sWet (nI Q) rain) (nI N) place hol str (sMd (sWet (nI Q) rain) car mud, bro, swe)).2.1 := by
    unfold sSwQ
    split
    · exact ⟨hmd, r6⟩
    · exact sweep_n r5 hmd r6
  exact ⟨N, Q + 1, hN, by omega, rfl, nI_1 Q, hp, hh, hsw.1, r2, r3, r4, r5, hsw.2⟩
theorem VC_mono {B B' : Nat} {C : CS} (h : VC B C) (hb : B ≤ B') : VC B' C := by
  obtain ⟨N, Q, hN, hQ, r⟩ := h
  exact ⟨N, Q, hN, by omega, r⟩
theorem q8 {Q : Nat} (hQ : Q < 2 ^ 31) : vp_in (nI Q - nI Q / 8 * 8) 8 := by
  rw [show (8 : Int32) = nI 8 from rfl, pk_rem hQ (by decide) (by decide)]
  exact vpi (Nat.mod_lt _ (by decide)) rfl
theorem kQm (th : Int32) {B : Nat} (C : CS) (hV : VC B C) (hB : B < 2 ^ 31) : AMet yX2_pass cX2_pass 4 (some .int) { frames := 3, cells := 0, slots := 0, locals := 68 } [.ref 0] (hSt th C) (some (.int (sQ C).1)) (hSt th (sQ C).2) := by
  obtain ⟨mud, car, wal, hol, paid, rain, place, str, bro, pen, swe, dri, n, q⟩ := C
  obtain ⟨N, Q, hN, hQ, e1, e2, hP, hH, r1, r2, r3, r4, r5, r6⟩ := hV
  have e1 : n = nI N := e1
  have e2 : q = nI Q := e2
  subst e1; subst e2
  exact kX2_pass th mud car wal hol paid rain place str bro pen swe dri N (nI Q) hN hP hH (rg_W r3) (q8 (by omega))
end
section
/-! ===== the reference: quarters, held, sums, copies, its checks ===== -/
theorem sHe1_m {N i : Nat} {hol : Nat → Int32} {a : Int32} (hN : N ≤ 8) (hi : i < 9) (hH : vH N hol) : sHe1 (nI N) hol i a = if hol (nI i).toNatClampNeg = -1 then a + 0 else a + 1 := by
  unfold sHe1
  by_cases h : hol (nI i).toNatClampNeg = -1
  · rw [if_pos h, if_pos (by rw [h]; exact swM _), Int32.add_zero]
  · rw [if_neg h, if_neg (vHsw hN hH (vpi hi rfl) h)]
theorem sLive_N {T : Nat} (hT : T ≤ 96) (C : CS) : sLive (nI T) C = lpN sLv1 T 0 (0, C) := lpS_N _ _ hT (by decide)
theorem VC_lv {B : Nat} (i : Nat) {a : Int32 × CS} (h : VC (B + i) a.2) : VC (B + (i + 1)) (sLv1 i a).2 := VC_Q h
set_option maxHeartbeats 2000000 in
theorem kX2_pass_ (th : Int32) (B T : Nat) (C : CS) (hV : VC B C) (hT : T ≤ 96) (hB : B + 96 < 2 ^ 31) : AMet yX2_pass_ cX2_pass_ 4 (some .int) { frames := 4, cells := 0, slots := 0, locals := 91 } [.ref 0, .int (nI T)] (hSt th C) (some (.int (sLive (nI T) C).1)) (hSt th (sLive (nI T) C).2) := by
  refine AMet.of (by decide) rfl ?_
  intro G hR hE hI
  have E : ∀ (all : Int32) (D : CS), (all, D) = sLive (nI T) C → AW G (yX2_pass_.cls, cX2_pass_, 4, 14) (hSt th D) 0 0 22 [(2, .int all), (0, .ref 0)] [] := by
    intro all D hf
    refine AW.blk (amX2_pass_ _) 14 1 (h' := hSt th D) (pc' := 23) (lv' := [(2, .int all), (0, .ref 0)]) (st' := [.int all]) (L := []) rfl trivial ?_
    exact AW.iretE (amX2_pass_ _) 15 hE rfl rfl rfl rfl rfl (by rw [← hf]) (by rw [← hf])
  have K : ∀ (k i : Nat) (all : Int32) (D : CS), VC (B + i) D → i + k = T → lpN sLv1 k i (all, D) = sLive (nI T) C → AW G (yX2_pass_.cls, cX2_pass_, 4, 14) (hSt th D) 0 0 4 [(3, .int (nI i)), (2, .int all), (1, .int (nI T)), (0, .ref 0)] [] := by
    intro k
    induction k with
    | zero =>
      intro i all D hD hi hf
      refine AW.blk (amX2_pass_ _) 4 2 (h' := hSt th D) (pc' := 6) (lv' := [(3, .int (nI i)), (2, .int all), (1, .int (nI T)), (0, .ref 0)]) (st' := [.int (nI T), .int (nI i)]) (L := []) rfl trivial ?_
      refine AW.br (amX2_pass_ _) 6 (tgt := 22) (C := (nI T) ≤ (nI i)) (C' := ¬ (nI T) ≤ (nI i)) (st' := []) rfl rfl rfl (fun c1 => ?_) (fun c1 => absurd (nI_le (a := T) (b := i) (by omega) (by omega)) c1)
      refine AW.pick [1, 3] (lv' := [(2, .int all), (0, .ref 0)]) rfl ?_
      exact E _ _ hf
    | succ k ih =>
      intro i all D hD hi hf
      refine AW.blk (amX2_pass_ _) 4 2 (h' := hSt th D) (pc' := 6) (lv' := [(3, .int (nI i)), (2, .int all), (1, .int (nI T)), (0, .ref 0)]) (st' := [.int (nI T), .int (nI i)]) (L := []) rfl trivial ?_
      refine AW.br (amX2_pass_ _) 6 (tgt := 22) (C := (nI T) ≤ (nI i)) (C' := ¬ (nI T) ≤ (nI i)) (st' := []) rfl rfl rfl (fun c1 => absurd c1 (nI_ge (a := i) (b := T) (by omega) (by omega))) (fun c1 => ?_)
      refine AW.blk (amX2_pass_ _) 7 2 (h' := hSt th D) (pc' := 11) (lv' := [(3, .int (nI i)), (2, .int all), (1, .int (nI T)), (0, .ref 0)]) (st' := [.ref 0, .int all]) (L := []) rfl trivial ?_
      refine AW.callV (amX2_pass_ _) 9 (kQm th D hD (by omega)) rfl rfl [0, 1, 2, 3, 4, 5, 6, 7, 8, 9, 10, 11, 12, 13] [100, 101, 102] ykX2_pass yiX2_pass yvX2_pass mlX2_99 rfl rfl rfl rfl hR ⟨Nat.le_of_ble_eq_true rfl, Nat.le_of_ble_eq_true rfl, Nat.le_of_ble_eq_true rfl, Nat.le_of_ble_eq_true rfl⟩ rfl rfl rfl rfl rfl (fun _ => rfl) (h1 := hSt th ((sQ D).2)) rfl (st' := [.int ((sQ D).1), .int all]) rfl ?_
      refine AW.blk (amX2_pass_ _) 10 4 (h' := hSt th ((sQ D).2)) (pc' := 4) (lv' := [(3, .int ((nI i) + 1)), (2, .int (all + ((sQ D).1))), (1, .int (nI T)), (0, .ref 0)]) (st' := []) (L := []) rfl trivial ?_
      rw [nI_1 i]
      exact ih (i + 1) _ _ (VC_Q hD) (by omega) (by rw [← hf]; simp only [lpN, sLv1, if_neg c1])
  refine AW.blk (amX2_pass_ _) 0 4 (h' := hSt th C) (pc' := 4) (lv' := [(3, .int 0), (2, .int 0), (0, .ref 0), (1, .int (nI T))]) (st' := []) (L := []) rfl trivial ?_
  refine AW.pick [0, 1, 3, 2] (lv' := [(3, .int 0), (2, .int 0), (1, .int (nI T)), (0, .ref 0)]) rfl ?_
  exact K T 0 0 C hV (by omega) (by rw [sLive_N hT])
set_option maxHeartbeats 2000000 in
theorem kX2_held (th : Int32) (mud car wal hol paid rain place str bro pen swe dri : Nat → Int32) (N : Nat) (q : Int32) (hN : N ≤ 8) (hH : vH N hol) : AMet yX2_held cX2_held 6 (some .int) { frames := 0, cells := 0, slots := 0, locals := 0 } [.ref 0] (hS th mud car wal hol paid rain place str bro pen swe dri (nI N) q) (some (.int (sHeld (nI N) hol))) (hS th mud car wal hol paid rain place str bro pen swe dri (nI N) q) := by
  refine AMet.of (by decide) rfl ?_
  intro G hR hE hI
  have E : ∀ (a : Int32), a = sHeld (nI N) hol → AW G (yX2_held.cls, cX2_held, 6, 14) (hS th mud car wal hol paid rain place str bro pen swe dri (nI N) q) 0 0 45 [(1, .int a)] [] := by
    intro a hf
    refine AW.blk (amX2_held _) 28 1 (h' := hS th mud car wal hol paid rain place str bro pen swe dri (nI N) q) (pc' := 46) (lv' := [(1, .int a)]) (st' := [.int a]) (L := []) rfl trivial ?_
    exact AW.iretE (amX2_held _) 29 hE rfl rfl rfl rfl rfl hf.symm rfl
  have K : ∀ (k i : Nat) (a : Int32), i + k = 9 → lpN (sHe1 (nI N) hol) k i a = sHeld (nI N) hol → AW G (yX2_held.cls, cX2_held, 6, 14) (hS th mud car wal hol paid rain place str bro pen swe dri (nI N) q) 0 0 13 [(4, .int (nI i)), (3, .int (Int32.ofNat 9)), (2, .ref 2), (1, .int a)] [] := by
    intro k
    induction k with
    | zero =>
      intro i a hi hf
      refine AW.blk (amX2_held _) 10 2 (h' := hS th mud car wal hol paid rain place str bro pen swe dri (nI N) q) (pc' := 16) (lv' := [(4, .int (nI i)), (3, .int (Int32.ofNat 9)), (2, .ref 2), (1, .int a)]) (st' := [.int (Int32.ofNat 9), .int (nI i)]) (L := []) rfl trivial ?_
      refine AW.br (amX2_held _) 12 (tgt := 45) (C := (Int32.ofNat 9) ≤ (nI i)) (C' := ¬ (Int32.ofNat 9) ≤ (nI i)) (st' := []) rfl rfl rfl (fun c1 => ?_) (fun c1 => absurd (nI_le (a := 9) (b := i) (by omega) (by omega)) c1)
      refine AW.pick [3] (lv' := [(1, .int a)]) rfl ?_
      exact E _ hf
    | succ k ih =>
      intro i a hi hf
      refine AW.blk (amX2_held _) 10 2 (h' := hS th mud car wal hol paid rain place str bro pen swe dri (nI N) q) (pc' := 16) (lv' := [(4, .int (nI i)), (3, .int (Int32.ofNat 9)), (2, .ref 2), (1, .int a)]) (st' := [.int (Int32.ofNat 9), .int (nI i)]) (L := []) rfl trivial ?_
      refine AW.br (amX2_held _) 12 (tgt := 45) (C := (Int32.ofNat 9) ≤ (nI i)) (C' := ¬ (Int32.ofNat 9) ≤ (nI i)) (st' := []) rfl rfl rfl (fun c1 => absurd c1 (nI_ge (a := i) (b := 9) (by omega) (by omega))) (fun c1 => ?_)
      refine AW.blk (amX2_held _) 13 7 (h' := hS th mud car wal hol paid rain place str bro pen swe dri (nI N) q) (pc' := 29) (lv' := [(5, .int (hol (nI i).toNatClampNeg)), (4, .int (nI i)), (3, .int (Int32.ofNat 9)), (2, .ref 2), (1, .int a)]) (st' := [.int ((-1)), .int (hol (nI i).toNatClampNeg), .int a]) (L := [vp_in (nI i) 9]) rfl (vpi (by omega) rfl) ?_
      refine AW.br (amX2_held _) 20 (tgt := 36) (C := ¬ (hol (nI i).toNatClampNeg) = (-1)) (C' := (hol (nI i).toNatClampNeg) = (-1)) (st' := [.int a]) rfl rfl rfl (fun c2 => ?_) (fun c2 => ?_)
      · refine AW.blk (amX2_held _) 23 5 (h' := hS th mud car wal hol paid rain place str bro pen swe dri (nI N) q) (pc' := 13) (lv' := [(4, .int ((nI i) + 1)), (1, .int (a + 1)), (5, .int (hol (nI i).toNatClampNeg)), (3, .int (Int32.ofNat 9)), (2, .ref 2)]) (st' := []) (L := []) rfl trivial ?_
        refine AW.pick [0, 3, 4, 1] (lv' := [(4, .int ((nI i) + 1)), (3, .int (Int32.ofNat 9)), (2, .ref 2), (1, .int (a + 1))]) rfl ?_
        rw [nI_1 i]
        exact ih (i + 1) _ (by omega) (by rw [← hf]; simp only [lpN, sHe1_m hN (show i < 9 by omega) hH, if_neg c1, if_neg c2])
      · refine AW.blk (amX2_held _) 21 2 (h' := hS th mud car wal hol paid rain place str bro pen swe dri (nI N) q) (pc' := 37) (lv' := [(5, .int (hol (nI i).toNatClampNeg)), (4, .int (nI i)), (3, .int (Int32.ofNat 9)), (2, .ref 2), (1, .int a)]) (st' := [.int 0, .int a]) (L := []) rfl trivial ?_
        refine AW.blk (amX2_held _) 24 4 (h' := hS th mud car wal hol paid rain place str bro pen swe dri (nI N) q) (pc' := 13) (lv' := [(4, .int ((nI i) + 1)), (1, .int (a + 0)), (5, .int (hol (nI i).toNatClampNeg)), (3, .int (Int32.ofNat 9)), (2, .ref 2)]) (st' := []) (L := []) rfl trivial ?_
        refine AW.pick [0, 3, 4, 1] (lv' := [(4, .int ((nI i) + 1)), (3, .int (Int32.ofNat 9)), (2, .ref 2), (1, .int (a + 0))]) rfl ?_
        rw [nI_1 i]
        exact ih (i + 1) _ (by omega) (by rw [← hf]; simp only [lpN, sHe1_m hN (show i < 9 by omega) hH, if_neg c1, if_pos c2])
  refine AW.blk (amX2_held _) 0 10 (h' := hS th mud car wal hol paid rain place str bro pen swe dri (nI N) q) (pc' := 13) (lv' := [(4, .int 0), (3, .int (Int32.ofNat 9)), (2, .ref 2), (1, .int 0), (0, .ref 0)]) (st' := []) (L := []) rfl trivial ?_
  refine AW.pick [0, 1, 2, 3] (lv' := [(4, .int 0), (3, .int (Int32.ofNat 9)), (2, .ref 2), (1, .int 0)]) rfl ?_
  exact K 9 0 0 rfl rfl
set_option maxHeartbeats 2000000 in
theorem kX2_sum_1 (th : Int32) (mud car wal hol paid rain place str bro pen swe dri : Nat → Int32) (N : Nat) (q : Int32) : AMet yX2_sum cX2_sum 7 (some .int) { frames := 0, cells := 0, slots := 0, locals := 0 } [.ref 0, .ref 1] (hS th mud car wal hol paid rain place str bro pen swe dri (nI N) q) (some (.int (sSum mud 9))) (hS th mud car wal hol paid rain place str bro pen swe dri (nI N) q) := by
  refine AMet.of (by decide) rfl ?_
  intro G hR hE hI
  have E : ∀ (a : Int32), a = sSum mud 9 → AW G (yX2_sum.cls, cX2_sum, 7, 14) (hS th mud car wal hol paid rain place str bro pen swe dri (nI N) q) 0 0 35 [(2, .int a)] [] := by
    intro a hf
    refine AW.blk (amX2_sum _) 22 1 (h' := hS th mud car wal hol paid rain place str bro pen swe dri (nI N) q) (pc' := 36) (lv' := [(2, .int a)]) (st' := [.int a]) (L := []) rfl trivial ?_
    exact AW.iretE (amX2_sum _) 23 hE rfl rfl rfl rfl rfl hf.symm rfl
  have K : ∀ (k i : Nat) (a : Int32), i + k = 9 → lpN (sSu1 mud) k i a = sSum mud 9 → AW G (yX2_sum.cls, cX2_sum, 7, 14) (hS th mud car wal hol paid rain place str bro pen swe dri (nI N) q) 0 0 11 [(5, .int (nI i)), (4, .int (Int32.ofNat 9)), (3, .ref 1), (2, .int a)] [] := by
    intro k
    induction k with
    | zero =>
      intro i a hi hf
      refine AW.blk (amX2_sum _) 9 2 (h' := hS th mud car wal hol paid rain place str bro pen swe dri (nI N) q) (pc' := 15) (lv' := [(5, .int (nI i)), (4, .int (Int32.ofNat 9)), (3, .ref 1), (2, .int a)]) (st' := [.int (Int32.ofNat 9), .int (nI i)]) (L := []) rfl trivial ?_
      refine AW.br (amX2_sum _) 11 (tgt := 35) (C := (Int32.ofNat 9) ≤ (nI i)) (C' := ¬ (Int32.ofNat 9) ≤ (nI i)) (st' := []) rfl rfl rfl (fun c1 => ?_) (fun c1 => absurd (nI_le (a := 9) (b := i) (by omega) (by omega)) c1)
      refine AW.pick [3] (lv' := [(2, .int a)]) rfl ?_
      exact E _ hf
    | succ k ih =>
      intro i a hi hf
      refine AW.blk (amX2_sum _) 9 2 (h' := hS th mud car wal hol paid rain place str bro pen swe dri (nI N) q) (pc' := 15) (lv' := [(5, .int (nI i)), (4, .int (Int32.ofNat 9)), (3, .ref 1), (2, .int a)]) (st' := [.int (Int32.ofNat 9), .int (nI i)]) (L := []) rfl trivial ?_
      refine AW.br (amX2_sum _) 11 (tgt := 35) (C := (Int32.ofNat 9) ≤ (nI i)) (C' := ¬ (Int32.ofNat 9) ≤ (nI i)) (st' := []) rfl rfl rfl (fun c1 => absurd c1 (nI_ge (a := i) (b := 9) (by omega) (by omega))) (fun c1 => ?_)
      refine AW.blk (amX2_sum _) 12 10 (h' := hS th mud car wal hol paid rain place str bro pen swe dri (nI N) q) (pc' := 11) (lv' := [(5, .int ((nI i) + 1)), (2, .int (a + (mud (nI i).toNatClampNeg))), (6, .int (mud (nI i).toNatClampNeg)), (4, .int (Int32.ofNat 9)), (3, .ref 1)]) (st' := []) (L := [vp_in (nI i) 9]) rfl (vpi (by omega) rfl) ?_
      refine AW.pick [0, 3, 4, 1] (lv' := [(5, .int ((nI i) + 1)), (4, .int (Int32.ofNat 9)), (3, .ref 1), (2, .int (a + (mud (nI i).toNatClampNeg)))]) rfl ?_
      rw [nI_1 i]
      exact ih (i + 1) _ (by omega) (by rw [← hf]; simp only [lpN, sSu1, if_neg c1])
  refine AW.blk (amX2_sum _) 0 9 (h' := hS th mud car wal hol paid rain place str bro pen swe dri (nI N) q) (pc' := 11) (lv' := [(5, .int 0), (4, .int (Int32.ofNat 9)), (3, .ref 1), (2, .int 0), (0, .ref 0), (1, .ref 1)]) (st' := []) (L := []) rfl trivial ?_
  refine AW.pick [0, 1, 2, 3] (lv' := [(5, .int 0), (4, .int (Int32.ofNat 9)), (3, .ref 1), (2, .int 0)]) rfl ?_
  exact K 9 0 0 rfl rfl
set_option maxHeartbeats 2000000 in
theorem kX2_sum_6 (th : Int32) (mud car wal hol paid rain place str bro pen swe dri : Nat → Int32) (N : Nat) (q : Int32) : AMet yX2_sum cX2_sum 7 (some .int) { frames := 0, cells := 0, slots := 0, locals := 0 } [.ref 0, .ref 6] (hS th mud car wal hol paid rain place str bro pen swe dri (nI N) q) (some (.int (sSum pen 8))) (hS th mud car wal hol paid rain place str bro pen swe dri (nI N) q) := by
  refine AMet.of (by decide) rfl ?_
  intro G hR hE hI
  have E : ∀ (a : Int32), a = sSum pen 8 → AW G (yX2_sum.cls, cX2_sum, 7, 14) (hS th mud car wal hol paid rain place str bro pen swe dri (nI N) q) 0 0 35 [(2, .int a)] [] := by
    intro a hf
    refine AW.blk (amX2_sum _) 22 1 (h' := hS th mud car wal hol paid rain place str bro pen swe dri (nI N) q) (pc' := 36) (lv' := [(2, .int a)]) (st' := [.int a]) (L := []) rfl trivial ?_
    exact AW.iretE (amX2_sum _) 23 hE rfl rfl rfl rfl rfl hf.symm rfl
  have K : ∀ (k i : Nat) (a : Int32), i + k = 8 → lpN (sSu1 pen) k i a = sSum pen 8 → AW G (yX2_sum.cls, cX2_sum, 7, 14) (hS th mud car wal hol paid rain place str bro pen swe dri (nI N) q) 0 0 11 [(5, .int (nI i)), (4, .int (Int32.ofNat 8)), (3, .ref 6), (2, .int a)] [] := by
    intro k
    induction k with
    | zero =>
      intro i a hi hf
      refine AW.blk (amX2_sum _) 9 2 (h' := hS th mud car wal hol paid rain place str bro pen swe dri (nI N) q) (pc' := 15) (lv' := [(5, .int (nI i)), (4, .int (Int32.ofNat 8)), (3, .ref 6), (2, .int a)]) (st' := [.int (Int32.ofNat 8), .int (nI i)]) (L := []) rfl trivial ?_
      refine AW.br (amX2_sum _) 11 (tgt := 35) (C := (Int32.ofNat 8) ≤ (nI i)) (C' := ¬ (Int32.ofNat 8) ≤ (nI i)) (st' := []) rfl rfl rfl (fun c1 => ?_) (fun c1 => absurd (nI_le (a := 8) (b := i) (by omega) (by omega)) c1)
      refine AW.pick [3] (lv' := [(2, .int a)]) rfl ?_
      exact E _ hf
    | succ k ih =>
      intro i a hi hf
      refine AW.blk (amX2_sum _) 9 2 (h' := hS th mud car wal hol paid rain place str bro pen swe dri (nI N) q) (pc' := 15) (lv' := [(5, .int (nI i)), (4, .int (Int32.ofNat 8)), (3, .ref 6), (2, .int a)]) (st' := [.int (Int32.ofNat 8), .int (nI i)]) (L := []) rfl trivial ?_
      refine AW.br (amX2_sum _) 11 (tgt := 35) (C := (Int32.ofNat 8) ≤ (nI i)) (C' := ¬ (Int32.ofNat 8) ≤ (nI i)) (st' := []) rfl rfl rfl (fun c1 => absurd c1 (nI_ge (a := i) (b := 8) (by omega) (by omega))) (fun c1 => ?_)
      refine AW.blk (amX2_sum _) 12 10 (h' := hS th mud car wal hol paid rain place str bro pen swe dri (nI N) q) (pc' := 11) (lv' := [(5, .int ((nI i) + 1)), (2, .int (a + (pen (nI i).toNatClampNeg))), (6, .int (pen (nI i).toNatClampNeg)), (4, .int (Int32.ofNat 8)), (3, .ref 6)]) (st' := []) (L := [vp_in (nI i) 8]) rfl (vpi (by omega) rfl) ?_
      refine AW.pick [0, 3, 4, 1] (lv' := [(5, .int ((nI i) + 1)), (4, .int (Int32.ofNat 8)), (3, .ref 6), (2, .int (a + (pen (nI i).toNatClampNeg)))]) rfl ?_
      rw [nI_1 i]
      exact ih (i + 1) _ (by omega) (by rw [← hf]; simp only [lpN, sSu1, if_neg c1])
  refine AW.blk (amX2_sum _) 0 9 (h' := hS th mud car wal hol paid rain place str bro pen swe dri (nI N) q) (pc' := 11) (lv' := [(5, .int 0), (4, .int (Int32.ofNat 8)), (3, .ref 6), (2, .int 0), (0, .ref 0), (1, .ref 6)]) (st' := []) (L := []) rfl trivial ?_
  refine AW.pick [0, 1, 2, 3] (lv' := [(5, .int 0), (4, .int (Int32.ofNat 8)), (3, .ref 6), (2, .int 0)]) rfl ?_
  exact K 8 0 0 rfl rfl
set_option maxHeartbeats 2000000 in
theorem kX2_sum_7 (th : Int32) (mud car wal hol paid rain place str bro pen swe dri : Nat → Int32) (N : Nat) (q : Int32) : AMet yX2_sum cX2_sum 7 (some .int) { frames := 0, cells := 0, slots := 0, locals := 0 } [.ref 0, .ref 7] (hS th mud car wal hol paid rain place str bro pen swe dri (nI N) q) (some (.int (sSum swe 8))) (hS th mud car wal hol paid rain place str bro pen swe dri (nI N) q) := by
  refine AMet.of (by decide) rfl ?_
  intro G hR hE hI
  have E : ∀ (a : Int32), a = sSum swe 8 → AW G (yX2_sum.cls, cX2_sum, 7, 14) (hS th mud car wal hol paid rain place str bro pen swe dri (nI N) q) 0 0 35 [(2, .int a)] [] := by
    intro a hf
    refine AW.blk (amX2_sum _) 22 1 (h' := hS th mud car wal hol paid rain place str bro pen swe dri (nI N) q) (pc' := 36) (lv' := [(2, .int a)]) (st' := [.int a]) (L := []) rfl trivial ?_
    exact AW.iretE (amX2_sum _) 23 hE rfl rfl rfl rfl rfl hf.symm rfl
  have K : ∀ (k i : Nat) (a : Int32), i + k = 8 → lpN (sSu1 swe) k i a = sSum swe 8 → AW G (yX2_sum.cls, cX2_sum, 7, 14) (hS th mud car wal hol paid rain place str bro pen swe dri (nI N) q) 0 0 11 [(5, .int (nI i)), (4, .int (Int32.ofNat 8)), (3, .ref 7), (2, .int a)] [] := by
    intro k
    induction k with
    | zero =>
      intro i a hi hf
      refine AW.blk (amX2_sum _) 9 2 (h' := hS th mud car wal hol paid rain place str bro pen swe dri (nI N) q) (pc' := 15) (lv' := [(5, .int (nI i)), (4, .int (Int32.ofNat 8)), (3, .ref 7), (2, .int a)]) (st' := [.int (Int32.ofNat 8), .int (nI i)]) (L := []) rfl trivial ?_
      refine AW.br (amX2_sum _) 11 (tgt := 35) (C := (Int32.ofNat 8) ≤ (nI i)) (C' := ¬ (Int32.ofNat 8) ≤ (nI i)) (st' := []) rfl rfl rfl (fun c1 => ?_) (fun c1 => absurd (nI_le (a := 8) (b := i) (by omega) (by omega)) c1)
      refine AW.pick [3] (lv' := [(2, .int a)]) rfl ?_
      exact E _ hf
    | succ k ih =>
      intro i a hi hf
      refine AW.blk (amX2_sum _) 9 2 (h' := hS th mud car wal hol paid rain place str bro pen swe dri (nI N) q) (pc' := 15) (lv' := [(5, .int (nI i)), (4, .int (Int32.ofNat 8)), (3, .ref 7), (2, .int a)]) (st' := [.int (Int32.ofNat 8), .int (nI i)]) (L := []) rfl trivial ?_
      refine AW.br (amX2_sum _) 11 (tgt := 35) (C := (Int32.ofNat 8) ≤ (nI i)) (C' := ¬ (Int32.ofNat 8) ≤ (nI i)) (st' := []) rfl rfl rfl (fun c1 => absurd c1 (nI_ge (a := i) (b := 8) (by omega) (by omega))) (fun c1 => ?_)
      refine AW.blk (amX2_sum _) 12 10 (h' := hS th mud car wal hol paid rain place str bro pen swe dri (nI N) q) (pc' := 11) (lv' := [(5, .int ((nI i) + 1)), (2, .int (a + (swe (nI i).toNatClampNeg))), (6, .int (swe (nI i).toNatClampNeg)), (4, .int (Int32.ofNat 8)), (3, .ref 7)]) (st' := []) (L := [vp_in (nI i) 8]) rfl (vpi (by omega) rfl) ?_
      refine AW.pick [0, 3, 4, 1] (lv' := [(5, .int ((nI i) + 1)), (4, .int (Int32.ofNat 8)), (3, .ref 7), (2, .int (a + (swe (nI i).toNatClampNeg)))]) rfl ?_
      rw [nI_1 i]
      exact ih (i + 1) _ (by omega) (by rw [← hf]; simp only [lpN, sSu1, if_neg c1])
  refine AW.blk (amX2_sum _) 0 9 (h' := hS th mud car wal hol paid rain place str bro pen swe dri (nI N) q) (pc' := 11) (lv' := [(5, .int 0), (4, .int (Int32.ofNat 8)), (3, .ref 7), (2, .int 0), (0, .ref 0), (1, .ref 7)]) (st' := []) (L := []) rfl trivial ?_
  refine AW.pick [0, 1, 2, 3] (lv' := [(5, .int 0), (4, .int (Int32.ofNat 8)), (3, .ref 7), (2, .int 0)]) rfl ?_
  exact K 8 0 0 rfl rfl
set_option maxHeartbeats 2000000 in
theorem kX2_sum_8 (th : Int32) (mud car wal hol paid rain place str bro pen swe dri : Nat → Int32) (N : Nat) (q : Int32) : AMet yX2_sum cX2_sum 7 (some .int) { frames := 0, cells := 0, slots := 0, locals := 0 } [.ref 0, .ref 8] (hS th mud car wal hol paid rain place str bro pen swe dri (nI N) q) (some (.int (sSum dri 8))) (hS th mud car wal hol paid rain place str bro pen swe dri (nI N) q) := by
  refine AMet.of (by decide) rfl ?_
  intro G hR hE hI
  have E : ∀ (a : Int32), a = sSum dri 8 → AW G (yX2_sum.cls, cX2_sum, 7, 14) (hS th mud car wal hol paid rain place str bro pen swe dri (nI N) q) 0 0 35 [(2, .int a)] [] := by
    intro a hf
    refine AW.blk (amX2_sum _) 22 1 (h' := hS th mud car wal hol paid rain place str bro pen swe dri (nI N) q) (pc' := 36) (lv' := [(2, .int a)]) (st' := [.int a]) (L := []) rfl trivial ?_
    exact AW.iretE (amX2_sum _) 23 hE rfl rfl rfl rfl rfl hf.symm rfl
  have K : ∀ (k i : Nat) (a : Int32), i + k = 8 → lpN (sSu1 dri) k i a = sSum dri 8 → AW G (yX2_sum.cls, cX2_sum, 7, 14) (hS th mud car wal hol paid rain place str bro pen swe dri (nI N) q) 0 0 11 [(5, .int (nI i)), (4, .int (Int32.ofNat 8)), (3, .ref 8), (2, .int a)] [] := by
    intro k
    induction k with
    | zero =>
      intro i a hi hf
      refine AW.blk (amX2_sum _) 9 2 (h' := hS th mud car wal hol paid rain place str bro pen swe dri (nI N) q) (pc' := 15) (lv' := [(5, .int (nI i)), (4, .int (Int32.ofNat 8)), (3, .ref 8), (2, .int a)]) (st' := [.int (Int32.ofNat 8), .int (nI i)]) (L := []) rfl trivial ?_
      refine AW.br (amX2_sum _) 11 (tgt := 35) (C := (Int32.ofNat 8) ≤ (nI i)) (C' := ¬ (Int32.ofNat 8) ≤ (nI i)) (st' := []) rfl rfl rfl (fun c1 => ?_) (fun c1 => absurd (nI_le (a := 8) (b := i) (by omega) (by omega)) c1)
      refine AW.pick [3] (lv' := [(2, .int a)]) rfl ?_
      exact E _ hf
    | succ k ih =>
      intro i a hi hf
      refine AW.blk (amX2_sum _) 9 2 (h' := hS th mud car wal hol paid rain place str bro pen swe dri (nI N) q) (pc' := 15) (lv' := [(5, .int (nI i)), (4, .int (Int32.ofNat 8)), (3, .ref 8), (2, .int a)]) (st' := [.int (Int32.ofNat 8), .int (nI i)]) (L := []) rfl trivial ?_
      refine AW.br (amX2_sum _) 11 (tgt := 35) (C := (Int32.ofNat 8) ≤ (nI i)) (C' := ¬ (Int32.ofNat 8) ≤ (nI i)) (st' := []) rfl rfl rfl (fun c1 => absurd c1 (nI_ge (a := i) (b := 8) (by omega) (by omega))) (fun c1 => ?_)
      refine AW.blk (amX2_sum _) 12 10 (h' := hS th mud car wal hol paid rain place str bro pen swe dri (nI N) q) (pc' := 11) (lv' := [(5, .int ((nI i) + 1)), (2, .int (a + (dri (nI i).toNatClampNeg))), (6, .int (dri (nI i).toNatClampNeg)), (4, .int (Int32.ofNat 8)), (3, .ref 8)]) (st' := []) (L := [vp_in (nI i) 8]) rfl (vpi (by omega) rfl) ?_
      refine AW.pick [0, 3, 4, 1] (lv' := [(5, .int ((nI i) + 1)), (4, .int (Int32.ofNat 8)), (3, .ref 8), (2, .int (a + (dri (nI i).toNatClampNeg)))]) rfl ?_
      rw [nI_1 i]
      exact ih (i + 1) _ (by omega) (by rw [← hf]; simp only [lpN, sSu1, if_neg c1])
  refine AW.blk (amX2_sum _) 0 9 (h' := hS th mud car wal hol paid rain place str bro pen swe dri (nI N) q) (pc' := 11) (lv' := [(5, .int 0), (4, .int (Int32.ofNat 8)), (3, .ref 8), (2, .int 0), (0, .ref 0), (1, .ref 8)]) (st' := []) (L := []) rfl trivial ?_
  refine AW.pick [0, 1, 2, 3] (lv' := [(5, .int 0), (4, .int (Int32.ofNat 8)), (3, .ref 8), (2, .int 0)]) rfl ?_
  exact K 8 0 0 rfl rfl
set_option maxHeartbeats 2000000 in
theorem kX2_allMud (th : Int32) (mud car wal hol paid rain place str bro pen swe dri : Nat → Int32) (N : Nat) (q : Int32) : AMet yX2_allMud cX2_allMud 1 (some .int) { frames := 1, cells := 0, slots := 0, locals := 26 } [.ref 0] (hS th mud car wal hol paid rain place str bro pen swe dri (nI N) q) (some (.int (sSum mud 9))) (hS th mud car wal hol paid rain place str bro pen swe dri (nI N) q) := by
  refine AMet.of (by decide) rfl ?_
  intro G hR hE hI
  refine AW.blk (amX2_allMud _) 0 3 (h' := hS th mud car wal hol paid rain place str bro pen swe dri (nI N) q) (pc' := 5) (lv' := [(0, .ref 0)]) (st' := [.ref 1, .ref 0]) (L := []) rfl trivial ?_
  refine AW.callV (amX2_allMud _) 3 (kX2_sum_1 th mud car wal hol paid rain place str bro pen swe dri N q) rfl rfl [0, 1, 2, 3, 4, 5, 6, 7, 8, 9, 10, 11, 12, 13] [100, 101, 102] ykX2_sum yiX2_sum yvX2_sum mlX2_103 rfl rfl rfl rfl hR ⟨Nat.le_of_ble_eq_true rfl, Nat.le_of_ble_eq_true rfl, Nat.le_of_ble_eq_true rfl, Nat.le_of_ble_eq_true rfl⟩ rfl rfl rfl rfl rfl (fun _ => rfl) (h1 := hS th mud car wal hol paid rain place str bro pen swe dri (nI N) q) rfl (st' := [.int (sSum mud 9)]) rfl ?_
  exact AW.iretE (amX2_allMud _) 4 hE rfl rfl (by first | rfl | exact narrow_b _ (by decide)) rfl rfl rfl rfl
set_option maxHeartbeats 2000000 in
theorem kX2_copy_8 (q : Int32) (f g : Nat → Int32) : AMet yX2_copy cX2_copy 3 none { frames := 1, cells := 0, slots := 0, locals := 40 } [.ref 0, .ref 1, .ref 2] ([aO 2 [.int q, .ref 100, .ref 101, .ref 102, .ref 103, .ref 104, .ref 105, .ref 106, .ref 107, .ref 108], aI 8 f, aI 8 g]) none ([aO 2 [.int q, .ref 100, .ref 101, .ref 102, .ref 103, .ref 104, .ref 105, .ref 106, .ref 107, .ref 108], aI 8 f, aI 8 f]) := by
  refine AMet.of (by decide) rfl ?_
  intro G hR hE hI
  refine AW.blk (amX2_copy _) 0 6 (h' := [aO 2 [.int q, .ref 100, .ref 101, .ref 102, .ref 103, .ref 104, .ref 105, .ref 106, .ref 107, .ref 108], aI 8 f, aI 8 g]) (pc' := 6) (lv' := [(0, .ref 0), (1, .ref 1), (2, .ref 2)]) (st' := [.int (Int32.ofNat 8), .int 0, .ref 2, .int 0, .ref 1]) (L := []) rfl trivial ?_
  refine AW.acopy (amX2_copy _) 6 8 (f := f) (g := g) rfl kcpX2_40 rfl hR ⟨(Nat.le_of_ble_eq_true rfl), (Nat.le_of_ble_eq_true rfl)⟩ (by decide) (by decide) rfl rfl (h1 := [aO 2 [.int q, .ref 100, .ref 101, .ref 102, .ref 103, .ref 104, .ref 105, .ref 106, .ref 107, .ref 108], aI 8 f, aI 8 f]) rfl ?_
  exact AW.vretE (amX2_copy _) 7 hE rfl rfl rfl rfl rfl
set_option maxHeartbeats 2000000 in
theorem kX2_copy_9 (q : Int32) (f g : Nat → Int32) : AMet yX2_copy cX2_copy 3 none { frames := 1, cells := 0, slots := 0, locals := 40 } [.ref 0, .ref 1, .ref 2] ([aO 2 [.int q, .ref 100, .ref 101, .ref 102, .ref 103, .ref 104, .ref 105, .ref 106, .ref 107, .ref 108], aI 9 f, aI 9 g]) none ([aO 2 [.int q, .ref 100, .ref 101, .ref 102, .ref 103, .ref 104, .ref 105, .ref 106, .ref 107, .ref 108], aI 9 f, aI 9 f]) := by
  refine AMet.of (by decide) rfl ?_
  intro G hR hE hI
  refine AW.blk (amX2_copy _) 0 6 (h' := [aO 2 [.int q, .ref 100, .ref 101, .ref 102, .ref 103, .ref 104, .ref 105, .ref 106, .ref 107, .ref 108], aI 9 f, aI 9 g]) (pc' := 6) (lv' := [(0, .ref 0), (1, .ref 1), (2, .ref 2)]) (st' := [.int (Int32.ofNat 9), .int 0, .ref 2, .int 0, .ref 1]) (L := []) rfl trivial ?_
  refine AW.acopy (amX2_copy _) 6 9 (f := f) (g := g) rfl kcpX2_40 rfl hR ⟨(Nat.le_of_ble_eq_true rfl), (Nat.le_of_ble_eq_true rfl)⟩ (by decide) (by decide) rfl rfl (h1 := [aO 2 [.int q, .ref 100, .ref 101, .ref 102, .ref 103, .ref 104, .ref 105, .ref 106, .ref 107, .ref 108], aI 9 f, aI 9 f]) rfl ?_
  exact AW.vretE (amX2_copy _) 7 hE rfl rfl rfl rfl rfl
def hRr (q : Int32) (mud hol paid place bro pen swe dri : Nat → Int32) : aH := [aO 2 [.int q, .ref 1, .ref 2, .ref 3, .ref 4, .ref 5, .ref 6, .ref 7, .ref 8, .ref 100], aI 9 mud, aI 9 hol, aI 9 paid, aI 8 place, aI 8 bro, aI 8 pen, aI 8 swe, aI 8 dri]
def hRr9 (q : Int32) (mud hol paid place bro pen swe dri : Nat → Int32) : aH := [aO 2 [.int q, .ref 10, .ref 11, .ref 12, .ref 13, .ref 14, .ref 15, .ref 16, .ref 17, .ref 100], aI 9 mud, aI 9 hol, aI 9 paid, aI 8 place, aI 8 bro, aI 8 pen, aI 8 swe, aI 8 dri]
set_option maxHeartbeats 2000000 in
theorem kX2_become (q1 q2 : Int32) (mud1 hol1 paid1 place1 bro1 pen1 swe1 dri1 mud2 hol2 paid2 place2 bro2 pen2 swe2 dri2 : Nat → Int32) : AMet yX2_become cX2_become 2 none { frames := 2, cells := 0, slots := 0, locals := 62 } [.ref 0, .ref 9] (hRr q1 mud1 hol1 paid1 place1 bro1 pen1 swe1 dri1 ++ hRr9 q2 mud2 hol2 paid2 place2 bro2 pen2 swe2 dri2) none (hRr q2 mud2 hol2 paid2 place2 bro2 pen2 swe2 dri2 ++ hRr9 q2 mud2 hol2 paid2 place2 bro2 pen2 swe2 dri2) := by
  refine AMet.of (by decide) rfl ?_
  intro G hR hE hI
  refine AW.blk (amX2_become _) 0 9 (h' := hRr q2 mud1 hol1 paid1 place1 bro1 pen1 swe1 dri1 ++ hRr9 q2 mud2 hol2 paid2 place2 bro2 pen2 swe2 dri2) (pc' := 17) (lv' := [(0, .ref 0), (1, .ref 9)]) (st' := [.ref 1, .ref 10, .ref 0]) (L := []) rfl trivial ?_
  refine AW.callV (amX2_become _) 9 (kX2_copy_9 q2 mud2 mud1) rfl rfl [0, 10, 1] [1, 2, 3, 4, 5, 6, 7, 8, 100] ykX2_copy yiX2_copy yvX2_copy mlX2_50 rfl rfl rfl rfl hR ⟨Nat.le_of_ble_eq_true rfl, Nat.le_of_ble_eq_true rfl, Nat.le_of_ble_eq_true rfl, Nat.le_of_ble_eq_true rfl⟩ rfl rfl rfl rfl rfl (fun _ => rfl) (h1 := hRr q2 mud2 hol1 paid1 place1 bro1 pen1 swe1 dri1 ++ hRr9 q2 mud2 hol2 paid2 place2 bro2 pen2 swe2 dri2) rfl (st' := []) rfl ?_
  refine AW.blk (amX2_become _) 10 5 (h' := hRr q2 mud2 hol1 paid1 place1 bro1 pen1 swe1 dri1 ++ hRr9 q2 mud2 hol2 paid2 place2 bro2 pen2 swe2 dri2) (pc' := 29) (lv' := [(0, .ref 0), (1, .ref 9)]) (st' := [.ref 2, .ref 11, .ref 0]) (L := []) rfl trivial ?_
  refine AW.callV (amX2_become _) 15 (kX2_copy_9 q2 hol2 hol1) rfl rfl [0, 11, 2] [1, 2, 3, 4, 5, 6, 7, 8, 100] ykX2_copy yiX2_copy yvX2_copy mlX2_50 rfl rfl rfl rfl hR ⟨Nat.le_of_ble_eq_true rfl, Nat.le_of_ble_eq_true rfl, Nat.le_of_ble_eq_true rfl, Nat.le_of_ble_eq_true rfl⟩ rfl rfl rfl rfl rfl (fun _ => rfl) (h1 := hRr q2 mud2 hol2 paid1 place1 bro1 pen1 swe1 dri1 ++ hRr9 q2 mud2 hol2 paid2 place2 bro2 pen2 swe2 dri2) rfl (st' := []) rfl ?_
  refine AW.blk (amX2_become _) 16 5 (h' := hRr q2 mud2 hol2 paid1 place1 bro1 pen1 swe1 dri1 ++ hRr9 q2 mud2 hol2 paid2 place2 bro2 pen2 swe2 dri2) (pc' := 41) (lv' := [(0, .ref 0), (1, .ref 9)]) (st' := [.ref 3, .ref 12, .ref 0]) (L := []) rfl trivial ?_
  refine AW.callV (amX2_become _) 21 (kX2_copy_9 q2 paid2 paid1) rfl rfl [0, 12, 3] [1, 2, 3, 4, 5, 6, 7, 8, 100] ykX2_copy yiX2_copy yvX2_copy mlX2_50 rfl rfl rfl rfl hR ⟨Nat.le_of_ble_eq_true rfl, Nat.le_of_ble_eq_true rfl, Nat.le_of_ble_eq_true rfl, Nat.le_of_ble_eq_true rfl⟩ rfl rfl rfl rfl rfl (fun _ => rfl) (h1 := hRr q2 mud2 hol2 paid2 place1 bro1 pen1 swe1 dri1 ++ hRr9 q2 mud2 hol2 paid2 place2 bro2 pen2 swe2 dri2) rfl (st' := []) rfl ?_
  refine AW.blk (amX2_become _) 22 5 (h' := hRr q2 mud2 hol2 paid2 place1 bro1 pen1 swe1 dri1 ++ hRr9 q2 mud2 hol2 paid2 place2 bro2 pen2 swe2 dri2) (pc' := 53) (lv' := [(0, .ref 0), (1, .ref 9)]) (st' := [.ref 4, .ref 13, .ref 0]) (L := []) rfl trivial ?_
  refine AW.callV (amX2_become _) 27 (kX2_copy_8 q2 place2 place1) rfl rfl [0, 13, 4] [1, 2, 3, 4, 5, 6, 7, 8, 100] ykX2_copy yiX2_copy yvX2_copy mlX2_50 rfl rfl rfl rfl hR ⟨Nat.le_of_ble_eq_true rfl, Nat.le_of_ble_eq_true rfl, Nat.le_of_ble_eq_true rfl, Nat.le_of_ble_eq_true rfl⟩ rfl rfl rfl rfl rfl (fun _ => rfl) (h1 := hRr q2 mud2 hol2 paid2 place2 bro1 pen1 swe1 dri1 ++ hRr9 q2 mud2 hol2 paid2 place2 bro2 pen2 swe2 dri2) rfl (st' := []) rfl ?_
  refine AW.blk (amX2_become _) 28 5 (h' := hRr q2 mud2 hol2 paid2 place2 bro1 pen1 swe1 dri1 ++ hRr9 q2 mud2 hol2 paid2 place2 bro2 pen2 swe2 dri2) (pc' := 65) (lv' := [(0, .ref 0), (1, .ref 9)]) (st' := [.ref 5, .ref 14, .ref 0]) (L := []) rfl trivial ?_
  refine AW.callV (amX2_become _) 33 (kX2_copy_8 q2 bro2 bro1) rfl rfl [0, 14, 5] [1, 2, 3, 4, 5, 6, 7, 8, 100] ykX2_copy yiX2_copy yvX2_copy mlX2_50 rfl rfl rfl rfl hR ⟨Nat.le_of_ble_eq_true rfl, Nat.le_of_ble_eq_true rfl, Nat.le_of_ble_eq_true rfl, Nat.le_of_ble_eq_true rfl⟩ rfl rfl rfl rfl rfl (fun _ => rfl) (h1 := hRr q2 mud2 hol2 paid2 place2 bro2 pen1 swe1 dri1 ++ hRr9 q2 mud2 hol2 paid2 place2 bro2 pen2 swe2 dri2) rfl (st' := []) rfl ?_
  refine AW.blk (amX2_become _) 34 5 (h' := hRr q2 mud2 hol2 paid2 place2 bro2 pen1 swe1 dri1 ++ hRr9 q2 mud2 hol2 paid2 place2 bro2 pen2 swe2 dri2) (pc' := 77) (lv' := [(0, .ref 0), (1, .ref 9)]) (st' := [.ref 6, .ref 15, .ref 0]) (L := []) rfl trivial ?_
  refine AW.callV (amX2_become _) 39 (kX2_copy_8 q2 pen2 pen1) rfl rfl [0, 15, 6] [1, 2, 3, 4, 5, 6, 7, 8, 100] ykX2_copy yiX2_copy yvX2_copy mlX2_50 rfl rfl rfl rfl hR ⟨Nat.le_of_ble_eq_true rfl, Nat.le_of_ble_eq_true rfl, Nat.le_of_ble_eq_true rfl, Nat.le_of_ble_eq_true rfl⟩ rfl rfl rfl rfl rfl (fun _ => rfl) (h1 := hRr q2 mud2 hol2 paid2 place2 bro2 pen2 swe1 dri1 ++ hRr9 q2 mud2 hol2 paid2 place2 bro2 pen2 swe2 dri2) rfl (st' := []) rfl ?_
  refine AW.blk (amX2_become _) 40 5 (h' := hRr q2 mud2 hol2 paid2 place2 bro2 pen2 swe1 dri1 ++ hRr9 q2 mud2 hol2 paid2 place2 bro2 pen2 swe2 dri2) (pc' := 89) (lv' := [(0, .ref 0), (1, .ref 9)]) (st' := [.ref 7, .ref 16, .ref 0]) (L := []) rfl trivial ?_
  refine AW.callV (amX2_become _) 45 (kX2_copy_8 q2 swe2 swe1) rfl rfl [0, 16, 7] [1, 2, 3, 4, 5, 6, 7, 8, 100] ykX2_copy yiX2_copy yvX2_copy mlX2_50 rfl rfl rfl rfl hR ⟨Nat.le_of_ble_eq_true rfl, Nat.le_of_ble_eq_true rfl, Nat.le_of_ble_eq_true rfl, Nat.le_of_ble_eq_true rfl⟩ rfl rfl rfl rfl rfl (fun _ => rfl) (h1 := hRr q2 mud2 hol2 paid2 place2 bro2 pen2 swe2 dri1 ++ hRr9 q2 mud2 hol2 paid2 place2 bro2 pen2 swe2 dri2) rfl (st' := []) rfl ?_
  refine AW.blk (amX2_become _) 46 5 (h' := hRr q2 mud2 hol2 paid2 place2 bro2 pen2 swe2 dri1 ++ hRr9 q2 mud2 hol2 paid2 place2 bro2 pen2 swe2 dri2) (pc' := 101) (lv' := [(0, .ref 0), (1, .ref 9)]) (st' := [.ref 8, .ref 17, .ref 0]) (L := []) rfl trivial ?_
  refine AW.callV (amX2_become _) 51 (kX2_copy_8 q2 dri2 dri1) rfl rfl [0, 17, 8] [1, 2, 3, 4, 5, 6, 7, 8, 100] ykX2_copy yiX2_copy yvX2_copy mlX2_50 rfl rfl rfl rfl hR ⟨Nat.le_of_ble_eq_true rfl, Nat.le_of_ble_eq_true rfl, Nat.le_of_ble_eq_true rfl, Nat.le_of_ble_eq_true rfl⟩ rfl rfl rfl rfl rfl (fun _ => rfl) (h1 := hRr q2 mud2 hol2 paid2 place2 bro2 pen2 swe2 dri2 ++ hRr9 q2 mud2 hol2 paid2 place2 bro2 pen2 swe2 dri2) rfl (st' := []) rfl ?_
  exact AW.vretE (amX2_become _) 52 hE rfl rfl rfl rfl rfl
set_option maxHeartbeats 2000000 in
theorem kX2_init  : AMet yX2_init cX2_init 2 none { frames := 1, cells := 8, slots := 67, locals := 40 } [.ref 0, .ref 100] ([aO 2 [.int 0, .null, .null, .null, .null, .null, .null, .null, .null, .null]]) none (hRr 0 (fun _ => 0) (fun _ => 0) (fun _ => 0) (fun _ => 0) (fun _ => 0) (fun _ => 0) (fun _ => 0) (fun _ => 0)) := by
  refine AMet.of (by decide) rfl ?_
  intro G hR hE hI
  refine AW.blk (amX2_init _) 0 2 (h' := [aO 2 [.int 0, .null, .null, .null, .null, .null, .null, .null, .null, .null]]) (pc' := 2) (lv' := [(0, .ref 0), (1, .ref 100)]) (st' := [.ref 100, .ref 0]) (L := []) rfl trivial ?_
  refine AW.putF (amX2_init _) 2 (ci := 2) (N := 10) (j := 9) (C := RX2) (T := TX2) rfl (hI rfl) rfl (by decide) kpfX2_3 rfl rfl kpd2_9 (fun _ => ⟨rfl, rfl⟩) rfl rfl (h1 := [aO 2 [.int 0, .null, .null, .null, .null, .null, .null, .null, .null, .ref 100]]) rfl ?_
  refine AW.blk (amX2_init _) 3 1 (h' := [aO 2 [.int 0, .null, .null, .null, .null, .null, .null, .null, .null, .ref 100]]) (pc' := 6) (lv' := [(0, .ref 0), (1, .ref 100)]) (st' := [.ref 0]) (L := []) rfl trivial ?_
  refine AW.objInit (amX2_init _) 4 rfl kobX2_9 rfl hR ⟨(Nat.le_of_ble_eq_true rfl), (Nat.le_of_ble_eq_true rfl)⟩ ?_
  refine AW.blk (amX2_init _) 5 2 (h' := [aO 2 [.int 0, .null, .null, .null, .null, .null, .null, .null, .null, .ref 100]]) (pc' := 12) (lv' := [(0, .ref 0), (1, .ref 100)]) (st' := [.int 9, .ref 0]) (L := []) rfl trivial ?_
  refine AW.newarr (amX2_init _) 7 9 rfl (by decide) (by decide) rfl hR (Nat.le_of_ble_eq_true rfl) (Nat.le_of_ble_eq_true rfl) rfl rfl rfl (h1 := [aO 2 [.int 0, .null, .null, .null, .null, .null, .null, .null, .null, .ref 100], aI 9 (fun _ => 0)]) rfl (st' := [.ref 1, .ref 0]) rfl ?_
  refine AW.putF (amX2_init _) 8 (ci := 2) (N := 10) (j := 1) (C := RX2) (T := TX2) rfl (hI rfl) rfl (by decide) kpfX2_15 rfl rfl kpd2_1 (fun _ => ⟨rfl, rfl⟩) rfl rfl (h1 := [aO 2 [.int 0, .ref 1, .null, .null, .null, .null, .null, .null, .null, .ref 100], aI 9 (fun _ => 0)]) rfl ?_
  refine AW.blk (amX2_init _) 9 2 (h' := [aO 2 [.int 0, .ref 1, .null, .null, .null, .null, .null, .null, .null, .ref 100], aI 9 (fun _ => 0)]) (pc' := 20) (lv' := [(0, .ref 0), (1, .ref 100)]) (st' := [.int 9, .ref 0]) (L := []) rfl trivial ?_
  refine AW.newarr (amX2_init _) 11 9 rfl (by decide) (by decide) rfl hR (Nat.le_of_ble_eq_true rfl) (Nat.le_of_ble_eq_true rfl) rfl rfl rfl (h1 := [aO 2 [.int 0, .ref 1, .null, .null, .null, .null, .null, .null, .null, .ref 100], aI 9 (fun _ => 0), aI 9 (fun _ => 0)]) rfl (st' := [.ref 2, .ref 0]) rfl ?_
  refine AW.putF (amX2_init _) 12 (ci := 2) (N := 10) (j := 2) (C := RX2) (T := TX2) rfl (hI rfl) rfl (by decide) kpfX2_19 rfl rfl kpd2_2 (fun _ => ⟨rfl, rfl⟩) rfl rfl (h1 := [aO 2 [.int 0, .ref 1, .ref 2, .null, .null, .null, .null, .null, .null, .ref 100], aI 9 (fun _ => 0), aI 9 (fun _ => 0)]) rfl ?_
  refine AW.blk (amX2_init _) 13 2 (h' := [aO 2 [.int 0, .ref 1, .ref 2, .null, .null, .null, .null, .null, .null, .ref 100], aI 9 (fun _ => 0), aI 9 (fun _ => 0)]) (pc' := 28) (lv' := [(0, .ref 0), (1, .ref 100)]) (st' := [.int 9, .ref 0]) (L := []) rfl trivial ?_
  refine AW.newarr (amX2_init _) 15 9 rfl (by decide) (by decide) rfl hR (Nat.le_of_ble_eq_true rfl) (Nat.le_of_ble_eq_true rfl) rfl rfl rfl (h1 := [aO 2 [.int 0, .ref 1, .ref 2, .null, .null, .null, .null, .null, .null, .ref 100], aI 9 (fun _ => 0), aI 9 (fun _ => 0), aI 9 (fun _ => 0)]) rfl (st' := [.ref 3, .ref 0]) rfl ?_
  refine AW.putF (amX2_init _) 16 (ci := 2) (N := 10) (j := 3) (C := RX2) (T := TX2) rfl (hI rfl) rfl (by decide) kpfX2_22 rfl rfl kpd2_3 (fun _ => ⟨rfl, rfl⟩) rfl rfl (h1 := [aO 2 [.int 0, .ref 1, .ref 2, .ref 3, .null, .null, .null, .null, .null, .ref 100], aI 9 (fun _ => 0), aI 9 (fun _ => 0), aI 9 (fun _ => 0)]) rfl ?_
  refine AW.blk (amX2_init _) 17 2 (h' := [aO 2 [.int 0, .ref 1, .ref 2, .ref 3, .null, .null, .null, .null, .null, .ref 100], aI 9 (fun _ => 0), aI 9 (fun _ => 0), aI 9 (fun _ => 0)]) (pc' := 36) (lv' := [(0, .ref 0), (1, .ref 100)]) (st' := [.int 8, .ref 0]) (L := []) rfl trivial ?_
  refine AW.newarr (amX2_init _) 19 8 rfl (by decide) (by decide) rfl hR (Nat.le_of_ble_eq_true rfl) (Nat.le_of_ble_eq_true rfl) rfl rfl rfl (h1 := [aO 2 [.int 0, .ref 1, .ref 2, .ref 3, .null, .null, .null, .null, .null, .ref 100], aI 9 (fun _ => 0), aI 9 (fun _ => 0), aI 9 (fun _ => 0), aI 8 (fun _ => 0)]) rfl (st' := [.ref 4, .ref 0]) rfl ?_
  refine AW.putF (amX2_init _) 20 (ci := 2) (N := 10) (j := 4) (C := RX2) (T := TX2) rfl (hI rfl) rfl (by decide) kpfX2_25 rfl rfl kpd2_4 (fun _ => ⟨rfl, rfl⟩) rfl rfl (h1 := [aO 2 [.int 0, .ref 1, .ref 2, .ref 3, .ref 4, .null, .null, .null, .null, .ref 100], aI 9 (fun _ => 0), aI 9 (fun _ => 0), aI 9 (fun _ => 0), aI 8 (fun _ => 0)]) rfl ?_
  refine AW.blk (amX2_init _) 21 2 (h' := [aO 2 [.int 0, .ref 1, .ref 2, .ref 3, .ref 4, .null, .null, .null, .null, .ref 100], aI 9 (fun _ => 0), aI 9 (fun _ => 0), aI 9 (fun _ => 0), aI 8 (fun _ => 0)]) (pc' := 44) (lv' := [(0, .ref 0), (1, .ref 100)]) (st' := [.int 8, .ref 0]) (L := []) rfl trivial ?_
  refine AW.newarr (amX2_init _) 23 8 rfl (by decide) (by decide) rfl hR (Nat.le_of_ble_eq_true rfl) (Nat.le_of_ble_eq_true rfl) rfl rfl rfl (h1 := [aO 2 [.int 0, .ref 1, .ref 2, .ref 3, .ref 4, .null, .null, .null, .null, .ref 100], aI 9 (fun _ => 0), aI 9 (fun _ => 0), aI 9 (fun _ => 0), aI 8 (fun _ => 0), aI 8 (fun _ => 0)]) rfl (st' := [.ref 5, .ref 0]) rfl ?_
  refine AW.putF (amX2_init _) 24 (ci := 2) (N := 10) (j := 5) (C := RX2) (T := TX2) rfl (hI rfl) rfl (by decide) kpfX2_28 rfl rfl kpd2_5 (fun _ => ⟨rfl, rfl⟩) rfl rfl (h1 := [aO 2 [.int 0, .ref 1, .ref 2, .ref 3, .ref 4, .ref 5, .null, .null, .null, .ref 100], aI 9 (fun _ => 0), aI 9 (fun _ => 0), aI 9 (fun _ => 0), aI 8 (fun _ => 0), aI 8 (fun _ => 0)]) rfl ?_
  refine AW.blk (amX2_init _) 25 2 (h' := [aO 2 [.int 0, .ref 1, .ref 2, .ref 3, .ref 4, .ref 5, .null, .null, .null, .ref 100], aI 9 (fun _ => 0), aI 9 (fun _ => 0), aI 9 (fun _ => 0), aI 8 (fun _ => 0), aI 8 (fun _ => 0)]) (pc' := 52) (lv' := [(0, .ref 0), (1, .ref 100)]) (st' := [.int 8, .ref 0]) (L := []) rfl trivial ?_
  refine AW.newarr (amX2_init _) 27 8 rfl (by decide) (by decide) rfl hR (Nat.le_of_ble_eq_true rfl) (Nat.le_of_ble_eq_true rfl) rfl rfl rfl (h1 := [aO 2 [.int 0, .ref 1, .ref 2, .ref 3, .ref 4, .ref 5, .null, .null, .null, .ref 100], aI 9 (fun _ => 0), aI 9 (fun _ => 0), aI 9 (fun _ => 0), aI 8 (fun _ => 0), aI 8 (fun _ => 0), aI 8 (fun _ => 0)]) rfl (st' := [.ref 6, .ref 0]) rfl ?_
  refine AW.putF (amX2_init _) 28 (ci := 2) (N := 10) (j := 6) (C := RX2) (T := TX2) rfl (hI rfl) rfl (by decide) kpfX2_31 rfl rfl kpd2_6 (fun _ => ⟨rfl, rfl⟩) rfl rfl (h1 := [aO 2 [.int 0, .ref 1, .ref 2, .ref 3, .ref 4, .ref 5, .ref 6, .null, .null, .ref 100], aI 9 (fun _ => 0), aI 9 (fun _ => 0), aI 9 (fun _ => 0), aI 8 (fun _ => 0), aI 8 (fun _ => 0), aI 8 (fun _ => 0)]) rfl ?_
  refine AW.blk (amX2_init _) 29 2 (h' := [aO 2 [.int 0, .ref 1, .ref 2, .ref 3, .ref 4, .ref 5, .ref 6, .null, .null, .ref 100], aI 9 (fun _ => 0), aI 9 (fun _ => 0), aI 9 (fun _ => 0), aI 8 (fun _ => 0), aI 8 (fun _ => 0), aI 8 (fun _ => 0)]) (pc' := 60) (lv' := [(0, .ref 0), (1, .ref 100)]) (st' := [.int 8, .ref 0]) (L := []) rfl trivial ?_
  refine AW.newarr (amX2_init _) 31 8 rfl (by decide) (by decide) rfl hR (Nat.le_of_ble_eq_true rfl) (Nat.le_of_ble_eq_true rfl) rfl rfl rfl (h1 := [aO 2 [.int 0, .ref 1, .ref 2, .ref 3, .ref 4, .ref 5, .ref 6, .null, .null, .ref 100], aI 9 (fun _ => 0), aI 9 (fun _ => 0), aI 9 (fun _ => 0), aI 8 (fun _ => 0), aI 8 (fun _ => 0), aI 8 (fun _ => 0), aI 8 (fun _ => 0)]) rfl (st' := [.ref 7, .ref 0]) rfl ?_
  refine AW.putF (amX2_init _) 32 (ci := 2) (N := 10) (j := 7) (C := RX2) (T := TX2) rfl (hI rfl) rfl (by decide) kpfX2_34 rfl rfl kpd2_7 (fun _ => ⟨rfl, rfl⟩) rfl rfl (h1 := [aO 2 [.int 0, .ref 1, .ref 2, .ref 3, .ref 4, .ref 5, .ref 6, .ref 7, .null, .ref 100], aI 9 (fun _ => 0), aI 9 (fun _ => 0), aI 9 (fun _ => 0), aI 8 (fun _ => 0), aI 8 (fun _ => 0), aI 8 (fun _ => 0), aI 8 (fun _ => 0)]) rfl ?_
  refine AW.blk (amX2_init _) 33 2 (h' := [aO 2 [.int 0, .ref 1, .ref 2, .ref 3, .ref 4, .ref 5, .ref 6, .ref 7, .null, .ref 100], aI 9 (fun _ => 0), aI 9 (fun _ => 0), aI 9 (fun _ => 0), aI 8 (fun _ => 0), aI 8 (fun _ => 0), aI 8 (fun _ => 0), aI 8 (fun _ => 0)]) (pc' := 68) (lv' := [(0, .ref 0), (1, .ref 100)]) (st' := [.int 8, .ref 0]) (L := []) rfl trivial ?_
  refine AW.newarr (amX2_init _) 35 8 rfl (by decide) (by decide) rfl hR (Nat.le_of_ble_eq_true rfl) (Nat.le_of_ble_eq_true rfl) rfl rfl rfl (h1 := [aO 2 [.int 0, .ref 1, .ref 2, .ref 3, .ref 4, .ref 5, .ref 6, .ref 7, .null, .ref 100], aI 9 (fun _ => 0), aI 9 (fun _ => 0), aI 9 (fun _ => 0), aI 8 (fun _ => 0), aI 8 (fun _ => 0), aI 8 (fun _ => 0), aI 8 (fun _ => 0), aI 8 (fun _ => 0)]) rfl (st' := [.ref 8, .ref 0]) rfl ?_
  refine AW.putF (amX2_init _) 36 (ci := 2) (N := 10) (j := 8) (C := RX2) (T := TX2) rfl (hI rfl) rfl (by decide) kpfX2_37 rfl rfl kpd2_8 (fun _ => ⟨rfl, rfl⟩) rfl rfl (h1 := hRr 0 (fun _ => 0) (fun _ => 0) (fun _ => 0) (fun _ => 0) (fun _ => 0) (fun _ => 0) (fun _ => 0) (fun _ => 0)) rfl ?_
  exact AW.vretE (amX2_init _) 37 hE rfl rfl rfl rfl rfl
def sIn3 (v a b : Int32) : Int32 := if v < a then 0 else if b < v then 0 else 1
theorem sIn3_cr (c : Int32) : sIn3 c 0 8 = sCr c := by
  unfold sIn3 sCr
  have h : (8 < c) = (9 ≤ c) := by
    rw [Int32.lt_iff_toInt_lt, Int32.le_iff_toInt_le]
    have e1 : (8 : Int32).toInt = 8 := by decide
    have e2 : (9 : Int32).toInt = 9 := by decide
    rw [e1, e2]
    exact propext ⟨fun h => by omega, fun h => by omega⟩
  simp only [h]
theorem sIn3_sw {N : Nat} (hN : N ≤ 8) (s : Int32) : sIn3 s 0 (nI N - 1) = sSw s (nI N) := by
  unfold sIn3 sSw
  by_cases h0 : s < 0
  · rw [if_pos h0, if_pos h0]
  · rw [if_neg h0, if_neg h0]
    cases N with
    | zero =>
      have h1 : nI 0 - 1 < s := by
        rw [Int32.lt_iff_toInt_lt] at h0 ⊢
        have e1 : (nI 0 - 1).toInt = -1 := by decide
        have e2 : (0 : Int32).toInt = 0 := by decide
        omega
      have h2 : nI 0 ≤ s := Int32.not_lt.mp h0
      rw [if_pos h1, if_pos h2]
      split <;> rfl
    | succ N =>
      rw [nI_pred]
      by_cases h1 : nI N < s
      · rw [if_pos h1]
        have h2 : nI (N + 1) ≤ s := by
          rw [Int32.lt_iff_toInt_lt, nI_toInt (by omega)] at h1
          rw [Int32.le_iff_toInt_le, nI_toInt (by omega)]
          omega
        rw [if_pos h2]
        split <;> rfl
      · rw [if_neg h1]
        rw [Int32.lt_iff_toInt_lt, nI_toInt (by omega)] at h1
        rw [if_neg, if_neg]
        · rw [Int32.le_iff_toInt_le, nI_toInt (by omega)]; omega
        · rw [Int32.le_iff_toInt_le]
          have e1 : (8 : Int32).toInt = 8 := by decide
          omega
set_option maxHeartbeats 2000000 in
theorem kX3_isIn (v a b : Int32) : AMet yX3_isIn cX3_isIn 3 (some .boolean) { frames := 0, cells := 0, slots := 0, locals := 0 } [.int v, .int a, .int b] ([]) (some (.int (sIn3 v a b))) ([]) := by
  refine AMet.of (by decide) rfl ?_
  intro G hR hE hI
  refine AW.blk (amX3_isIn _) 0 2 (h' := []) (pc' := 2) (lv' := [(0, .int v), (1, .int a), (2, .int b)]) (st' := [.int a, .int v]) (L := []) rfl trivial ?_
  refine AW.br (amX3_isIn _) 2 (tgt := 14) (C := v < a) (C' := ¬ v < a) (st' := []) rfl rfl rfl (fun c1 => ?_) (fun c1 => ?_)
  · refine AW.blk (amX3_isIn _) 8 1 (h' := []) (pc' := 15) (lv' := [(0, .int v), (1, .int a), (2, .int b)]) (st' := [.int 0]) (L := []) rfl trivial ?_
    exact AW.iretE (amX3_isIn _) 9 hE rfl rfl (by first | rfl | exact narrow_b _ (by decide)) rfl rfl (by simp only [sIn3, if_pos c1]) rfl
  · refine AW.blk (amX3_isIn _) 3 2 (h' := []) (pc' := 7) (lv' := [(0, .int v), (1, .int a), (2, .int b)]) (st' := [.int b, .int v]) (L := []) rfl trivial ?_
    refine AW.br (amX3_isIn _) 5 (tgt := 14) (C := b < v) (C' := ¬ b < v) (st' := []) rfl rfl rfl (fun c2 => ?_) (fun c2 => ?_)
    · refine AW.blk (amX3_isIn _) 8 1 (h' := []) (pc' := 15) (lv' := [(0, .int v), (1, .int a), (2, .int b)]) (st' := [.int 0]) (L := []) rfl trivial ?_
      exact AW.iretE (amX3_isIn _) 9 hE rfl rfl (by first | rfl | exact narrow_b _ (by decide)) rfl rfl (by simp only [sIn3, if_neg c1, if_pos c2]) rfl
    · refine AW.blk (amX3_isIn _) 6 2 (h' := []) (pc' := 15) (lv' := [(0, .int v), (1, .int a), (2, .int b)]) (st' := [.int 1]) (L := []) rfl trivial ?_
      exact AW.iretE (amX3_isIn _) 9 hE rfl rfl (by first | rfl | exact narrow_b _ (by decide)) rfl rfl (by simp only [sIn3, if_neg c1, if_neg c2]) rfl
theorem sIn3_b (v a b : Int32) : narrow .boolean (.int (sIn3 v a b)) = .int (sIn3 v a b) := by
  unfold sIn3
  split
  · rfl
  · split <;> rfl
set_option maxHeartbeats 2000000 in
theorem kX3_isCrossing (c : Int32) : AMet yX3_isCrossing cX3_isCrossing 1 (some .boolean) { frames := 1, cells := 0, slots := 0, locals := 22 } [.int c] ([]) (some (.int (sCr c))) ([]) := by
  refine AMet.of (by decide) rfl ?_
  intro G hR hE hI
  rw [← sIn3_cr] at hE
  refine AW.blk (amX3_isCrossing _) 0 3 (h' := []) (pc' := 4) (lv' := [(0, .int c)]) (st' := [.int 8, .int 0, .int c]) (L := []) rfl trivial ?_
  refine AW.callS (amX3_isCrossing _) 3 (kX3_isIn c 0 8) [] [] ykX3_isIn ysX3_isIn mlX3_44 rfl rfl rfl rfl hR ⟨Nat.le_of_ble_eq_true rfl, Nat.le_of_ble_eq_true rfl, Nat.le_of_ble_eq_true rfl, Nat.le_of_ble_eq_true rfl⟩ rfl rfl rfl rfl rfl (fun _ => rfl) (h1 := []) rfl (st' := [.int (sIn3 c 0 8)]) rfl ?_
  exact AW.iretE (amX3_isCrossing _) 4 hE rfl rfl (sIn3_b _ _ _) rfl rfl rfl rfl
set_option maxHeartbeats 2000000 in
theorem kX3_isTime (t : Int32) : AMet yX3_isTime cX3_isTime 1 (some .boolean) { frames := 1, cells := 0, slots := 0, locals := 22 } [.int t] ([]) (some (.int (sIn3 t 1 96))) ([]) := by
  refine AMet.of (by decide) rfl ?_
  intro G hR hE hI
  refine AW.blk (amX3_isTime _) 0 3 (h' := []) (pc' := 4) (lv' := [(0, .int t)]) (st' := [.int 96, .int 1, .int t]) (L := []) rfl trivial ?_
  refine AW.callS (amX3_isTime _) 3 (kX3_isIn t 1 96) [] [] ykX3_isIn ysX3_isIn mlX3_44 rfl rfl rfl rfl hR ⟨Nat.le_of_ble_eq_true rfl, Nat.le_of_ble_eq_true rfl, Nat.le_of_ble_eq_true rfl, Nat.le_of_ble_eq_true rfl⟩ rfl rfl rfl rfl rfl (fun _ => rfl) (h1 := []) rfl (st' := [.int (sIn3 t 1 96)]) rfl ?_
  exact AW.iretE (amX3_isTime _) 4 hE rfl rfl (sIn3_b _ _ _) rfl rfl rfl rfl
def hO (th n : Int32) : aH := [aO 3 [.int th, .ref 101, .ref 102, .ref 103, .int n, .ref 104, .ref 105, .ref 106, .ref 115]]
set_option maxHeartbeats 2000000 in
theorem kX3_isSweeper (th : Int32) (N : Nat) (hN : N ≤ 8) (s : Int32) : AMet yX3_isSweeper cX3_isSweeper 2 (some .boolean) { frames := 1, cells := 0, slots := 0, locals := 22 } [.ref 0, .int s] (hO th (nI N)) (some (.int (sSw s (nI N)))) (hO th (nI N)) := by
  refine AMet.of (by decide) rfl ?_
  intro G hR hE hI
  rw [← sIn3_sw hN] at hE
  refine AW.blk (amX3_isSweeper _) 0 6 (h' := [aO 3 [.int th, .ref 101, .ref 102, .ref 103, .int (nI N), .ref 104, .ref 105, .ref 106, .ref 115]]) (pc' := 8) (lv' := [(0, .ref 0), (1, .int s)]) (st' := [.int ((nI N) - 1), .int 0, .int s]) (L := []) rfl trivial ?_
  refine AW.callS (amX3_isSweeper _) 6 (kX3_isIn s 0 ((nI N) - 1)) [] [] ykX3_isIn ysX3_isIn mlX3_44 rfl rfl rfl rfl hR ⟨Nat.le_of_ble_eq_true rfl, Nat.le_of_ble_eq_true rfl, Nat.le_of_ble_eq_true rfl, Nat.le_of_ble_eq_true rfl⟩ rfl rfl rfl rfl rfl (fun _ => rfl) (h1 := [aO 3 [.int th, .ref 101, .ref 102, .ref 103, .int (nI N), .ref 104, .ref 105, .ref 106, .ref 115]]) rfl (st' := [.int (sIn3 s 0 ((nI N) - 1))]) rfl ?_
  exact AW.iretE (amX3_isSweeper _) 7 hE rfl rfl (sIn3_b _ _ _) rfl rfl rfl rfl
set_option maxHeartbeats 2000000 in
theorem kX3_no (th n x : Int32) : AMet yX3_no cX3_no 2 (some .int) { frames := 0, cells := 0, slots := 0, locals := 0 } [.ref 0, .int x] (hO th n) (some (.int 0)) (hO x n) := by
  refine AMet.of (by decide) rfl ?_
  intro G hR hE hI
  refine AW.blk (amX3_no _) 0 4 (h' := [aO 3 [.int x, .ref 101, .ref 102, .ref 103, .int n, .ref 104, .ref 105, .ref 106, .ref 115]]) (pc' := 6) (lv' := [(0, .ref 0), (1, .int x)]) (st' := [.int 0]) (L := []) rfl trivial ?_
  exact AW.iretE (amX3_no _) 4 hE rfl rfl (by first | rfl | exact narrow_b _ (by decide)) rfl rfl rfl rfl
set_option maxHeartbeats 2000000 in
theorem kX3_thrown (th n : Int32) : AMet yX3_thrown cX3_thrown 1 (some .int) { frames := 0, cells := 0, slots := 0, locals := 0 } [.ref 0] (hO th n) (some (.int th)) (hO th n) := by
  refine AMet.of (by decide) rfl ?_
  intro G hR hE hI
  refine AW.blk (amX3_thrown _) 0 2 (h' := [aO 3 [.int th, .ref 101, .ref 102, .ref 103, .int n, .ref 104, .ref 105, .ref 106, .ref 115]]) (pc' := 4) (lv' := [(0, .ref 0)]) (st' := [.int th]) (L := []) rfl trivial ?_
  exact AW.iretE (amX3_thrown _) 2 hE rfl rfl (by first | rfl | exact narrow_b _ (by decide)) rfl rfl rfl rfl
end
section
/-! ===== the state's methods, said of a whole city ===== -/
theorem sw_ex {N : Nat} {s : Int32} (hN : N ≤ 8) (h : ¬ sSw s (nI N) = 0) : ∃ i, i < N ∧ s = nI i := by
  obtain ⟨i, hi, rfl⟩ := vp_in_of (sSw_in h) (by decide)
  refine ⟨i, ?_, rfl⟩
  rcases Nat.lt_or_ge i N with z | z
  · exact z
  · exfalso
    apply h
    unfold sSw
    rw [if_neg (nI_pos (by omega)), if_neg (show ¬ (8 : Int32) ≤ nI i from nle (N := 8) hi rfl), if_pos (nI_le z (by omega))]
theorem t_ex {t : Int32} (h1 : ¬ t < 1) (h2 : t ≤ 96) : ∃ T, T ≤ 96 ∧ t = nI T := by
  have e1 : (1 : Int32).toInt = 1 := by decide
  have e2 : (96 : Int32).toInt = 96 := by decide
  rw [Int32.lt_iff_toInt_lt, e1] at h1
  exact nI_of2 (M := 96) (n := 96) (by decide) (by rw [Int32.lt_iff_toInt_lt, Int32.toInt_zero]; omega) h2
def hSm (th : Int32) (C D : CS) : aH := hS th D.1 C.2.1 C.2.2.1 D.2.2.2.1 D.2.2.2.2.1 C.2.2.2.2.2.1 D.2.2.2.2.2.2.1 C.2.2.2.2.2.2.2.1 D.2.2.2.2.2.2.2.2.1 D.2.2.2.2.2.2.2.2.2.1 D.2.2.2.2.2.2.2.2.2.2.1 D.2.2.2.2.2.2.2.2.2.2.2.1 C.2.2.2.2.2.2.2.2.2.2.2.2.1 D.2.2.2.2.2.2.2.2.2.2.2.2.2
def fx (C D : CS) : Prop := D.2.1 = C.2.1 ∧ D.2.2.1 = C.2.2.1 ∧ D.2.2.2.2.2.1 = C.2.2.2.2.2.1 ∧ D.2.2.2.2.2.2.2.1 = C.2.2.2.2.2.2.2.1 ∧ D.2.2.2.2.2.2.2.2.2.2.2.2.1 = C.2.2.2.2.2.2.2.2.2.2.2.2.1
theorem fx_Q {C D : CS} (h : fx C D) : fx C (sQ D).2 := by
  obtain ⟨mud, car, wal, hol, paid, rain, place, str, bro, pen, swe, dri, n, q⟩ := D
  exact h
theorem fx_L (t : Int32) (C : CS) : fx C (sLive t C).2 := lpS_inv (f := sLv1) (fun a => fx C a.2) (M := 96) (fun i a _ _ h => fx_Q h) 96 0 (0, C) (by omega) ⟨rfl, rfl, rfl, rfl, rfl⟩
theorem fx_S {th : Int32} {C D : CS} (h : fx C D) : hSt th D = hSm th C D := by
  obtain ⟨h1, h2, h3, h4, h5⟩ := h
  unfold hSt hSm
  rw [h1, h2, h3, h4, h5]
theorem VC_L {B : Nat} {t : Int32} {C : CS} (h : VC B C) : VC (B + 96) (sLive t C).2 := by
  have key : ∀ (k i : Nat) (a : Int32 × CS), i + k ≤ 96 → VC (B + i) a.2 → VC (B + 96) (lpS t sLv1 k i a).2 := by
    intro k
    induction k with
    | zero => intro i a hi h; exact VC_mono h (by omega)
    | succ k ih =>
      intro i a hi h
      show VC (B + 96) (if t ≤ nI i then a else lpS t sLv1 k (i + 1) (sLv1 i a)).2
      split
      · exact VC_mono h (by omega)
      · exact ih (i + 1) _ (by omega) (VC_Q h)
  exact key 96 0 (0, C) (by omega) h
theorem VC_move {B : Nat} {s c : Int32} {C : CS} (h : VC B C) (hc : ¬ sCr c = 0) : VC B (cMove s c C) := by
  obtain ⟨mud, car, wal, hol, paid, rain, place, str, bro, pen, swe, dri, n, q⟩ := C
  obtain ⟨N, Q, hN, hQ, e1, e2, hP, hH, r⟩ := h
  refine ⟨N, Q, hN, hQ, e1, e2, ?_, ?_, r⟩
  · show vP N (sMoP s c n place)
    unfold sMoP
    split
    · exact hP
    · intro i hi
      unfold upd
      split
      · exact sCr_in hc
      · exact hP i hi
  · show vH N (sMoH s n place hol)
    unfold sMoH
    split
    · exact hH
    · split
      · exact hH
      · split
        · intro x hx
          unfold upd
          split
          · exact Or.inl rfl
          · exact hH x hx
        · exact hH
theorem kHolds (th : Int32) {B : Nat} (C : CS) (hV : VC B C) (s : Int32) (hs : ¬ sSw s C.2.2.2.2.2.2.2.2.2.2.2.2.1 = 0) : AMet yX2_holds cX2_holds 2 (some .boolean) { frames := 0, cells := 0, slots := 0, locals := 0 } [.ref 0, .int s] (hSt th C) (some (.int (sHP s C.2.2.2.2.2.2.2.2.2.2.2.2.1 C.2.2.2.2.2.2.1 C.2.2.2.1))) (hSt th C) := by
  obtain ⟨mud, car, wal, hol, paid, rain, place, str, bro, pen, swe, dri, n, q⟩ := C
  obtain ⟨N, Q, hN, hQ, e1, e2, hP, hH, r1, r2, r3, r4, r5, r6⟩ := hV
  have e1 : n = nI N := e1
  have e2 : q = nI Q := e2
  subst e1; subst e2
  obtain ⟨i, hi, rfl⟩ := sw_ex hN hs
  exact kX2_holds th mud car wal hol paid rain place str bro pen swe dri N (nI Q) i hN hi hP
theorem kSweeps (th : Int32) {B : Nat} (C : CS) (hV : VC B C) (s : Int32) (hs : ¬ sSw s C.2.2.2.2.2.2.2.2.2.2.2.2.1 = 0) : AMet yX2_sweeps cX2_sweeps 2 (some .int) { frames := 0, cells := 0, slots := 0, locals := 0 } [.ref 0, .int s] (hSt th C) (some (.int (sRe s C.2.2.2.2.2.2.2.2.2.2.2.2.1 C.2.2.2.2.2.2.2.1 C.2.2.2.2.2.2.2.2.1))) (hSt th C) := by
  obtain ⟨mud, car, wal, hol, paid, rain, place, str, bro, pen, swe, dri, n, q⟩ := C
  obtain ⟨N, Q, hN, hQ, e1, e2, hP, hH, r1, r2, r3, r4, r5, r6⟩ := hV
  have e1 : n = nI N := e1
  have e2 : q = nI Q := e2
  subst e1; subst e2
  obtain ⟨i, hi, rfl⟩ := sw_ex hN hs
  exact kX2_sweeps th mud car wal hol paid rain place str bro pen swe dri N (nI Q) i hN hi
theorem kSend (th : Int32) {B : Nat} (C : CS) (hV : VC B C) (s c : Int32) (hs : ¬ sSw s C.2.2.2.2.2.2.2.2.2.2.2.2.1 = 0) : AMet yX2_send cX2_send 4 (some .int) { frames := 1, cells := 0, slots := 0, locals := 21 } [.ref 0, .int s, .int c] (hSt th C) (some (.int (C.2.2.2.2.2.2.1 s.toNatClampNeg))) (hSt th (cMove s c C)) := by
  obtain ⟨mud, car, wal, hol, paid, rain, place, str, bro, pen, swe, dri, n, q⟩ := C
  obtain ⟨N, Q, hN, hQ, e1, e2, hP, hH, r1, r2, r3, r4, r5, r6⟩ := hV
  have e1 : n = nI N := e1
  have e2 : q = nI Q := e2
  subst e1; subst e2
  obtain ⟨i, hi, rfl⟩ := sw_ex hN hs
  exact kX2_send th mud car wal hol paid rain place str bro pen swe dri N (nI Q) c i hN hi hP
theorem kHeld (th : Int32) {B : Nat} (C : CS) (hV : VC B C) : AMet yX2_held cX2_held 6 (some .int) { frames := 0, cells := 0, slots := 0, locals := 0 } [.ref 0] (hSt th C) (some (.int (sHeld C.2.2.2.2.2.2.2.2.2.2.2.2.1 C.2.2.2.1))) (hSt th C) := by
  obtain ⟨mud, car, wal, hol, paid, rain, place, str, bro, pen, swe, dri, n, q⟩ := C
  obtain ⟨N, Q, hN, hQ, e1, e2, hP, hH, r1, r2, r3, r4, r5, r6⟩ := hV
  have e1 : n = nI N := e1
  have e2 : q = nI Q := e2
  subst e1; subst e2
  exact kX2_held th mud car wal hol paid rain place str bro pen swe dri N (nI Q) hN hH
theorem kSum1 (th : Int32) {B : Nat} (C : CS) (hV : VC B C) : AMet yX2_sum cX2_sum 7 (some .int) { frames := 0, cells := 0, slots := 0, locals := 0 } [.ref 0, .ref 1] (hSt th C) (some (.int (sSum C.1 9))) (hSt th C) := by
  obtain ⟨mud, car, wal, hol, paid, rain, place, str, bro, pen, swe, dri, n, q⟩ := C
  obtain ⟨N, Q, hN, hQ, e1, e2, hP, hH, r1, r2, r3, r4, r5, r6⟩ := hV
  have e1 : n = nI N := e1
  have e2 : q = nI Q := e2
  subst e1; subst e2
  exact kX2_sum_1 th mud car wal hol paid rain place str bro pen swe dri N (nI Q)
theorem kSum6 (th : Int32) {B : Nat} (C : CS) (hV : VC B C) : AMet yX2_sum cX2_sum 7 (some .int) { frames := 0, cells := 0, slots := 0, locals := 0 } [.ref 0, .ref 6] (hSt th C) (some (.int (sSum C.2.2.2.2.2.2.2.2.2.1 8))) (hSt th C) := by
  obtain ⟨mud, car, wal, hol, paid, rain, place, str, bro, pen, swe, dri, n, q⟩ := C
  obtain ⟨N, Q, hN, hQ, e1, e2, hP, hH, r1, r2, r3, r4, r5, r6⟩ := hV
  have e1 : n = nI N := e1
  have e2 : q = nI Q := e2
  subst e1; subst e2
  exact kX2_sum_6 th mud car wal hol paid rain place str bro pen swe dri N (nI Q)
theorem kSum7 (th : Int32) {B : Nat} (C : CS) (hV : VC B C) : AMet yX2_sum cX2_sum 7 (some .int) { frames := 0, cells := 0, slots := 0, locals := 0 } [.ref 0, .ref 7] (hSt th C) (some (.int (sSum C.2.2.2.2.2.2.2.2.2.2.1 8))) (hSt th C) := by
  obtain ⟨mud, car, wal, hol, paid, rain, place, str, bro, pen, swe, dri, n, q⟩ := C
  obtain ⟨N, Q, hN, hQ, e1, e2, hP, hH, r1, r2, r3, r4, r5, r6⟩ := hV
  have e1 : n = nI N := e1
  have e2 : q = nI Q := e2
  subst e1; subst e2
  exact kX2_sum_7 th mud car wal hol paid rain place str bro pen swe dri N (nI Q)
theorem kSum8 (th : Int32) {B : Nat} (C : CS) (hV : VC B C) : AMet yX2_sum cX2_sum 7 (some .int) { frames := 0, cells := 0, slots := 0, locals := 0 } [.ref 0, .ref 8] (hSt th C) (some (.int (sSum C.2.2.2.2.2.2.2.2.2.2.2.1 8))) (hSt th C) := by
  obtain ⟨mud, car, wal, hol, paid, rain, place, str, bro, pen, swe, dri, n, q⟩ := C
  obtain ⟨N, Q, hN, hQ, e1, e2, hP, hH, r1, r2, r3, r4, r5, r6⟩ := hV
  have e1 : n = nI N := e1
  have e2 : q = nI Q := e2
  subst e1; subst e2
  exact kX2_sum_8 th mud car wal hol paid rain place str bro pen swe dri N (nI Q)
theorem kAllM (th : Int32) {B : Nat} (C : CS) (hV : VC B C) : AMet yX2_allMud cX2_allMud 1 (some .int) { frames := 1, cells := 0, slots := 0, locals := 26 } [.ref 0] (hSt th C) (some (.int (sSum C.1 9))) (hSt th C) := by
  obtain ⟨mud, car, wal, hol, paid, rain, place, str, bro, pen, swe, dri, n, q⟩ := C
  obtain ⟨N, Q, hN, hQ, e1, e2, hP, hH, r1, r2, r3, r4, r5, r6⟩ := hV
  have e1 : n = nI N := e1
  have e2 : q = nI Q := e2
  subst e1; subst e2
  exact kX2_allMud th mud car wal hol paid rain place str bro pen swe dri N (nI Q)
theorem kLv (th : Int32) {B : Nat} (C : CS) (hV : VC B C) (hB : B + 96 < 2 ^ 31) (t : Int32) (h1 : ¬ t < 1) (h2 : t ≤ 96) : AMet yX2_pass_ cX2_pass_ 4 (some .int) { frames := 4, cells := 0, slots := 0, locals := 91 } [.ref 0, .int t] (hSt th C) (some (.int (sLive t C).1)) (hSm th C (sLive t C).2) := by
  obtain ⟨T, hT, rfl⟩ := t_ex h1 h2
  exact (kX2_pass_ th B T C hV hT hB).to rfl (fx_S (fx_L _ C))
theorem kIsS (th : Int32) {B : Nat} (C : CS) (hV : VC B C) (s : Int32) : AMet yX3_isSweeper cX3_isSweeper 2 (some .boolean) { frames := 1, cells := 0, slots := 0, locals := 22 } [.ref 0, .int s] (hO th C.2.2.2.2.2.2.2.2.2.2.2.2.1) (some (.int (sSw s C.2.2.2.2.2.2.2.2.2.2.2.2.1))) (hO th C.2.2.2.2.2.2.2.2.2.2.2.2.1) := by
  obtain ⟨mud, car, wal, hol, paid, rain, place, str, bro, pen, swe, dri, n, q⟩ := C
  obtain ⟨N, Q, hN, hQ, e1, e2, hP, hH, r1, r2, r3, r4, r5, r6⟩ := hV
  have e1 : n = nI N := e1
  have e2 : q = nI Q := e2
  subst e1; subst e2
  exact kX3_isSweeper th N hN s
end
section
/-! ===== the reference's methods ===== -/
def hX (th : Int32) (C A : CS) (L : Nat → Int32) : aH := [aO 3 [.int th, .ref 1, .ref 2, .ref 3, .int C.2.2.2.2.2.2.2.2.2.2.2.2.1, .ref 4, .ref 5, .ref 6, .ref 15], aI 9 C.2.1, aI 9 C.2.2.1, aI 8 C.2.2.2.2.2.1, aI 8 C.2.2.2.2.2.2.2.1, aI 9 L, aO 2 [.int C.2.2.2.2.2.2.2.2.2.2.2.2.2, .ref 7, .ref 8, .ref 9, .ref 10, .ref 11, .ref 12, .ref 13, .ref 14, .ref 0], aI 9 C.1, aI 9 C.2.2.2.1, aI 9 C.2.2.2.2.1, aI 8 C.2.2.2.2.2.2.1, aI 8 C.2.2.2.2.2.2.2.2.1, aI 8 C.2.2.2.2.2.2.2.2.2.1, aI 8 C.2.2.2.2.2.2.2.2.2.2.1, aI 8 C.2.2.2.2.2.2.2.2.2.2.2.1, aO 2 [.int A.2.2.2.2.2.2.2.2.2.2.2.2.2, .ref 16, .ref 17, .ref 18, .ref 19, .ref 20, .ref 21, .ref 22, .ref 23, .ref 0], aI 9 A.1, aI 9 A.2.2.2.1, aI 9 A.2.2.2.2.1, aI 8 A.2.2.2.2.2.2.1, aI 8 A.2.2.2.2.2.2.2.2.1, aI 8 A.2.2.2.2.2.2.2.2.2.1, aI 8 A.2.2.2.2.2.2.2.2.2.2.1, aI 8 A.2.2.2.2.2.2.2.2.2.2.2.1]
theorem in3_ok {v a b : Int32} (h1 : ¬ v < a) (h2 : v ≤ b) : ¬ sIn3 v a b = 0 := by
  unfold sIn3
  rw [if_neg h1, if_neg (Int32.not_lt.mpr h2)]
  decide
theorem in3_lo {v a b : Int32} (h1 : v < a) : sIn3 v a b = 0 := by
  unfold sIn3
  rw [if_pos h1]
theorem in3_hi {v a b : Int32} (h2 : ¬ v ≤ b) : sIn3 v a b = 0 := by
  unfold sIn3
  rw [if_pos (Int32.not_le.mp h2)]
  split <;> rfl
theorem in3_ge {v a b : Int32} (h : ¬ sIn3 v a b = 0) : ¬ v < a := fun z => h (in3_lo z)
theorem in3_le {v a b : Int32} (h : ¬ sIn3 v a b = 0) : v ≤ b := Classical.not_not.mp fun z => h (in3_hi z)
set_option maxHeartbeats 2000000 in
theorem kX3_set {B : Nat} (th : Int32) (C A : CS) (L : Nat → Int32) (hV : VC B C) (c a b : Int32) (hc : ¬ sCr c = 0) (h1 : ¬ sIn3 a 0 9 = 0) (h2 : ¬ sIn3 b 0 30 = 0) : AMet yX3_set cX3_set 5 (some .int) { frames := 2, cells := 0, slots := 0, locals := 42 } [.ref 0, .int c, .int a, .int b] (hX th C A L) (some (.int (100 * C.2.1 c.toNatClampNeg + C.2.2.1 c.toNatClampNeg))) (hX 0 (C.1, upd C.2.1 c.toNatClampNeg a, upd C.2.2.1 c.toNatClampNeg b, C.2.2.2.1, C.2.2.2.2.1, C.2.2.2.2.2.1, C.2.2.2.2.2.2.1, C.2.2.2.2.2.2.2.1, C.2.2.2.2.2.2.2.2.1, C.2.2.2.2.2.2.2.2.2.1, C.2.2.2.2.2.2.2.2.2.2.1, C.2.2.2.2.2.2.2.2.2.2.2.1, C.2.2.2.2.2.2.2.2.2.2.2.2.1, C.2.2.2.2.2.2.2.2.2.2.2.2.2) A L) := by
  refine AMet.of (by decide) rfl ?_
  intro G hR hE hI
  refine AW.blk (amX3_set _) 0 4 (h' := hX 0 C A L) (pc' := 6) (lv' := [(0, .ref 0), (1, .int c), (2, .int a), (3, .int b)]) (st' := [.int c]) (L := []) rfl trivial ?_
  refine AW.callSp (amX3_set _) 4 (kX3_isCrossing c) [] [] ykX3_isCrossing ysX3_isCrossing mlX3_55 rfl rfl rfl rfl hR ⟨Nat.le_of_ble_eq_true rfl, Nat.le_of_ble_eq_true rfl, Nat.le_of_ble_eq_true rfl, Nat.le_of_ble_eq_true rfl⟩ rfl rfl rfl rfl rfl (fun _ => rfl) (h1 := hX 0 C A L) rfl (st' := [.int (sCr c)]) rfl ?_
  refine AW.br (amX3_set _) 5 (tgt := 18) (C := ¬ (sCr c) = 0) (C' := (sCr c) = 0) (st' := []) rfl rfl rfl (fun c1 => ?_) (fun c1 => absurd c1 hc)
  refine AW.blk (amX3_set _) 10 3 (h' := hX 0 C A L) (pc' := 22) (lv' := [(0, .ref 0), (1, .int c), (2, .int a), (3, .int b)]) (st' := [.int 9, .int 0, .int a]) (L := []) rfl trivial ?_
  refine AW.callSp (amX3_set _) 13 (kX3_isIn a 0 9) [] [] ykX3_isIn ysX3_isIn mlX3_44 rfl rfl rfl rfl hR ⟨Nat.le_of_ble_eq_true rfl, Nat.le_of_ble_eq_true rfl, Nat.le_of_ble_eq_true rfl, Nat.le_of_ble_eq_true rfl⟩ rfl rfl rfl rfl rfl (fun _ => rfl) (h1 := hX 0 C A L) rfl (st' := [.int (sIn3 a 0 9)]) rfl ?_
  refine AW.br (amX3_set _) 14 (tgt := 38) (C := (sIn3 a 0 9) = 0) (C' := ¬ (sIn3 a 0 9) = 0) (st' := []) rfl rfl rfl (fun c2 => absurd c2 h1) (fun c2 => ?_)
  refine AW.blk (amX3_set _) 15 3 (h' := hX 0 C A L) (pc' := 32) (lv' := [(0, .ref 0), (1, .int c), (2, .int a), (3, .int b)]) (st' := [.int 30, .int 0, .int b]) (L := []) rfl trivial ?_
  refine AW.callSp (amX3_set _) 18 (kX3_isIn b 0 30) [] [] ykX3_isIn ysX3_isIn mlX3_44 rfl rfl rfl rfl hR ⟨Nat.le_of_ble_eq_true rfl, Nat.le_of_ble_eq_true rfl, Nat.le_of_ble_eq_true rfl, Nat.le_of_ble_eq_true rfl⟩ rfl rfl rfl rfl rfl (fun _ => rfl) (h1 := hX 0 C A L) rfl (st' := [.int (sIn3 b 0 30)]) rfl ?_
  refine AW.br (amX3_set _) 19 (tgt := 44) (C := ¬ (sIn3 b 0 30) = 0) (C' := (sIn3 b 0 30) = 0) (st' := []) rfl rfl rfl (fun c3 => ?_) (fun c3 => absurd c3 h2)
  refine AW.blk (amX3_set _) 24 23 (h' := hX 0 (C.1, upd C.2.1 c.toNatClampNeg a, upd C.2.2.1 c.toNatClampNeg b, C.2.2.2.1, C.2.2.2.2.1, C.2.2.2.2.2.1, C.2.2.2.2.2.2.1, C.2.2.2.2.2.2.2.1, C.2.2.2.2.2.2.2.2.1, C.2.2.2.2.2.2.2.2.2.1, C.2.2.2.2.2.2.2.2.2.2.1, C.2.2.2.2.2.2.2.2.2.2.2.1, C.2.2.2.2.2.2.2.2.2.2.2.2.1, C.2.2.2.2.2.2.2.2.2.2.2.2.2) A L) (pc' := 78) (lv' := [(4, .int ((100 * (C.2.1 c.toNatClampNeg)) + (C.2.2.1 c.toNatClampNeg))), (0, .ref 0), (1, .int c), (2, .int a), (3, .int b)]) (st' := [.int ((100 * (C.2.1 c.toNatClampNeg)) + (C.2.2.1 c.toNatClampNeg))]) (L := [vp_in c 9, vp_in c 9, vp_in c 9, vp_in c 9]) rfl ⟨(sCr_in hc), (sCr_in hc), (sCr_in hc), (sCr_in hc)⟩ ?_
  exact AW.iretE (amX3_set _) 47 hE rfl rfl rfl rfl rfl rfl rfl
set_option maxHeartbeats 2000000 in
theorem kX3_set_b1 {B : Nat} (th : Int32) (C A : CS) (L : Nat → Int32) (hV : VC B C) (c a b : Int32) (hc : sCr c = 0) : AMet yX3_set cX3_set 5 (some .int) { frames := 2, cells := 0, slots := 0, locals := 42 } [.ref 0, .int c, .int a, .int b] (hX th C A L) (some (.int 0)) (hX 1 C A L) := by
  refine AMet.of (by decide) rfl ?_
  intro G hR hE hI
  refine AW.blk (amX3_set _) 0 4 (h' := hX 0 C A L) (pc' := 6) (lv' := [(0, .ref 0), (1, .int c), (2, .int a), (3, .int b)]) (st' := [.int c]) (L := []) rfl trivial ?_
  refine AW.callSp (amX3_set _) 4 (kX3_isCrossing c) [] [] ykX3_isCrossing ysX3_isCrossing mlX3_55 rfl rfl rfl rfl hR ⟨Nat.le_of_ble_eq_true rfl, Nat.le_of_ble_eq_true rfl, Nat.le_of_ble_eq_true rfl, Nat.le_of_ble_eq_true rfl⟩ rfl rfl rfl rfl rfl (fun _ => rfl) (h1 := hX 0 C A L) rfl (st' := [.int (sCr c)]) rfl ?_
  refine AW.br (amX3_set _) 5 (tgt := 18) (C := ¬ (sCr c) = 0) (C' := (sCr c) = 0) (st' := []) rfl rfl rfl (fun c1 => absurd hc c1) (fun c1 => ?_)
  refine AW.blk (amX3_set _) 6 2 (h' := hX 0 C A L) (pc' := 14) (lv' := [(0, .ref 0), (1, .int c), (2, .int a), (3, .int b)]) (st' := [.int 1, .ref 0]) (L := []) rfl trivial ?_
  refine AW.callVp (amX3_set _) 8 (kX3_no 0 C.2.2.2.2.2.2.2.2.2.2.2.2.1 1) rfl rfl [0] [0, 1, 2, 3, 4, 5, 6, 7, 8, 9, 10, 11, 12, 13, 14, 15] ykX3_no yiX3_no yvX3_no mlX3_59 rfl rfl rfl rfl hR ⟨Nat.le_of_ble_eq_true rfl, Nat.le_of_ble_eq_true rfl, Nat.le_of_ble_eq_true rfl, Nat.le_of_ble_eq_true rfl⟩ rfl rfl rfl rfl rfl (fun _ => rfl) (h1 := hX 1 C A L) rfl (st' := [.int 0]) rfl ?_
  exact AW.iretE (amX3_set _) 9 hE rfl rfl rfl rfl rfl rfl rfl
set_option maxHeartbeats 2000000 in
theorem kX3_set_b2 {B : Nat} (th : Int32) (C A : CS) (L : Nat → Int32) (hV : VC B C) (c a b : Int32) (hc : ¬ sCr c = 0) (h1 : sIn3 a 0 9 = 0) : AMet yX3_set cX3_set 5 (some .int) { frames := 2, cells := 0, slots := 0, locals := 42 } [.ref 0, .int c, .int a, .int b] (hX th C A L) (some (.int 0)) (hX 2 C A L) := by
  refine AMet.of (by decide) rfl ?_
  intro G hR hE hI
  refine AW.blk (amX3_set _) 0 4 (h' := hX 0 C A L) (pc' := 6) (lv' := [(0, .ref 0), (1, .int c), (2, .int a), (3, .int b)]) (st' := [.int c]) (L := []) rfl trivial ?_
  refine AW.callSp (amX3_set _) 4 (kX3_isCrossing c) [] [] ykX3_isCrossing ysX3_isCrossing mlX3_55 rfl rfl rfl rfl hR ⟨Nat.le_of_ble_eq_true rfl, Nat.le_of_ble_eq_true rfl, Nat.le_of_ble_eq_true rfl, Nat.le_of_ble_eq_true rfl⟩ rfl rfl rfl rfl rfl (fun _ => rfl) (h1 := hX 0 C A L) rfl (st' := [.int (sCr c)]) rfl ?_
  refine AW.br (amX3_set _) 5 (tgt := 18) (C := ¬ (sCr c) = 0) (C' := (sCr c) = 0) (st' := []) rfl rfl rfl (fun c1 => ?_) (fun c1 => absurd c1 hc)
  refine AW.blk (amX3_set _) 10 3 (h' := hX 0 C A L) (pc' := 22) (lv' := [(0, .ref 0), (1, .int c), (2, .int a), (3, .int b)]) (st' := [.int 9, .int 0, .int a]) (L := []) rfl trivial ?_
  refine AW.callSp (amX3_set _) 13 (kX3_isIn a 0 9) [] [] ykX3_isIn ysX3_isIn mlX3_44 rfl rfl rfl rfl hR ⟨Nat.le_of_ble_eq_true rfl, Nat.le_of_ble_eq_true rfl, Nat.le_of_ble_eq_true rfl, Nat.le_of_ble_eq_true rfl⟩ rfl rfl rfl rfl rfl (fun _ => rfl) (h1 := hX 0 C A L) rfl (st' := [.int (sIn3 a 0 9)]) rfl ?_
  refine AW.br (amX3_set _) 14 (tgt := 38) (C := (sIn3 a 0 9) = 0) (C' := ¬ (sIn3 a 0 9) = 0) (st' := []) rfl rfl rfl (fun c2 => ?_) (fun c2 => absurd h1 c2)
  refine AW.blk (amX3_set _) 20 2 (h' := hX 0 C A L) (pc' := 40) (lv' := [(0, .ref 0), (1, .int c), (2, .int a), (3, .int b)]) (st' := [.int 2, .ref 0]) (L := []) rfl trivial ?_
  refine AW.callVp (amX3_set _) 22 (kX3_no 0 C.2.2.2.2.2.2.2.2.2.2.2.2.1 2) rfl rfl [0] [0, 1, 2, 3, 4, 5, 6, 7, 8, 9, 10, 11, 12, 13, 14, 15] ykX3_no yiX3_no yvX3_no mlX3_59 rfl rfl rfl rfl hR ⟨Nat.le_of_ble_eq_true rfl, Nat.le_of_ble_eq_true rfl, Nat.le_of_ble_eq_true rfl, Nat.le_of_ble_eq_true rfl⟩ rfl rfl rfl rfl rfl (fun _ => rfl) (h1 := hX 2 C A L) rfl (st' := [.int 0]) rfl ?_
  exact AW.iretE (amX3_set _) 23 hE rfl rfl rfl rfl rfl rfl rfl
set_option maxHeartbeats 2000000 in
theorem kX3_set_b3 {B : Nat} (th : Int32) (C A : CS) (L : Nat → Int32) (hV : VC B C) (c a b : Int32) (hc : ¬ sCr c = 0) (h1 : ¬ sIn3 a 0 9 = 0) (h2 : sIn3 b 0 30 = 0) : AMet yX3_set cX3_set 5 (some .int) { frames := 2, cells := 0, slots := 0, locals := 42 } [.ref 0, .int c, .int a, .int b] (hX th C A L) (some (.int 0)) (hX 2 C A L) := by
  refine AMet.of (by decide) rfl ?_
  intro G hR hE hI
  refine AW.blk (amX3_set _) 0 4 (h' := hX 0 C A L) (pc' := 6) (lv' := [(0, .ref 0), (1, .int c), (2, .int a), (3, .int b)]) (st' := [.int c]) (L := []) rfl trivial ?_
  refine AW.callSp (amX3_set _) 4 (kX3_isCrossing c) [] [] ykX3_isCrossing ysX3_isCrossing mlX3_55 rfl rfl rfl rfl hR ⟨Nat.le_of_ble_eq_true rfl, Nat.le_of_ble_eq_true rfl, Nat.le_of_ble_eq_true rfl, Nat.le_of_ble_eq_true rfl⟩ rfl rfl rfl rfl rfl (fun _ => rfl) (h1 := hX 0 C A L) rfl (st' := [.int (sCr c)]) rfl ?_
  refine AW.br (amX3_set _) 5 (tgt := 18) (C := ¬ (sCr c) = 0) (C' := (sCr c) = 0) (st' := []) rfl rfl rfl (fun c1 => ?_) (fun c1 => absurd c1 hc)
  refine AW.blk (amX3_set _) 10 3 (h' := hX 0 C A L) (pc' := 22) (lv' := [(0, .ref 0), (1, .int c), (2, .int a), (3, .int b)]) (st' := [.int 9, .int 0, .int a]) (L := []) rfl trivial ?_
  refine AW.callSp (amX3_set _) 13 (kX3_isIn a 0 9) [] [] ykX3_isIn ysX3_isIn mlX3_44 rfl rfl rfl rfl hR ⟨Nat.le_of_ble_eq_true rfl, Nat.le_of_ble_eq_true rfl, Nat.le_of_ble_eq_true rfl, Nat.le_of_ble_eq_true rfl⟩ rfl rfl rfl rfl rfl (fun _ => rfl) (h1 := hX 0 C A L) rfl (st' := [.int (sIn3 a 0 9)]) rfl ?_
  refine AW.br (amX3_set _) 14 (tgt := 38) (C := (sIn3 a 0 9) = 0) (C' := ¬ (sIn3 a 0 9) = 0) (st' := []) rfl rfl rfl (fun c2 => absurd c2 h1) (fun c2 => ?_)
  refine AW.blk (amX3_set _) 15 3 (h' := hX 0 C A L) (pc' := 32) (lv' := [(0, .ref 0), (1, .int c), (2, .int a), (3, .int b)]) (st' := [.int 30, .int 0, .int b]) (L := []) rfl trivial ?_
  refine AW.callSp (amX3_set _) 18 (kX3_isIn b 0 30) [] [] ykX3_isIn ysX3_isIn mlX3_44 rfl rfl rfl rfl hR ⟨Nat.le_of_ble_eq_true rfl, Nat.le_of_ble_eq_true rfl, Nat.le_of_ble_eq_true rfl, Nat.le_of_ble_eq_true rfl⟩ rfl rfl rfl rfl rfl (fun _ => rfl) (h1 := hX 0 C A L) rfl (st' := [.int (sIn3 b 0 30)]) rfl ?_
  refine AW.br (amX3_set _) 19 (tgt := 44) (C := ¬ (sIn3 b 0 30) = 0) (C' := (sIn3 b 0 30) = 0) (st' := []) rfl rfl rfl (fun c3 => absurd h2 c3) (fun c3 => ?_)
  refine AW.blk (amX3_set _) 20 2 (h' := hX 0 C A L) (pc' := 40) (lv' := [(0, .ref 0), (1, .int c), (2, .int a), (3, .int b)]) (st' := [.int 2, .ref 0]) (L := []) rfl trivial ?_
  refine AW.callVp (amX3_set _) 22 (kX3_no 0 C.2.2.2.2.2.2.2.2.2.2.2.2.1 2) rfl rfl [0] [0, 1, 2, 3, 4, 5, 6, 7, 8, 9, 10, 11, 12, 13, 14, 15] ykX3_no yiX3_no yvX3_no mlX3_59 rfl rfl rfl rfl hR ⟨Nat.le_of_ble_eq_true rfl, Nat.le_of_ble_eq_true rfl, Nat.le_of_ble_eq_true rfl, Nat.le_of_ble_eq_true rfl⟩ rfl rfl rfl rfl rfl (fun _ => rfl) (h1 := hX 2 C A L) rfl (st' := [.int 0]) rfl ?_
  exact AW.iretE (amX3_set _) 23 hE rfl rfl rfl rfl rfl rfl rfl
set_option maxHeartbeats 2000000 in
theorem kX3_setRain {B : Nat} (th : Int32) (C A : CS) (L : Nat → Int32) (hV : VC B C) (k v : Int32) (h1 : ¬ sIn3 k 0 7 = 0) (h2 : ¬ sIn3 v 0 9 = 0) : AMet yX3_setRain cX3_setRain 4 (some .int) { frames := 1, cells := 0, slots := 0, locals := 22 } [.ref 0, .int k, .int v] (hX th C A L) (some (.int (C.2.2.2.2.2.1 k.toNatClampNeg))) (hX 0 (C.1, C.2.1, C.2.2.1, C.2.2.2.1, C.2.2.2.2.1, upd C.2.2.2.2.2.1 k.toNatClampNeg v, C.2.2.2.2.2.2.1, C.2.2.2.2.2.2.2.1, C.2.2.2.2.2.2.2.2.1, C.2.2.2.2.2.2.2.2.2.1, C.2.2.2.2.2.2.2.2.2.2.1, C.2.2.2.2.2.2.2.2.2.2.2.1, C.2.2.2.2.2.2.2.2.2.2.2.2.1, C.2.2.2.2.2.2.2.2.2.2.2.2.2) A L) := by
  refine AMet.of (by decide) rfl ?_
  intro G hR hE hI
  have hk8 : vp_in k 8 := by
    refine vp_in_of_lt (M := 8) (by decide) (in3_ge h1) ?_
    have h := in3_le h1
    rw [Int32.le_iff_toInt_le] at h ⊢
    have e1 : (7 : Int32).toInt = 7 := by decide
    have e2 : (8 : Int32).toInt = 8 := by decide
    omega
  refine AW.blk (amX3_setRain _) 0 6 (h' := hX 0 C A L) (pc' := 9) (lv' := [(0, .ref 0), (1, .int k), (2, .int v)]) (st' := [.int 7, .int 0, .int k]) (L := []) rfl trivial ?_
  refine AW.callSp (amX3_setRain _) 6 (kX3_isIn k 0 7) [] [] ykX3_isIn ysX3_isIn mlX3_44 rfl rfl rfl rfl hR ⟨Nat.le_of_ble_eq_true rfl, Nat.le_of_ble_eq_true rfl, Nat.le_of_ble_eq_true rfl, Nat.le_of_ble_eq_true rfl⟩ rfl rfl rfl rfl rfl (fun _ => rfl) (h1 := hX 0 C A L) rfl (st' := [.int (sIn3 k 0 7)]) rfl ?_
  refine AW.br (amX3_setRain _) 7 (tgt := 21) (C := ¬ (sIn3 k 0 7) = 0) (C' := (sIn3 k 0 7) = 0) (st' := []) rfl rfl rfl (fun c1 => ?_) (fun c1 => absurd c1 h1)
  refine AW.blk (amX3_setRain _) 12 3 (h' := hX 0 C A L) (pc' := 25) (lv' := [(0, .ref 0), (1, .int k), (2, .int v)]) (st' := [.int 9, .int 0, .int v]) (L := []) rfl trivial ?_
  refine AW.callSp (amX3_setRain _) 15 (kX3_isIn v 0 9) [] [] ykX3_isIn ysX3_isIn mlX3_44 rfl rfl rfl rfl hR ⟨Nat.le_of_ble_eq_true rfl, Nat.le_of_ble_eq_true rfl, Nat.le_of_ble_eq_true rfl, Nat.le_of_ble_eq_true rfl⟩ rfl rfl rfl rfl rfl (fun _ => rfl) (h1 := hX 0 C A L) rfl (st' := [.int (sIn3 v 0 9)]) rfl ?_
  refine AW.br (amX3_setRain _) 16 (tgt := 37) (C := ¬ (sIn3 v 0 9) = 0) (C' := (sIn3 v 0 9) = 0) (st' := []) rfl rfl rfl (fun c2 => ?_) (fun c2 => absurd c2 h2)
  refine AW.blk (amX3_setRain _) 21 11 (h' := hX 0 (C.1, C.2.1, C.2.2.1, C.2.2.2.1, C.2.2.2.2.1, upd C.2.2.2.2.2.1 k.toNatClampNeg v, C.2.2.2.2.2.2.1, C.2.2.2.2.2.2.2.1, C.2.2.2.2.2.2.2.2.1, C.2.2.2.2.2.2.2.2.2.1, C.2.2.2.2.2.2.2.2.2.2.1, C.2.2.2.2.2.2.2.2.2.2.2.1, C.2.2.2.2.2.2.2.2.2.2.2.2.1, C.2.2.2.2.2.2.2.2.2.2.2.2.2) A L) (pc' := 52) (lv' := [(3, .int (C.2.2.2.2.2.1 k.toNatClampNeg)), (0, .ref 0), (1, .int k), (2, .int v)]) (st' := [.int (C.2.2.2.2.2.1 k.toNatClampNeg)]) (L := [vp_in k 8, vp_in k 8]) rfl ⟨hk8, hk8⟩ ?_
  exact AW.iretE (amX3_setRain _) 32 hE rfl rfl rfl rfl rfl rfl rfl
set_option maxHeartbeats 2000000 in
theorem kX3_setRain_b1 {B : Nat} (th : Int32) (C A : CS) (L : Nat → Int32) (hV : VC B C) (k v : Int32) (h1 : sIn3 k 0 7 = 0) : AMet yX3_setRain cX3_setRain 4 (some .int) { frames := 1, cells := 0, slots := 0, locals := 22 } [.ref 0, .int k, .int v] (hX th C A L) (some (.int 0)) (hX 1 C A L) := by
  refine AMet.of (by decide) rfl ?_
  intro G hR hE hI
  refine AW.blk (amX3_setRain _) 0 6 (h' := hX 0 C A L) (pc' := 9) (lv' := [(0, .ref 0), (1, .int k), (2, .int v)]) (st' := [.int 7, .int 0, .int k]) (L := []) rfl trivial ?_
  refine AW.callSp (amX3_setRain _) 6 (kX3_isIn k 0 7) [] [] ykX3_isIn ysX3_isIn mlX3_44 rfl rfl rfl rfl hR ⟨Nat.le_of_ble_eq_true rfl, Nat.le_of_ble_eq_true rfl, Nat.le_of_ble_eq_true rfl, Nat.le_of_ble_eq_true rfl⟩ rfl rfl rfl rfl rfl (fun _ => rfl) (h1 := hX 0 C A L) rfl (st' := [.int (sIn3 k 0 7)]) rfl ?_
  refine AW.br (amX3_setRain _) 7 (tgt := 21) (C := ¬ (sIn3 k 0 7) = 0) (C' := (sIn3 k 0 7) = 0) (st' := []) rfl rfl rfl (fun c1 => absurd h1 c1) (fun c1 => ?_)
  refine AW.blk (amX3_setRain _) 8 2 (h' := hX 0 C A L) (pc' := 17) (lv' := [(0, .ref 0), (1, .int k), (2, .int v)]) (st' := [.int 1, .ref 0]) (L := []) rfl trivial ?_
  refine AW.callVp (amX3_setRain _) 10 (kX3_no 0 C.2.2.2.2.2.2.2.2.2.2.2.2.1 1) rfl rfl [0] [0, 1, 2, 3, 4, 5, 6, 7, 8, 9, 10, 11, 12, 13, 14, 15] ykX3_no yiX3_no yvX3_no mlX3_59 rfl rfl rfl rfl hR ⟨Nat.le_of_ble_eq_true rfl, Nat.le_of_ble_eq_true rfl, Nat.le_of_ble_eq_true rfl, Nat.le_of_ble_eq_true rfl⟩ rfl rfl rfl rfl rfl (fun _ => rfl) (h1 := hX 1 C A L) rfl (st' := [.int 0]) rfl ?_
  exact AW.iretE (amX3_setRain _) 11 hE rfl rfl rfl rfl rfl rfl rfl
set_option maxHeartbeats 2000000 in
theorem kX3_setRain_b2 {B : Nat} (th : Int32) (C A : CS) (L : Nat → Int32) (hV : VC B C) (k v : Int32) (h1 : ¬ sIn3 k 0 7 = 0) (h2 : sIn3 v 0 9 = 0) : AMet yX3_setRain cX3_setRain 4 (some .int) { frames := 1, cells := 0, slots := 0, locals := 22 } [.ref 0, .int k, .int v] (hX th C A L) (some (.int 0)) (hX 2 C A L) := by
  refine AMet.of (by decide) rfl ?_
  intro G hR hE hI
  refine AW.blk (amX3_setRain _) 0 6 (h' := hX 0 C A L) (pc' := 9) (lv' := [(0, .ref 0), (1, .int k), (2, .int v)]) (st' := [.int 7, .int 0, .int k]) (L := []) rfl trivial ?_
  refine AW.callSp (amX3_setRain _) 6 (kX3_isIn k 0 7) [] [] ykX3_isIn ysX3_isIn mlX3_44 rfl rfl rfl rfl hR ⟨Nat.le_of_ble_eq_true rfl, Nat.le_of_ble_eq_true rfl, Nat.le_of_ble_eq_true rfl, Nat.le_of_ble_eq_true rfl⟩ rfl rfl rfl rfl rfl (fun _ => rfl) (h1 := hX 0 C A L) rfl (st' := [.int (sIn3 k 0 7)]) rfl ?_
  refine AW.br (amX3_setRain _) 7 (tgt := 21) (C := ¬ (sIn3 k 0 7) = 0) (C' := (sIn3 k 0 7) = 0) (st' := []) rfl rfl rfl (fun c1 => ?_) (fun c1 => absurd c1 h1)
  refine AW.blk (amX3_setRain _) 12 3 (h' := hX 0 C A L) (pc' := 25) (lv' := [(0, .ref 0), (1, .int k), (2, .int v)]) (st' := [.int 9, .int 0, .int v]) (L := []) rfl trivial ?_
  refine AW.callSp (amX3_setRain _) 15 (kX3_isIn v 0 9) [] [] ykX3_isIn ysX3_isIn mlX3_44 rfl rfl rfl rfl hR ⟨Nat.le_of_ble_eq_true rfl, Nat.le_of_ble_eq_true rfl, Nat.le_of_ble_eq_true rfl, Nat.le_of_ble_eq_true rfl⟩ rfl rfl rfl rfl rfl (fun _ => rfl) (h1 := hX 0 C A L) rfl (st' := [.int (sIn3 v 0 9)]) rfl ?_
  refine AW.br (amX3_setRain _) 16 (tgt := 37) (C := ¬ (sIn3 v 0 9) = 0) (C' := (sIn3 v 0 9) = 0) (st' := []) rfl rfl rfl (fun c2 => absurd h2 c2) (fun c2 => ?_)
  refine AW.blk (amX3_setRain _) 17 2 (h' := hX 0 C A L) (pc' := 33) (lv' := [(0, .ref 0), (1, .int k), (2, .int v)]) (st' := [.int 2, .ref 0]) (L := []) rfl trivial ?_
  refine AW.callVp (amX3_setRain _) 19 (kX3_no 0 C.2.2.2.2.2.2.2.2.2.2.2.2.1 2) rfl rfl [0] [0, 1, 2, 3, 4, 5, 6, 7, 8, 9, 10, 11, 12, 13, 14, 15] ykX3_no yiX3_no yvX3_no mlX3_59 rfl rfl rfl rfl hR ⟨Nat.le_of_ble_eq_true rfl, Nat.le_of_ble_eq_true rfl, Nat.le_of_ble_eq_true rfl, Nat.le_of_ble_eq_true rfl⟩ rfl rfl rfl rfl rfl (fun _ => rfl) (h1 := hX 2 C A L) rfl (st' := [.int 0]) rfl ?_
  exact AW.iretE (amX3_setRain _) 20 hE rfl rfl rfl rfl rfl rfl rfl
set_option maxHeartbeats 2000000 in
theorem kX3_spill {B : Nat} (th : Int32) (C A : CS) (L : Nat → Int32) (hV : VC B C) (c m : Int32) (hc : ¬ sCr c = 0) (h2 : ¬ sIn3 m 1 50 = 0) : AMet yX3_spill cX3_spill 3 (some .int) { frames := 2, cells := 0, slots := 0, locals := 42 } [.ref 0, .int c, .int m] (hX th C A L) (some (.int (sAM c m C.1 c.toNatClampNeg))) (hX 0 (sAM c m C.1, C.2.1, C.2.2.1, C.2.2.2.1, C.2.2.2.2.1, C.2.2.2.2.2.1, C.2.2.2.2.2.2.1, C.2.2.2.2.2.2.2.1, C.2.2.2.2.2.2.2.2.1, C.2.2.2.2.2.2.2.2.2.1, C.2.2.2.2.2.2.2.2.2.2.1, C.2.2.2.2.2.2.2.2.2.2.2.1, C.2.2.2.2.2.2.2.2.2.2.2.2.1, C.2.2.2.2.2.2.2.2.2.2.2.2.2) A L) := by
  refine AMet.of (by decide) rfl ?_
  intro G hR hE hI
  have e9 : sAM c m C.1 = upd C.1 c.toNatClampNeg (imin 50 (C.1 c.toNatClampNeg + m)) := by rw [sAM, if_neg hc]
  rw [e9] at hE
  refine AW.blk (amX3_spill _) 0 4 (h' := hX 0 C A L) (pc' := 6) (lv' := [(0, .ref 0), (1, .int c), (2, .int m)]) (st' := [.int c]) (L := []) rfl trivial ?_
  refine AW.callSp (amX3_spill _) 4 (kX3_isCrossing c) [] [] ykX3_isCrossing ysX3_isCrossing mlX3_55 rfl rfl rfl rfl hR ⟨Nat.le_of_ble_eq_true rfl, Nat.le_of_ble_eq_true rfl, Nat.le_of_ble_eq_true rfl, Nat.le_of_ble_eq_true rfl⟩ rfl rfl rfl rfl rfl (fun _ => rfl) (h1 := hX 0 C A L) rfl (st' := [.int (sCr c)]) rfl ?_
  refine AW.br (amX3_spill _) 5 (tgt := 18) (C := ¬ (sCr c) = 0) (C' := (sCr c) = 0) (st' := []) rfl rfl rfl (fun c1 => ?_) (fun c1 => absurd c1 hc)
  refine AW.blk (amX3_spill _) 10 3 (h' := hX 0 C A L) (pc' := 22) (lv' := [(0, .ref 0), (1, .int c), (2, .int m)]) (st' := [.int 50, .int 1, .int m]) (L := []) rfl trivial ?_
  refine AW.callSp (amX3_spill _) 13 (kX3_isIn m 1 50) [] [] ykX3_isIn ysX3_isIn mlX3_44 rfl rfl rfl rfl hR ⟨Nat.le_of_ble_eq_true rfl, Nat.le_of_ble_eq_true rfl, Nat.le_of_ble_eq_true rfl, Nat.le_of_ble_eq_true rfl⟩ rfl rfl rfl rfl rfl (fun _ => rfl) (h1 := hX 0 C A L) rfl (st' := [.int (sIn3 m 1 50)]) rfl ?_
  refine AW.br (amX3_spill _) 14 (tgt := 34) (C := ¬ (sIn3 m 1 50) = 0) (C' := (sIn3 m 1 50) = 0) (st' := []) rfl rfl rfl (fun c2 => ?_) (fun c2 => absurd c2 h2)
  refine AW.blk (amX3_spill _) 19 12 (h' := hX 0 C A L) (pc' := 55) (lv' := [(0, .ref 0), (1, .int c), (2, .int m)]) (st' := [.int ((C.1 c.toNatClampNeg) + m), .int 50, .int c, .ref 7]) (L := [vp_in c 9]) rfl (sCr_in hc) ?_
  refine AW.mmin (amX3_spill _) 31 rfl kmmX3_66 hR rfl ⟨Nat.le_of_ble_eq_true rfl, Nat.le_of_ble_eq_true rfl, Nat.le_of_ble_eq_true rfl, Nat.le_of_ble_eq_true rfl⟩ ?_
  refine AW.blk (amX3_spill _) 32 6 (h' := hX 0 (upd C.1 c.toNatClampNeg (imin 50 ((C.1 c.toNatClampNeg) + m)), C.2.1, C.2.2.1, C.2.2.2.1, C.2.2.2.2.1, C.2.2.2.2.2.1, C.2.2.2.2.2.2.1, C.2.2.2.2.2.2.2.1, C.2.2.2.2.2.2.2.2.1, C.2.2.2.2.2.2.2.2.2.1, C.2.2.2.2.2.2.2.2.2.2.1, C.2.2.2.2.2.2.2.2.2.2.2.1, C.2.2.2.2.2.2.2.2.2.2.2.2.1, C.2.2.2.2.2.2.2.2.2.2.2.2.2) A L) (pc' := 68) (lv' := [(0, .ref 0), (1, .int c), (2, .int m)]) (st' := [.int ((upd C.1 c.toNatClampNeg (imin 50 ((C.1 c.toNatClampNeg) + m))) c.toNatClampNeg)]) (L := [vp_in c 9, vp_in c 9]) rfl ⟨(sCr_in hc), (sCr_in hc)⟩ ?_
  exact AW.iretE (amX3_spill _) 38 hE rfl rfl rfl rfl rfl rfl rfl
set_option maxHeartbeats 2000000 in
theorem kX3_spill_b1 {B : Nat} (th : Int32) (C A : CS) (L : Nat → Int32) (hV : VC B C) (c m : Int32) (hc : sCr c = 0) : AMet yX3_spill cX3_spill 3 (some .int) { frames := 2, cells := 0, slots := 0, locals := 42 } [.ref 0, .int c, .int m] (hX th C A L) (some (.int 0)) (hX 1 C A L) := by
  refine AMet.of (by decide) rfl ?_
  intro G hR hE hI
  refine AW.blk (amX3_spill _) 0 4 (h' := hX 0 C A L) (pc' := 6) (lv' := [(0, .ref 0), (1, .int c), (2, .int m)]) (st' := [.int c]) (L := []) rfl trivial ?_
  refine AW.callSp (amX3_spill _) 4 (kX3_isCrossing c) [] [] ykX3_isCrossing ysX3_isCrossing mlX3_55 rfl rfl rfl rfl hR ⟨Nat.le_of_ble_eq_true rfl, Nat.le_of_ble_eq_true rfl, Nat.le_of_ble_eq_true rfl, Nat.le_of_ble_eq_true rfl⟩ rfl rfl rfl rfl rfl (fun _ => rfl) (h1 := hX 0 C A L) rfl (st' := [.int (sCr c)]) rfl ?_
  refine AW.br (amX3_spill _) 5 (tgt := 18) (C := ¬ (sCr c) = 0) (C' := (sCr c) = 0) (st' := []) rfl rfl rfl (fun c1 => absurd hc c1) (fun c1 => ?_)
  refine AW.blk (amX3_spill _) 6 2 (h' := hX 0 C A L) (pc' := 14) (lv' := [(0, .ref 0), (1, .int c), (2, .int m)]) (st' := [.int 1, .ref 0]) (L := []) rfl trivial ?_
  refine AW.callVp (amX3_spill _) 8 (kX3_no 0 C.2.2.2.2.2.2.2.2.2.2.2.2.1 1) rfl rfl [0] [0, 1, 2, 3, 4, 5, 6, 7, 8, 9, 10, 11, 12, 13, 14, 15] ykX3_no yiX3_no yvX3_no mlX3_59 rfl rfl rfl rfl hR ⟨Nat.le_of_ble_eq_true rfl, Nat.le_of_ble_eq_true rfl, Nat.le_of_ble_eq_true rfl, Nat.le_of_ble_eq_true rfl⟩ rfl rfl rfl rfl rfl (fun _ => rfl) (h1 := hX 1 C A L) rfl (st' := [.int 0]) rfl ?_
  exact AW.iretE (amX3_spill _) 9 hE rfl rfl rfl rfl rfl rfl rfl
set_option maxHeartbeats 2000000 in
theorem kX3_spill_b2 {B : Nat} (th : Int32) (C A : CS) (L : Nat → Int32) (hV : VC B C) (c m : Int32) (hc : ¬ sCr c = 0) (h2 : sIn3 m 1 50 = 0) : AMet yX3_spill cX3_spill 3 (some .int) { frames := 2, cells := 0, slots := 0, locals := 42 } [.ref 0, .int c, .int m] (hX th C A L) (some (.int 0)) (hX 2 C A L) := by
  refine AMet.of (by decide) rfl ?_
  intro G hR hE hI
  refine AW.blk (amX3_spill _) 0 4 (h' := hX 0 C A L) (pc' := 6) (lv' := [(0, .ref 0), (1, .int c), (2, .int m)]) (st' := [.int c]) (L := []) rfl trivial ?_
  refine AW.callSp (amX3_spill _) 4 (kX3_isCrossing c) [] [] ykX3_isCrossing ysX3_isCrossing mlX3_55 rfl rfl rfl rfl hR ⟨Nat.le_of_ble_eq_true rfl, Nat.le_of_ble_eq_true rfl, Nat.le_of_ble_eq_true rfl, Nat.le_of_ble_eq_true rfl⟩ rfl rfl rfl rfl rfl (fun _ => rfl) (h1 := hX 0 C A L) rfl (st' := [.int (sCr c)]) rfl ?_
  refine AW.br (amX3_spill _) 5 (tgt := 18) (C := ¬ (sCr c) = 0) (C' := (sCr c) = 0) (st' := []) rfl rfl rfl (fun c1 => ?_) (fun c1 => absurd c1 hc)
  refine AW.blk (amX3_spill _) 10 3 (h' := hX 0 C A L) (pc' := 22) (lv' := [(0, .ref 0), (1, .int c), (2, .int m)]) (st' := [.int 50, .int 1, .int m]) (L := []) rfl trivial ?_
  refine AW.callSp (amX3_spill _) 13 (kX3_isIn m 1 50) [] [] ykX3_isIn ysX3_isIn mlX3_44 rfl rfl rfl rfl hR ⟨Nat.le_of_ble_eq_true rfl, Nat.le_of_ble_eq_true rfl, Nat.le_of_ble_eq_true rfl, Nat.le_of_ble_eq_true rfl⟩ rfl rfl rfl rfl rfl (fun _ => rfl) (h1 := hX 0 C A L) rfl (st' := [.int (sIn3 m 1 50)]) rfl ?_
  refine AW.br (amX3_spill _) 14 (tgt := 34) (C := ¬ (sIn3 m 1 50) = 0) (C' := (sIn3 m 1 50) = 0) (st' := []) rfl rfl rfl (fun c2 => absurd h2 c2) (fun c2 => ?_)
  refine AW.blk (amX3_spill _) 15 2 (h' := hX 0 C A L) (pc' := 30) (lv' := [(0, .ref 0), (1, .int c), (2, .int m)]) (st' := [.int 2, .ref 0]) (L := []) rfl trivial ?_
  refine AW.callVp (amX3_spill _) 17 (kX3_no 0 C.2.2.2.2.2.2.2.2.2.2.2.2.1 2) rfl rfl [0] [0, 1, 2, 3, 4, 5, 6, 7, 8, 9, 10, 11, 12, 13, 14, 15] ykX3_no yiX3_no yvX3_no mlX3_59 rfl rfl rfl rfl hR ⟨Nat.le_of_ble_eq_true rfl, Nat.le_of_ble_eq_true rfl, Nat.le_of_ble_eq_true rfl, Nat.le_of_ble_eq_true rfl⟩ rfl rfl rfl rfl rfl (fun _ => rfl) (h1 := hX 2 C A L) rfl (st' := [.int 0]) rfl ?_
  exact AW.iretE (amX3_spill _) 18 hE rfl rfl rfl rfl rfl rfl rfl
set_option maxHeartbeats 2000000 in
theorem kX3_come {B : Nat} (th : Int32) (C A : CS) (L : Nat → Int32) (hV : VC B C) (c s : Int32) (hc : ¬ sCr c = 0) (h2 : ¬ sIn3 s 1 9 = 0) (h3 : vp_in C.2.2.2.2.2.2.2.2.2.2.2.2.1 8) : AMet yX3_come cX3_come 3 (some .int) { frames := 2, cells := 0, slots := 0, locals := 42 } [.ref 0, .int c, .int s] (hX th C A L) (some (.int C.2.2.2.2.2.2.2.2.2.2.2.2.1)) (hX 0 (C.1, C.2.1, C.2.2.1, C.2.2.2.1, C.2.2.2.2.1, C.2.2.2.2.2.1, upd C.2.2.2.2.2.2.1 C.2.2.2.2.2.2.2.2.2.2.2.2.1.toNatClampNeg c, upd C.2.2.2.2.2.2.2.1 C.2.2.2.2.2.2.2.2.2.2.2.2.1.toNatClampNeg s, upd C.2.2.2.2.2.2.2.2.1 C.2.2.2.2.2.2.2.2.2.2.2.2.1.toNatClampNeg 40, C.2.2.2.2.2.2.2.2.2.1, C.2.2.2.2.2.2.2.2.2.2.1, C.2.2.2.2.2.2.2.2.2.2.2.1, C.2.2.2.2.2.2.2.2.2.2.2.2.1 + 1, C.2.2.2.2.2.2.2.2.2.2.2.2.2) A L) := by
  refine AMet.of (by decide) rfl ?_
  intro G hR hE hI
  have h8 : ¬ C.2.2.2.2.2.2.2.2.2.2.2.2.1 = 8 := fun z => absurd (z ▸ h3) (by unfold vp_in; decide)
  have e9 : C.2.2.2.2.2.2.2.2.2.2.2.2.1 + 1 - 1 = C.2.2.2.2.2.2.2.2.2.2.2.2.1 := Int32.add_sub_cancel _ _
  refine AW.blk (amX3_come _) 0 4 (h' := hX 0 C A L) (pc' := 6) (lv' := [(0, .ref 0), (1, .int c), (2, .int s)]) (st' := [.int c]) (L := []) rfl trivial ?_
  refine AW.callSp (amX3_come _) 4 (kX3_isCrossing c) [] [] ykX3_isCrossing ysX3_isCrossing mlX3_55 rfl rfl rfl rfl hR ⟨Nat.le_of_ble_eq_true rfl, Nat.le_of_ble_eq_true rfl, Nat.le_of_ble_eq_true rfl, Nat.le_of_ble_eq_true rfl⟩ rfl rfl rfl rfl rfl (fun _ => rfl) (h1 := hX 0 C A L) rfl (st' := [.int (sCr c)]) rfl ?_
  refine AW.br (amX3_come _) 5 (tgt := 18) (C := ¬ (sCr c) = 0) (C' := (sCr c) = 0) (st' := []) rfl rfl rfl (fun c1 => ?_) (fun c1 => absurd c1 hc)
  refine AW.blk (amX3_come _) 10 3 (h' := hX 0 C A L) (pc' := 22) (lv' := [(0, .ref 0), (1, .int c), (2, .int s)]) (st' := [.int 9, .int 1, .int s]) (L := []) rfl trivial ?_
  refine AW.callSp (amX3_come _) 13 (kX3_isIn s 1 9) [] [] ykX3_isIn ysX3_isIn mlX3_44 rfl rfl rfl rfl hR ⟨Nat.le_of_ble_eq_true rfl, Nat.le_of_ble_eq_true rfl, Nat.le_of_ble_eq_true rfl, Nat.le_of_ble_eq_true rfl⟩ rfl rfl rfl rfl rfl (fun _ => rfl) (h1 := hX 0 C A L) rfl (st' := [.int (sIn3 s 1 9)]) rfl ?_
  refine AW.br (amX3_come _) 14 (tgt := 34) (C := ¬ (sIn3 s 1 9) = 0) (C' := (sIn3 s 1 9) = 0) (st' := []) rfl rfl rfl (fun c2 => ?_) (fun c2 => absurd c2 h2)
  refine AW.blk (amX3_come _) 19 3 (h' := hX 0 C A L) (pc' := 40) (lv' := [(0, .ref 0), (1, .int c), (2, .int s)]) (st' := [.int 8, .int C.2.2.2.2.2.2.2.2.2.2.2.2.1]) (L := []) rfl trivial ?_
  refine AW.br (amX3_come _) 22 (tgt := 49) (C := ¬ C.2.2.2.2.2.2.2.2.2.2.2.2.1 = 8) (C' := C.2.2.2.2.2.2.2.2.2.2.2.2.1 = 8) (st' := []) rfl rfl rfl (fun c3 => ?_) (fun c3 => absurd c3 h8)
  refine AW.blk (amX3_come _) 27 30 (h' := hX 0 (C.1, C.2.1, C.2.2.1, C.2.2.2.1, C.2.2.2.2.1, C.2.2.2.2.2.1, upd C.2.2.2.2.2.2.1 C.2.2.2.2.2.2.2.2.2.2.2.2.1.toNatClampNeg c, upd C.2.2.2.2.2.2.2.1 C.2.2.2.2.2.2.2.2.2.2.2.2.1.toNatClampNeg s, upd C.2.2.2.2.2.2.2.2.1 C.2.2.2.2.2.2.2.2.2.2.2.2.1.toNatClampNeg 40, C.2.2.2.2.2.2.2.2.2.1, C.2.2.2.2.2.2.2.2.2.2.1, C.2.2.2.2.2.2.2.2.2.2.2.1, C.2.2.2.2.2.2.2.2.2.2.2.2.1 + 1, C.2.2.2.2.2.2.2.2.2.2.2.2.2) A L) (pc' := 102) (lv' := [(0, .ref 0), (1, .int c), (2, .int s)]) (st' := [.int ((C.2.2.2.2.2.2.2.2.2.2.2.2.1 + 1) - 1)]) (L := [vp_in C.2.2.2.2.2.2.2.2.2.2.2.2.1 8, vp_in C.2.2.2.2.2.2.2.2.2.2.2.2.1 8, vp_in C.2.2.2.2.2.2.2.2.2.2.2.2.1 8]) rfl ⟨h3, h3, h3⟩ ?_
  exact AW.iretE (amX3_come _) 57 hE rfl rfl rfl rfl rfl e9.symm rfl
set_option maxHeartbeats 2000000 in
theorem kX3_come_b1 {B : Nat} (th : Int32) (C A : CS) (L : Nat → Int32) (hV : VC B C) (c s : Int32) (hc : sCr c = 0) : AMet yX3_come cX3_come 3 (some .int) { frames := 2, cells := 0, slots := 0, locals := 42 } [.ref 0, .int c, .int s] (hX th C A L) (some (.int 0)) (hX 1 C A L) := by
  refine AMet.of (by decide) rfl ?_
  intro G hR hE hI
  refine AW.blk (amX3_come _) 0 4 (h' := hX 0 C A L) (pc' := 6) (lv' := [(0, .ref 0), (1, .int c), (2, .int s)]) (st' := [.int c]) (L := []) rfl trivial ?_
  refine AW.callSp (amX3_come _) 4 (kX3_isCrossing c) [] [] ykX3_isCrossing ysX3_isCrossing mlX3_55 rfl rfl rfl rfl hR ⟨Nat.le_of_ble_eq_true rfl, Nat.le_of_ble_eq_true rfl, Nat.le_of_ble_eq_true rfl, Nat.le_of_ble_eq_true rfl⟩ rfl rfl rfl rfl rfl (fun _ => rfl) (h1 := hX 0 C A L) rfl (st' := [.int (sCr c)]) rfl ?_
  refine AW.br (amX3_come _) 5 (tgt := 18) (C := ¬ (sCr c) = 0) (C' := (sCr c) = 0) (st' := []) rfl rfl rfl (fun c1 => absurd hc c1) (fun c1 => ?_)
  refine AW.blk (amX3_come _) 6 2 (h' := hX 0 C A L) (pc' := 14) (lv' := [(0, .ref 0), (1, .int c), (2, .int s)]) (st' := [.int 1, .ref 0]) (L := []) rfl trivial ?_
  refine AW.callVp (amX3_come _) 8 (kX3_no 0 C.2.2.2.2.2.2.2.2.2.2.2.2.1 1) rfl rfl [0] [0, 1, 2, 3, 4, 5, 6, 7, 8, 9, 10, 11, 12, 13, 14, 15] ykX3_no yiX3_no yvX3_no mlX3_59 rfl rfl rfl rfl hR ⟨Nat.le_of_ble_eq_true rfl, Nat.le_of_ble_eq_true rfl, Nat.le_of_ble_eq_true rfl, Nat.le_of_ble_eq_true rfl⟩ rfl rfl rfl rfl rfl (fun _ => rfl) (h1 := hX 1 C A L) rfl (st' := [.int 0]) rfl ?_
  exact AW.iretE (amX3_come _) 9 hE rfl rfl rfl rfl rfl rfl rfl
set_option maxHeartbeats 2000000 in
theorem kX3_come_b2 {B : Nat} (th : Int32) (C A : CS) (L : Nat → Int32) (hV : VC B C) (c s : Int32) (hc : ¬ sCr c = 0) (h2 : sIn3 s 1 9 = 0) : AMet yX3_come cX3_come 3 (some .int) { frames := 2, cells := 0, slots := 0, locals := 42 } [.ref 0, .int c, .int s] (hX th C A L) (some (.int 0)) (hX 2 C A L) := by
  refine AMet.of (by decide) rfl ?_
  intro G hR hE hI
  refine AW.blk (amX3_come _) 0 4 (h' := hX 0 C A L) (pc' := 6) (lv' := [(0, .ref 0), (1, .int c), (2, .int s)]) (st' := [.int c]) (L := []) rfl trivial ?_
  refine AW.callSp (amX3_come _) 4 (kX3_isCrossing c) [] [] ykX3_isCrossing ysX3_isCrossing mlX3_55 rfl rfl rfl rfl hR ⟨Nat.le_of_ble_eq_true rfl, Nat.le_of_ble_eq_true rfl, Nat.le_of_ble_eq_true rfl, Nat.le_of_ble_eq_true rfl⟩ rfl rfl rfl rfl rfl (fun _ => rfl) (h1 := hX 0 C A L) rfl (st' := [.int (sCr c)]) rfl ?_
  refine AW.br (amX3_come _) 5 (tgt := 18) (C := ¬ (sCr c) = 0) (C' := (sCr c) = 0) (st' := []) rfl rfl rfl (fun c1 => ?_) (fun c1 => absurd c1 hc)
  refine AW.blk (amX3_come _) 10 3 (h' := hX 0 C A L) (pc' := 22) (lv' := [(0, .ref 0), (1, .int c), (2, .int s)]) (st' := [.int 9, .int 1, .int s]) (L := []) rfl trivial ?_
  refine AW.callSp (amX3_come _) 13 (kX3_isIn s 1 9) [] [] ykX3_isIn ysX3_isIn mlX3_44 rfl rfl rfl rfl hR ⟨Nat.le_of_ble_eq_true rfl, Nat.le_of_ble_eq_true rfl, Nat.le_of_ble_eq_true rfl, Nat.le_of_ble_eq_true rfl⟩ rfl rfl rfl rfl rfl (fun _ => rfl) (h1 := hX 0 C A L) rfl (st' := [.int (sIn3 s 1 9)]) rfl ?_
  refine AW.br (amX3_come _) 14 (tgt := 34) (C := ¬ (sIn3 s 1 9) = 0) (C' := (sIn3 s 1 9) = 0) (st' := []) rfl rfl rfl (fun c2 => absurd h2 c2) (fun c2 => ?_)
  refine AW.blk (amX3_come _) 15 2 (h' := hX 0 C A L) (pc' := 30) (lv' := [(0, .ref 0), (1, .int c), (2, .int s)]) (st' := [.int 2, .ref 0]) (L := []) rfl trivial ?_
  refine AW.callVp (amX3_come _) 17 (kX3_no 0 C.2.2.2.2.2.2.2.2.2.2.2.2.1 2) rfl rfl [0] [0, 1, 2, 3, 4, 5, 6, 7, 8, 9, 10, 11, 12, 13, 14, 15] ykX3_no yiX3_no yvX3_no mlX3_59 rfl rfl rfl rfl hR ⟨Nat.le_of_ble_eq_true rfl, Nat.le_of_ble_eq_true rfl, Nat.le_of_ble_eq_true rfl, Nat.le_of_ble_eq_true rfl⟩ rfl rfl rfl rfl rfl (fun _ => rfl) (h1 := hX 2 C A L) rfl (st' := [.int 0]) rfl ?_
  exact AW.iretE (amX3_come _) 18 hE rfl rfl rfl rfl rfl rfl rfl
set_option maxHeartbeats 2000000 in
theorem kX3_come_b3 {B : Nat} (th : Int32) (C A : CS) (L : Nat → Int32) (hV : VC B C) (c s : Int32) (hc : ¬ sCr c = 0) (h2 : ¬ sIn3 s 1 9 = 0) (h3 : C.2.2.2.2.2.2.2.2.2.2.2.2.1 = 8) : AMet yX3_come cX3_come 3 (some .int) { frames := 2, cells := 0, slots := 0, locals := 42 } [.ref 0, .int c, .int s] (hX th C A L) (some (.int 0)) (hX 3 C A L) := by
  refine AMet.of (by decide) rfl ?_
  intro G hR hE hI
  refine AW.blk (amX3_come _) 0 4 (h' := hX 0 C A L) (pc' := 6) (lv' := [(0, .ref 0), (1, .int c), (2, .int s)]) (st' := [.int c]) (L := []) rfl trivial ?_
  refine AW.callSp (amX3_come _) 4 (kX3_isCrossing c) [] [] ykX3_isCrossing ysX3_isCrossing mlX3_55 rfl rfl rfl rfl hR ⟨Nat.le_of_ble_eq_true rfl, Nat.le_of_ble_eq_true rfl, Nat.le_of_ble_eq_true rfl, Nat.le_of_ble_eq_true rfl⟩ rfl rfl rfl rfl rfl (fun _ => rfl) (h1 := hX 0 C A L) rfl (st' := [.int (sCr c)]) rfl ?_
  refine AW.br (amX3_come _) 5 (tgt := 18) (C := ¬ (sCr c) = 0) (C' := (sCr c) = 0) (st' := []) rfl rfl rfl (fun c1 => ?_) (fun c1 => absurd c1 hc)
  refine AW.blk (amX3_come _) 10 3 (h' := hX 0 C A L) (pc' := 22) (lv' := [(0, .ref 0), (1, .int c), (2, .int s)]) (st' := [.int 9, .int 1, .int s]) (L := []) rfl trivial ?_
  refine AW.callSp (amX3_come _) 13 (kX3_isIn s 1 9) [] [] ykX3_isIn ysX3_isIn mlX3_44 rfl rfl rfl rfl hR ⟨Nat.le_of_ble_eq_true rfl, Nat.le_of_ble_eq_true rfl, Nat.le_of_ble_eq_true rfl, Nat.le_of_ble_eq_true rfl⟩ rfl rfl rfl rfl rfl (fun _ => rfl) (h1 := hX 0 C A L) rfl (st' := [.int (sIn3 s 1 9)]) rfl ?_
  refine AW.br (amX3_come _) 14 (tgt := 34) (C := ¬ (sIn3 s 1 9) = 0) (C' := (sIn3 s 1 9) = 0) (st' := []) rfl rfl rfl (fun c2 => ?_) (fun c2 => absurd c2 h2)
  refine AW.blk (amX3_come _) 19 3 (h' := hX 0 C A L) (pc' := 40) (lv' := [(0, .ref 0), (1, .int c), (2, .int s)]) (st' := [.int 8, .int C.2.2.2.2.2.2.2.2.2.2.2.2.1]) (L := []) rfl trivial ?_
  refine AW.br (amX3_come _) 22 (tgt := 49) (C := ¬ C.2.2.2.2.2.2.2.2.2.2.2.2.1 = 8) (C' := C.2.2.2.2.2.2.2.2.2.2.2.2.1 = 8) (st' := []) rfl rfl rfl (fun c3 => absurd h3 c3) (fun c3 => ?_)
  refine AW.blk (amX3_come _) 23 2 (h' := hX 0 C A L) (pc' := 45) (lv' := [(0, .ref 0), (1, .int c), (2, .int s)]) (st' := [.int 3, .ref 0]) (L := []) rfl trivial ?_
  refine AW.callVp (amX3_come _) 25 (kX3_no 0 C.2.2.2.2.2.2.2.2.2.2.2.2.1 3) rfl rfl [0] [0, 1, 2, 3, 4, 5, 6, 7, 8, 9, 10, 11, 12, 13, 14, 15] ykX3_no yiX3_no yvX3_no mlX3_59 rfl rfl rfl rfl hR ⟨Nat.le_of_ble_eq_true rfl, Nat.le_of_ble_eq_true rfl, Nat.le_of_ble_eq_true rfl, Nat.le_of_ble_eq_true rfl⟩ rfl rfl rfl rfl rfl (fun _ => rfl) (h1 := hX 3 C A L) rfl (st' := [.int 0]) rfl ?_
  exact AW.iretE (amX3_come _) 26 hE rfl rfl rfl rfl rfl rfl rfl
set_option maxHeartbeats 2000000 in
theorem kX3_send {B : Nat} (th : Int32) (C A : CS) (L : Nat → Int32) (hV : VC B C) (s c : Int32) (hs : ¬ sSw s C.2.2.2.2.2.2.2.2.2.2.2.2.1 = 0) (hc : ¬ sCr c = 0) : AMet yX3_send cX3_send 3 (some .int) { frames := 2, cells := 0, slots := 0, locals := 44 } [.ref 0, .int s, .int c] (hX th C A L) (some (.int (C.2.2.2.2.2.2.1 s.toNatClampNeg))) (hX 0 (cMove s c C) A L) := by
  refine AMet.of (by decide) rfl ?_
  intro G hR hE hI
  refine AW.blk (amX3_send _) 0 5 (h' := hX 0 C A L) (pc' := 7) (lv' := [(0, .ref 0), (1, .int s), (2, .int c)]) (st' := [.int s, .ref 0]) (L := []) rfl trivial ?_
  refine AW.callVp (amX3_send _) 5 (kIsS 0 C hV s) rfl rfl [0] [0, 1, 2, 3, 4, 5, 6, 7, 8, 9, 10, 11, 12, 13, 14, 15] ykX3_isSweeper yiX3_isSweeper yvX3_isSweeper mlX3_77 rfl rfl rfl rfl hR ⟨Nat.le_of_ble_eq_true rfl, Nat.le_of_ble_eq_true rfl, Nat.le_of_ble_eq_true rfl, Nat.le_of_ble_eq_true rfl⟩ rfl rfl rfl rfl rfl (fun _ => rfl) (h1 := hX 0 C A L) rfl (st' := [.int (sSw s C.2.2.2.2.2.2.2.2.2.2.2.2.1)]) rfl ?_
  refine AW.br (amX3_send _) 6 (tgt := 32) (C := (sSw s C.2.2.2.2.2.2.2.2.2.2.2.2.1) = 0) (C' := ¬ (sSw s C.2.2.2.2.2.2.2.2.2.2.2.2.1) = 0) (st' := []) rfl rfl rfl (fun c1 => absurd c1 hs) (fun c1 => ?_)
  refine AW.blk (amX3_send _) 7 1 (h' := hX 0 C A L) (pc' := 14) (lv' := [(0, .ref 0), (1, .int s), (2, .int c)]) (st' := [.int c]) (L := []) rfl trivial ?_
  refine AW.callSp (amX3_send _) 8 (kX3_isCrossing c) [] [] ykX3_isCrossing ysX3_isCrossing mlX3_55 rfl rfl rfl rfl hR ⟨Nat.le_of_ble_eq_true rfl, Nat.le_of_ble_eq_true rfl, Nat.le_of_ble_eq_true rfl, Nat.le_of_ble_eq_true rfl⟩ rfl rfl rfl rfl rfl (fun _ => rfl) (h1 := hX 0 C A L) rfl (st' := [.int (sCr c)]) rfl ?_
  refine AW.br (amX3_send _) 9 (tgt := 32) (C := (sCr c) = 0) (C' := ¬ (sCr c) = 0) (st' := []) rfl rfl rfl (fun c2 => absurd c2 hc) (fun c2 => ?_)
  refine AW.blk (amX3_send _) 10 4 (h' := hX 0 C A L) (pc' := 26) (lv' := [(0, .ref 0), (1, .int s), (2, .int c)]) (st' := [.int c, .int s, .ref 6]) (L := []) rfl trivial ?_
  refine AW.callVp (amX3_send _) 14 (kSend 0 C hV s c hs) rfl rfl [6, 7, 8, 9, 10, 11, 12, 13, 14, 0, 1, 2, 3, 4] [5, 6, 15] ykX2_send yiX2_send yvX2_send mlX3_80 rfl rfl rfl rfl hR ⟨Nat.le_of_ble_eq_true rfl, Nat.le_of_ble_eq_true rfl, Nat.le_of_ble_eq_true rfl, Nat.le_of_ble_eq_true rfl⟩ rfl rfl rfl rfl rfl (fun _ => rfl) (h1 := hX 0 (C.1, C.2.1, C.2.2.1, sMoH s C.2.2.2.2.2.2.2.2.2.2.2.2.1 C.2.2.2.2.2.2.1 C.2.2.2.1, C.2.2.2.2.1, C.2.2.2.2.2.1, sMoP s c C.2.2.2.2.2.2.2.2.2.2.2.2.1 C.2.2.2.2.2.2.1, C.2.2.2.2.2.2.2.1, C.2.2.2.2.2.2.2.2.1, C.2.2.2.2.2.2.2.2.2.1, C.2.2.2.2.2.2.2.2.2.2.1, C.2.2.2.2.2.2.2.2.2.2.2.1, C.2.2.2.2.2.2.2.2.2.2.2.2.1, C.2.2.2.2.2.2.2.2.2.2.2.2.2) A L) rfl (st' := [.int (C.2.2.2.2.2.2.1 s.toNatClampNeg)]) rfl ?_
  refine AW.blk (amX3_send _) 15 1 (h' := hX 0 (C.1, C.2.1, C.2.2.1, sMoH s C.2.2.2.2.2.2.2.2.2.2.2.2.1 C.2.2.2.2.2.2.1 C.2.2.2.1, C.2.2.2.2.1, C.2.2.2.2.2.1, sMoP s c C.2.2.2.2.2.2.2.2.2.2.2.2.1 C.2.2.2.2.2.2.1, C.2.2.2.2.2.2.2.1, C.2.2.2.2.2.2.2.2.1, C.2.2.2.2.2.2.2.2.2.1, C.2.2.2.2.2.2.2.2.2.2.1, C.2.2.2.2.2.2.2.2.2.2.2.1, C.2.2.2.2.2.2.2.2.2.2.2.2.1, C.2.2.2.2.2.2.2.2.2.2.2.2.2) A L) (pc' := 37) (lv' := [(0, .ref 0), (1, .int s), (2, .int c)]) (st' := [.int (C.2.2.2.2.2.2.1 s.toNatClampNeg)]) (L := []) rfl trivial ?_
  exact AW.iretE (amX3_send _) 19 hE rfl rfl rfl rfl rfl rfl rfl
set_option maxHeartbeats 2000000 in
theorem kX3_send_b1 {B : Nat} (th : Int32) (C A : CS) (L : Nat → Int32) (hV : VC B C) (s c : Int32) (hs : sSw s C.2.2.2.2.2.2.2.2.2.2.2.2.1 = 0) : AMet yX3_send cX3_send 3 (some .int) { frames := 2, cells := 0, slots := 0, locals := 44 } [.ref 0, .int s, .int c] (hX th C A L) (some (.int 0)) (hX 1 C A L) := by
  refine AMet.of (by decide) rfl ?_
  intro G hR hE hI
  refine AW.blk (amX3_send _) 0 5 (h' := hX 0 C A L) (pc' := 7) (lv' := [(0, .ref 0), (1, .int s), (2, .int c)]) (st' := [.int s, .ref 0]) (L := []) rfl trivial ?_
  refine AW.callVp (amX3_send _) 5 (kIsS 0 C hV s) rfl rfl [0] [0, 1, 2, 3, 4, 5, 6, 7, 8, 9, 10, 11, 12, 13, 14, 15] ykX3_isSweeper yiX3_isSweeper yvX3_isSweeper mlX3_77 rfl rfl rfl rfl hR ⟨Nat.le_of_ble_eq_true rfl, Nat.le_of_ble_eq_true rfl, Nat.le_of_ble_eq_true rfl, Nat.le_of_ble_eq_true rfl⟩ rfl rfl rfl rfl rfl (fun _ => rfl) (h1 := hX 0 C A L) rfl (st' := [.int (sSw s C.2.2.2.2.2.2.2.2.2.2.2.2.1)]) rfl ?_
  refine AW.br (amX3_send _) 6 (tgt := 32) (C := (sSw s C.2.2.2.2.2.2.2.2.2.2.2.2.1) = 0) (C' := ¬ (sSw s C.2.2.2.2.2.2.2.2.2.2.2.2.1) = 0) (st' := []) rfl rfl rfl (fun c1 => ?_) (fun c1 => absurd hs c1)
  refine AW.blk (amX3_send _) 16 2 (h' := hX 0 C A L) (pc' := 34) (lv' := [(0, .ref 0), (1, .int s), (2, .int c)]) (st' := [.int 1, .ref 0]) (L := []) rfl trivial ?_
  refine AW.callVp (amX3_send _) 18 (kX3_no 0 C.2.2.2.2.2.2.2.2.2.2.2.2.1 1) rfl rfl [0] [0, 1, 2, 3, 4, 5, 6, 7, 8, 9, 10, 11, 12, 13, 14, 15] ykX3_no yiX3_no yvX3_no mlX3_59 rfl rfl rfl rfl hR ⟨Nat.le_of_ble_eq_true rfl, Nat.le_of_ble_eq_true rfl, Nat.le_of_ble_eq_true rfl, Nat.le_of_ble_eq_true rfl⟩ rfl rfl rfl rfl rfl (fun _ => rfl) (h1 := hX 1 C A L) rfl (st' := [.int 0]) rfl ?_
  exact AW.iretE (amX3_send _) 19 hE rfl rfl rfl rfl rfl rfl rfl
set_option maxHeartbeats 2000000 in
theorem kX3_send_b2 {B : Nat} (th : Int32) (C A : CS) (L : Nat → Int32) (hV : VC B C) (s c : Int32) (hs : ¬ sSw s C.2.2.2.2.2.2.2.2.2.2.2.2.1 = 0) (hc : sCr c = 0) : AMet yX3_send cX3_send 3 (some .int) { frames := 2, cells := 0, slots := 0, locals := 44 } [.ref 0, .int s, .int c] (hX th C A L) (some (.int 0)) (hX 1 C A L) := by
  refine AMet.of (by decide) rfl ?_
  intro G hR hE hI
  refine AW.blk (amX3_send _) 0 5 (h' := hX 0 C A L) (pc' := 7) (lv' := [(0, .ref 0), (1, .int s), (2, .int c)]) (st' := [.int s, .ref 0]) (L := []) rfl trivial ?_
  refine AW.callVp (amX3_send _) 5 (kIsS 0 C hV s) rfl rfl [0] [0, 1, 2, 3, 4, 5, 6, 7, 8, 9, 10, 11, 12, 13, 14, 15] ykX3_isSweeper yiX3_isSweeper yvX3_isSweeper mlX3_77 rfl rfl rfl rfl hR ⟨Nat.le_of_ble_eq_true rfl, Nat.le_of_ble_eq_true rfl, Nat.le_of_ble_eq_true rfl, Nat.le_of_ble_eq_true rfl⟩ rfl rfl rfl rfl rfl (fun _ => rfl) (h1 := hX 0 C A L) rfl (st' := [.int (sSw s C.2.2.2.2.2.2.2.2.2.2.2.2.1)]) rfl ?_
  refine AW.br (amX3_send _) 6 (tgt := 32) (C := (sSw s C.2.2.2.2.2.2.2.2.2.2.2.2.1) = 0) (C' := ¬ (sSw s C.2.2.2.2.2.2.2.2.2.2.2.2.1) = 0) (st' := []) rfl rfl rfl (fun c1 => absurd c1 hs) (fun c1 => ?_)
  refine AW.blk (amX3_send _) 7 1 (h' := hX 0 C A L) (pc' := 14) (lv' := [(0, .ref 0), (1, .int s), (2, .int c)]) (st' := [.int c]) (L := []) rfl trivial ?_
  refine AW.callSp (amX3_send _) 8 (kX3_isCrossing c) [] [] ykX3_isCrossing ysX3_isCrossing mlX3_55 rfl rfl rfl rfl hR ⟨Nat.le_of_ble_eq_true rfl, Nat.le_of_ble_eq_true rfl, Nat.le_of_ble_eq_true rfl, Nat.le_of_ble_eq_true rfl⟩ rfl rfl rfl rfl rfl (fun _ => rfl) (h1 := hX 0 C A L) rfl (st' := [.int (sCr c)]) rfl ?_
  refine AW.br (amX3_send _) 9 (tgt := 32) (C := (sCr c) = 0) (C' := ¬ (sCr c) = 0) (st' := []) rfl rfl rfl (fun c2 => ?_) (fun c2 => absurd hc c2)
  refine AW.blk (amX3_send _) 16 2 (h' := hX 0 C A L) (pc' := 34) (lv' := [(0, .ref 0), (1, .int s), (2, .int c)]) (st' := [.int 1, .ref 0]) (L := []) rfl trivial ?_
  refine AW.callVp (amX3_send _) 18 (kX3_no 0 C.2.2.2.2.2.2.2.2.2.2.2.2.1 1) rfl rfl [0] [0, 1, 2, 3, 4, 5, 6, 7, 8, 9, 10, 11, 12, 13, 14, 15] ykX3_no yiX3_no yvX3_no mlX3_59 rfl rfl rfl rfl hR ⟨Nat.le_of_ble_eq_true rfl, Nat.le_of_ble_eq_true rfl, Nat.le_of_ble_eq_true rfl, Nat.le_of_ble_eq_true rfl⟩ rfl rfl rfl rfl rfl (fun _ => rfl) (h1 := hX 1 C A L) rfl (st' := [.int 0]) rfl ?_
  exact AW.iretE (amX3_send _) 19 hE rfl rfl rfl rfl rfl rfl rfl
set_option maxHeartbeats 2000000 in
theorem kX3_buy {B : Nat} (th : Int32) (C A : CS) (L : Nat → Int32) (hV : VC B C) (s : Int32) (hs : ¬ sSw s C.2.2.2.2.2.2.2.2.2.2.2.2.1 = 0) (h5 : 5 ≤ C.2.2.2.2.2.2.2.2.2.1 s.toNatClampNeg) : AMet yX3_buy cX3_buy 2 (some .int) { frames := 2, cells := 0, slots := 0, locals := 43 } [.ref 0, .int s] (hX th C A L) (some (.int (upd C.2.2.2.2.2.2.2.2.2.1 s.toNatClampNeg (C.2.2.2.2.2.2.2.2.2.1 s.toNatClampNeg - 5) s.toNatClampNeg))) (hX 0 (C.1, C.2.1, C.2.2.1, C.2.2.2.1, C.2.2.2.2.1, C.2.2.2.2.2.1, C.2.2.2.2.2.2.1, C.2.2.2.2.2.2.2.1, upd C.2.2.2.2.2.2.2.2.1 s.toNatClampNeg 40, upd C.2.2.2.2.2.2.2.2.2.1 s.toNatClampNeg (C.2.2.2.2.2.2.2.2.2.1 s.toNatClampNeg - 5), C.2.2.2.2.2.2.2.2.2.2.1, C.2.2.2.2.2.2.2.2.2.2.2.1, C.2.2.2.2.2.2.2.2.2.2.2.2.1, C.2.2.2.2.2.2.2.2.2.2.2.2.2) A L) := by
  refine AMet.of (by decide) rfl ?_
  intro G hR hE hI
  refine AW.blk (amX3_buy _) 0 5 (h' := hX 0 C A L) (pc' := 7) (lv' := [(0, .ref 0), (1, .int s)]) (st' := [.int s, .ref 0]) (L := []) rfl trivial ?_
  refine AW.callVp (amX3_buy _) 5 (kIsS 0 C hV s) rfl rfl [0] [0, 1, 2, 3, 4, 5, 6, 7, 8, 9, 10, 11, 12, 13, 14, 15] ykX3_isSweeper yiX3_isSweeper yvX3_isSweeper mlX3_77 rfl rfl rfl rfl hR ⟨Nat.le_of_ble_eq_true rfl, Nat.le_of_ble_eq_true rfl, Nat.le_of_ble_eq_true rfl, Nat.le_of_ble_eq_true rfl⟩ rfl rfl rfl rfl rfl (fun _ => rfl) (h1 := hX 0 C A L) rfl (st' := [.int (sSw s C.2.2.2.2.2.2.2.2.2.2.2.2.1)]) rfl ?_
  refine AW.br (amX3_buy _) 6 (tgt := 19) (C := ¬ (sSw s C.2.2.2.2.2.2.2.2.2.2.2.2.1) = 0) (C' := (sSw s C.2.2.2.2.2.2.2.2.2.2.2.2.1) = 0) (st' := []) rfl rfl rfl (fun c1 => ?_) (fun c1 => absurd c1 hs)
  refine AW.blk (amX3_buy _) 11 6 (h' := hX 0 C A L) (pc' := 29) (lv' := [(0, .ref 0), (1, .int s)]) (st' := [.int 5, .int (C.2.2.2.2.2.2.2.2.2.1 s.toNatClampNeg)]) (L := [vp_in s 8]) rfl (sSw_in hs) ?_
  refine AW.br (amX3_buy _) 17 (tgt := 38) (C := 5 ≤ (C.2.2.2.2.2.2.2.2.2.1 s.toNatClampNeg)) (C' := ¬ 5 ≤ (C.2.2.2.2.2.2.2.2.2.1 s.toNatClampNeg)) (st' := []) rfl rfl rfl (fun c2 => ?_) (fun c2 => absurd h5 c2)
  refine AW.blk (amX3_buy _) 22 20 (h' := hX 0 (C.1, C.2.1, C.2.2.1, C.2.2.2.1, C.2.2.2.2.1, C.2.2.2.2.2.1, C.2.2.2.2.2.2.1, C.2.2.2.2.2.2.2.1, upd C.2.2.2.2.2.2.2.2.1 s.toNatClampNeg 40, upd C.2.2.2.2.2.2.2.2.2.1 s.toNatClampNeg ((C.2.2.2.2.2.2.2.2.2.1 s.toNatClampNeg) - 5), C.2.2.2.2.2.2.2.2.2.2.1, C.2.2.2.2.2.2.2.2.2.2.2.1, C.2.2.2.2.2.2.2.2.2.2.2.2.1, C.2.2.2.2.2.2.2.2.2.2.2.2.2) A L) (pc' := 71) (lv' := [(0, .ref 0), (1, .int s)]) (st' := [.int ((upd C.2.2.2.2.2.2.2.2.2.1 s.toNatClampNeg ((C.2.2.2.2.2.2.2.2.2.1 s.toNatClampNeg) - 5)) s.toNatClampNeg)]) (L := [vp_in s 8, vp_in s 8, vp_in s 8, vp_in s 8]) rfl ⟨(sSw_in hs), (sSw_in hs), (sSw_in hs), (sSw_in hs)⟩ ?_
  exact AW.iretE (amX3_buy _) 42 hE rfl rfl rfl rfl rfl rfl rfl
set_option maxHeartbeats 2000000 in
theorem kX3_buy_b1 {B : Nat} (th : Int32) (C A : CS) (L : Nat → Int32) (hV : VC B C) (s : Int32) (hs : sSw s C.2.2.2.2.2.2.2.2.2.2.2.2.1 = 0) : AMet yX3_buy cX3_buy 2 (some .int) { frames := 2, cells := 0, slots := 0, locals := 43 } [.ref 0, .int s] (hX th C A L) (some (.int 0)) (hX 1 C A L) := by
  refine AMet.of (by decide) rfl ?_
  intro G hR hE hI
  refine AW.blk (amX3_buy _) 0 5 (h' := hX 0 C A L) (pc' := 7) (lv' := [(0, .ref 0), (1, .int s)]) (st' := [.int s, .ref 0]) (L := []) rfl trivial ?_
  refine AW.callVp (amX3_buy _) 5 (kIsS 0 C hV s) rfl rfl [0] [0, 1, 2, 3, 4, 5, 6, 7, 8, 9, 10, 11, 12, 13, 14, 15] ykX3_isSweeper yiX3_isSweeper yvX3_isSweeper mlX3_77 rfl rfl rfl rfl hR ⟨Nat.le_of_ble_eq_true rfl, Nat.le_of_ble_eq_true rfl, Nat.le_of_ble_eq_true rfl, Nat.le_of_ble_eq_true rfl⟩ rfl rfl rfl rfl rfl (fun _ => rfl) (h1 := hX 0 C A L) rfl (st' := [.int (sSw s C.2.2.2.2.2.2.2.2.2.2.2.2.1)]) rfl ?_
  refine AW.br (amX3_buy _) 6 (tgt := 19) (C := ¬ (sSw s C.2.2.2.2.2.2.2.2.2.2.2.2.1) = 0) (C' := (sSw s C.2.2.2.2.2.2.2.2.2.2.2.2.1) = 0) (st' := []) rfl rfl rfl (fun c1 => absurd hs c1) (fun c1 => ?_)
  refine AW.blk (amX3_buy _) 7 2 (h' := hX 0 C A L) (pc' := 15) (lv' := [(0, .ref 0), (1, .int s)]) (st' := [.int 1, .ref 0]) (L := []) rfl trivial ?_
  refine AW.callVp (amX3_buy _) 9 (kX3_no 0 C.2.2.2.2.2.2.2.2.2.2.2.2.1 1) rfl rfl [0] [0, 1, 2, 3, 4, 5, 6, 7, 8, 9, 10, 11, 12, 13, 14, 15] ykX3_no yiX3_no yvX3_no mlX3_59 rfl rfl rfl rfl hR ⟨Nat.le_of_ble_eq_true rfl, Nat.le_of_ble_eq_true rfl, Nat.le_of_ble_eq_true rfl, Nat.le_of_ble_eq_true rfl⟩ rfl rfl rfl rfl rfl (fun _ => rfl) (h1 := hX 1 C A L) rfl (st' := [.int 0]) rfl ?_
  exact AW.iretE (amX3_buy _) 10 hE rfl rfl rfl rfl rfl rfl rfl
set_option maxHeartbeats 2000000 in
theorem kX3_buy_b2 {B : Nat} (th : Int32) (C A : CS) (L : Nat → Int32) (hV : VC B C) (s : Int32) (hs : ¬ sSw s C.2.2.2.2.2.2.2.2.2.2.2.2.1 = 0) (h5 : ¬ 5 ≤ C.2.2.2.2.2.2.2.2.2.1 s.toNatClampNeg) : AMet yX3_buy cX3_buy 2 (some .int) { frames := 2, cells := 0, slots := 0, locals := 43 } [.ref 0, .int s] (hX th C A L) (some (.int 0)) (hX 2 C A L) := by
  refine AMet.of (by decide) rfl ?_
  intro G hR hE hI
  refine AW.blk (amX3_buy _) 0 5 (h' := hX 0 C A L) (pc' := 7) (lv' := [(0, .ref 0), (1, .int s)]) (st' := [.int s, .ref 0]) (L := []) rfl trivial ?_
  refine AW.callVp (amX3_buy _) 5 (kIsS 0 C hV s) rfl rfl [0] [0, 1, 2, 3, 4, 5, 6, 7, 8, 9, 10, 11, 12, 13, 14, 15] ykX3_isSweeper yiX3_isSweeper yvX3_isSweeper mlX3_77 rfl rfl rfl rfl hR ⟨Nat.le_of_ble_eq_true rfl, Nat.le_of_ble_eq_true rfl, Nat.le_of_ble_eq_true rfl, Nat.le_of_ble_eq_true rfl⟩ rfl rfl rfl rfl rfl (fun _ => rfl) (h1 := hX 0 C A L) rfl (st' := [.int (sSw s C.2.2.2.2.2.2.2.2.2.2.2.2.1)]) rfl ?_
  refine AW.br (amX3_buy _) 6 (tgt := 19) (C := ¬ (sSw s C.2.2.2.2.2.2.2.2.2.2.2.2.1) = 0) (C' := (sSw s C.2.2.2.2.2.2.2.2.2.2.2.2.1) = 0) (st' := []) rfl rfl rfl (fun c1 => ?_) (fun c1 => absurd c1 hs)
  refine AW.blk (amX3_buy _) 11 6 (h' := hX 0 C A L) (pc' := 29) (lv' := [(0, .ref 0), (1, .int s)]) (st' := [.int 5, .int (C.2.2.2.2.2.2.2.2.2.1 s.toNatClampNeg)]) (L := [vp_in s 8]) rfl (sSw_in hs) ?_
  refine AW.br (amX3_buy _) 17 (tgt := 38) (C := 5 ≤ (C.2.2.2.2.2.2.2.2.2.1 s.toNatClampNeg)) (C' := ¬ 5 ≤ (C.2.2.2.2.2.2.2.2.2.1 s.toNatClampNeg)) (st' := []) rfl rfl rfl (fun c2 => absurd c2 h5) (fun c2 => ?_)
  refine AW.blk (amX3_buy _) 18 2 (h' := hX 0 C A L) (pc' := 34) (lv' := [(0, .ref 0), (1, .int s)]) (st' := [.int 2, .ref 0]) (L := []) rfl trivial ?_
  refine AW.callVp (amX3_buy _) 20 (kX3_no 0 C.2.2.2.2.2.2.2.2.2.2.2.2.1 2) rfl rfl [0] [0, 1, 2, 3, 4, 5, 6, 7, 8, 9, 10, 11, 12, 13, 14, 15] ykX3_no yiX3_no yvX3_no mlX3_59 rfl rfl rfl rfl hR ⟨Nat.le_of_ble_eq_true rfl, Nat.le_of_ble_eq_true rfl, Nat.le_of_ble_eq_true rfl, Nat.le_of_ble_eq_true rfl⟩ rfl rfl rfl rfl rfl (fun _ => rfl) (h1 := hX 2 C A L) rfl (st' := [.int 0]) rfl ?_
  exact AW.iretE (amX3_buy _) 21 hE rfl rfl rfl rfl rfl rfl rfl
set_option maxHeartbeats 2000000 in
theorem kX3_pass {B : Nat} (th : Int32) (C A : CS) (L : Nat → Int32) (hV : VC B C) (hB : B + 96 < 2 ^ 31) (t : Int32) (h1 : ¬ sIn3 t 1 96 = 0) : AMet yX3_pass cX3_pass 2 (some .int) { frames := 5, cells := 0, slots := 0, locals := 114 } [.ref 0, .int t] (hX th C A L) (some (.int (sLive t C).1)) (hX 0 (sLive t C).2 A L) := by
  refine AMet.of (by decide) rfl ?_
  intro G hR hE hI
  have hfx : hX 0 (sLive t C).2 A L = hX 0 ((sLive t C).2.1, C.2.1, C.2.2.1, (sLive t C).2.2.2.2.1, (sLive t C).2.2.2.2.2.1, C.2.2.2.2.2.1, (sLive t C).2.2.2.2.2.2.2.1, C.2.2.2.2.2.2.2.1, (sLive t C).2.2.2.2.2.2.2.2.2.1, (sLive t C).2.2.2.2.2.2.2.2.2.2.1, (sLive t C).2.2.2.2.2.2.2.2.2.2.2.1, (sLive t C).2.2.2.2.2.2.2.2.2.2.2.2.1, C.2.2.2.2.2.2.2.2.2.2.2.2.1, (sLive t C).2.2.2.2.2.2.2.2.2.2.2.2.2.2) A L := by
    obtain ⟨x1, x2, x3, x4, x5⟩ := fx_L t C
    unfold hX
    rw [x1, x2, x3, x4, x5]
  refine AW.blk (amX3_pass _) 0 4 (h' := hX 0 C A L) (pc' := 6) (lv' := [(0, .ref 0), (1, .int t)]) (st' := [.int t]) (L := []) rfl trivial ?_
  refine AW.callSp (amX3_pass _) 4 (kX3_isTime t) [] [] ykX3_isTime ysX3_isTime mlX3_124 rfl rfl rfl rfl hR ⟨Nat.le_of_ble_eq_true rfl, Nat.le_of_ble_eq_true rfl, Nat.le_of_ble_eq_true rfl, Nat.le_of_ble_eq_true rfl⟩ rfl rfl rfl rfl rfl (fun _ => rfl) (h1 := hX 0 C A L) rfl (st' := [.int (sIn3 t 1 96)]) rfl ?_
  refine AW.br (amX3_pass _) 5 (tgt := 23) (C := (sIn3 t 1 96) = 0) (C' := ¬ (sIn3 t 1 96) = 0) (st' := []) rfl rfl rfl (fun c1 => absurd c1 h1) (fun c1 => ?_)
  refine AW.blk (amX3_pass _) 6 3 (h' := hX 0 C A L) (pc' := 17) (lv' := [(0, .ref 0), (1, .int t)]) (st' := [.int t, .ref 6]) (L := []) rfl trivial ?_
  refine AW.callVp (amX3_pass _) 9 (kLv 0 C hV hB t (in3_ge h1) (in3_le h1)) rfl rfl [6, 7, 8, 9, 10, 11, 12, 13, 14, 0, 1, 2, 3, 4] [5, 6, 15] ykX2_pass_ yiX2_pass_ yvX2_pass_ mlX3_127 rfl rfl rfl rfl hR ⟨Nat.le_of_ble_eq_true rfl, Nat.le_of_ble_eq_true rfl, Nat.le_of_ble_eq_true rfl, Nat.le_of_ble_eq_true rfl⟩ rfl rfl rfl rfl rfl (fun _ => rfl) (h1 := hX 0 ((sLive t C).2.1, C.2.1, C.2.2.1, (sLive t C).2.2.2.2.1, (sLive t C).2.2.2.2.2.1, C.2.2.2.2.2.1, (sLive t C).2.2.2.2.2.2.2.1, C.2.2.2.2.2.2.2.1, (sLive t C).2.2.2.2.2.2.2.2.2.1, (sLive t C).2.2.2.2.2.2.2.2.2.2.1, (sLive t C).2.2.2.2.2.2.2.2.2.2.2.1, (sLive t C).2.2.2.2.2.2.2.2.2.2.2.2.1, C.2.2.2.2.2.2.2.2.2.2.2.2.1, (sLive t C).2.2.2.2.2.2.2.2.2.2.2.2.2.2) A L) rfl (st' := [.int ((sLive t C).1)]) rfl ?_
  refine AW.blk (amX3_pass _) 10 1 (h' := hX 0 ((sLive t C).2.1, C.2.1, C.2.2.1, (sLive t C).2.2.2.2.1, (sLive t C).2.2.2.2.2.1, C.2.2.2.2.2.1, (sLive t C).2.2.2.2.2.2.2.1, C.2.2.2.2.2.2.2.1, (sLive t C).2.2.2.2.2.2.2.2.2.1, (sLive t C).2.2.2.2.2.2.2.2.2.2.1, (sLive t C).2.2.2.2.2.2.2.2.2.2.2.1, (sLive t C).2.2.2.2.2.2.2.2.2.2.2.2.1, C.2.2.2.2.2.2.2.2.2.2.2.2.1, (sLive t C).2.2.2.2.2.2.2.2.2.2.2.2.2.2) A L) (pc' := 28) (lv' := [(0, .ref 0), (1, .int t)]) (st' := [.int ((sLive t C).1)]) (L := []) rfl trivial ?_
  exact AW.iretE (amX3_pass _) 14 hE rfl rfl rfl rfl rfl rfl hfx
set_option maxHeartbeats 2000000 in
theorem kX3_pass_b1 {B : Nat} (th : Int32) (C A : CS) (L : Nat → Int32) (hV : VC B C) (t : Int32) (h1 : sIn3 t 1 96 = 0) : AMet yX3_pass cX3_pass 2 (some .int) { frames := 5, cells := 0, slots := 0, locals := 114 } [.ref 0, .int t] (hX th C A L) (some (.int 0)) (hX 1 C A L) := by
  refine AMet.of (by decide) rfl ?_
  intro G hR hE hI
  refine AW.blk (amX3_pass _) 0 4 (h' := hX 0 C A L) (pc' := 6) (lv' := [(0, .ref 0), (1, .int t)]) (st' := [.int t]) (L := []) rfl trivial ?_
  refine AW.callSp (amX3_pass _) 4 (kX3_isTime t) [] [] ykX3_isTime ysX3_isTime mlX3_124 rfl rfl rfl rfl hR ⟨Nat.le_of_ble_eq_true rfl, Nat.le_of_ble_eq_true rfl, Nat.le_of_ble_eq_true rfl, Nat.le_of_ble_eq_true rfl⟩ rfl rfl rfl rfl rfl (fun _ => rfl) (h1 := hX 0 C A L) rfl (st' := [.int (sIn3 t 1 96)]) rfl ?_
  refine AW.br (amX3_pass _) 5 (tgt := 23) (C := (sIn3 t 1 96) = 0) (C' := ¬ (sIn3 t 1 96) = 0) (st' := []) rfl rfl rfl (fun c1 => ?_) (fun c1 => absurd h1 c1)
  refine AW.blk (amX3_pass _) 11 2 (h' := hX 0 C A L) (pc' := 25) (lv' := [(0, .ref 0), (1, .int t)]) (st' := [.int 1, .ref 0]) (L := []) rfl trivial ?_
  refine AW.callVp (amX3_pass _) 13 (kX3_no 0 C.2.2.2.2.2.2.2.2.2.2.2.2.1 1) rfl rfl [0] [0, 1, 2, 3, 4, 5, 6, 7, 8, 9, 10, 11, 12, 13, 14, 15] ykX3_no yiX3_no yvX3_no mlX3_59 rfl rfl rfl rfl hR ⟨Nat.le_of_ble_eq_true rfl, Nat.le_of_ble_eq_true rfl, Nat.le_of_ble_eq_true rfl, Nat.le_of_ble_eq_true rfl⟩ rfl rfl rfl rfl rfl (fun _ => rfl) (h1 := hX 1 C A L) rfl (st' := [.int 0]) rfl ?_
  exact AW.iretE (amX3_pass _) 14 hE rfl rfl rfl rfl rfl rfl rfl
end
section
theorem zz_probe : 1 + 1 = 2 := rfl
end
