/-- a private method of a class that the tables say can be made, by its rows of tables_1 -/
def lw_okq (q : MethodName × Nat) : Prop := (q.1.cls ≠ "java/lang/invoke/MethodHandle" ∧ q.1.cls ≠ "java/lang/invoke/VarHandle") ∧ Cond.instantiable q.1.cls q.2 ∈ tables_1 ∧ Cond.privateMethod q.1 ∈ tables_1 ∧ Cond.instanceMethod q.1 ∈ tables_1
theorem lw_p0 : lw_okq (⟨"SalvageOfDays", "setHour", "(I)I"⟩, 8) := ⟨⟨by decide +kernel, by decide +kernel⟩, List.mem_of_getElem? (i := 46) (by decide +kernel), List.mem_of_getElem? (i := 44) (by decide +kernel), List.mem_of_getElem? (i := 45) (by decide +kernel)⟩
theorem lw_p1 : lw_okq (⟨"SalvageOfDays", "isDiver", "(I)Z"⟩, 8) := ⟨⟨by decide +kernel, by decide +kernel⟩, List.mem_of_getElem? (i := 46) (by decide +kernel), List.mem_of_getElem? (i := 56) (by decide +kernel), List.mem_of_getElem? (i := 57) (by decide +kernel)⟩
theorem lw_p2 : lw_okq (⟨"SalvageOfDays", "fairBehind", "(II)I"⟩, 8) := ⟨⟨by decide +kernel, by decide +kernel⟩, List.mem_of_getElem? (i := 46) (by decide +kernel), List.mem_of_getElem? (i := 192) (by decide +kernel), List.mem_of_getElem? (i := 193) (by decide +kernel)⟩
theorem lw_p3 : lw_okq (⟨"SalvageOfDays$Tape", "next", "()V"⟩, 7) := ⟨⟨by decide +kernel, by decide +kernel⟩, List.mem_of_getElem? (i := 239) (by decide +kernel), List.mem_of_getElem? (i := 373) (by decide +kernel), List.mem_of_getElem? (i := 374) (by decide +kernel)⟩
theorem lw_p4 : lw_okq (⟨"SalvageOfDays$Tape", "nextWord", "()V"⟩, 7) := ⟨⟨by decide +kernel, by decide +kernel⟩, List.mem_of_getElem? (i := 239) (by decide +kernel), List.mem_of_getElem? (i := 383) (by decide +kernel), List.mem_of_getElem? (i := 384) (by decide +kernel)⟩
theorem lw_p5 : lw_okq (⟨"SalvageOfDays$Tape", "spells", "(II)Z"⟩, 7) := ⟨⟨by decide +kernel, by decide +kernel⟩, List.mem_of_getElem? (i := 239) (by decide +kernel), List.mem_of_getElem? (i := 390) (by decide +kernel), List.mem_of_getElem? (i := 391) (by decide +kernel)⟩
theorem lw_p6 : lw_okq (⟨"SalvageOfDays$Tape", "nextNumber", "()V"⟩, 7) := ⟨⟨by decide +kernel, by decide +kernel⟩, List.mem_of_getElem? (i := 239) (by decide +kernel), List.mem_of_getElem? (i := 397) (by decide +kernel), List.mem_of_getElem? (i := 398) (by decide +kernel)⟩
theorem lw_p7 : lw_okq (⟨"SalvageOfDays$Tape", "readsParts", "()Z"⟩, 7) := ⟨⟨by decide +kernel, by decide +kernel⟩, List.mem_of_getElem? (i := 239) (by decide +kernel), List.mem_of_getElem? (i := 404) (by decide +kernel), List.mem_of_getElem? (i := 405) (by decide +kernel)⟩
theorem lw_p8 : lw_okq (⟨"SalvageOfDays$Tape", "passes", "(I)Z"⟩, 7) := ⟨⟨by decide +kernel, by decide +kernel⟩, List.mem_of_getElem? (i := 239) (by decide +kernel), List.mem_of_getElem? (i := 408) (by decide +kernel), List.mem_of_getElem? (i := 409) (by decide +kernel)⟩
theorem lw_p9 : lw_okq (⟨"SalvageOfDays$Tape", "readsOr", "(I)Z"⟩, 7) := ⟨⟨by decide +kernel, by decide +kernel⟩, List.mem_of_getElem? (i := 239) (by decide +kernel), List.mem_of_getElem? (i := 412) (by decide +kernel), List.mem_of_getElem? (i := 413) (by decide +kernel)⟩
theorem lw_p10 : lw_okq (⟨"SalvageOfDays$Tape", "readsAnd", "(I)Z"⟩, 7) := ⟨⟨by decide +kernel, by decide +kernel⟩, List.mem_of_getElem? (i := 239) (by decide +kernel), List.mem_of_getElem? (i := 416) (by decide +kernel), List.mem_of_getElem? (i := 417) (by decide +kernel)⟩
theorem lw_p11 : lw_okq (⟨"SalvageOfDays$Tape", "readsNot", "(I)Z"⟩, 7) := ⟨⟨by decide +kernel, by decide +kernel⟩, List.mem_of_getElem? (i := 239) (by decide +kernel), List.mem_of_getElem? (i := 420) (by decide +kernel), List.mem_of_getElem? (i := 421) (by decide +kernel)⟩
theorem lw_p12 : lw_okq (⟨"SalvageOfDays$Tape", "readsNotBehindNot", "(I)Z"⟩, 7) := ⟨⟨by decide +kernel, by decide +kernel⟩, List.mem_of_getElem? (i := 239) (by decide +kernel), List.mem_of_getElem? (i := 424) (by decide +kernel), List.mem_of_getElem? (i := 425) (by decide +kernel)⟩
theorem lw_p13 : lw_okq (⟨"SalvageOfDays$Tape", "readsSum", "(I)Z"⟩, 7) := ⟨⟨by decide +kernel, by decide +kernel⟩, List.mem_of_getElem? (i := 239) (by decide +kernel), List.mem_of_getElem? (i := 432) (by decide +kernel), List.mem_of_getElem? (i := 433) (by decide +kernel)⟩
theorem lw_p14 : lw_okq (⟨"SalvageOfDays$Tape", "readsTerm", "(I)Z"⟩, 7) := ⟨⟨by decide +kernel, by decide +kernel⟩, List.mem_of_getElem? (i := 239) (by decide +kernel), List.mem_of_getElem? (i := 436) (by decide +kernel), List.mem_of_getElem? (i := 437) (by decide +kernel)⟩
theorem lw_p15 : lw_okq (⟨"SalvageOfDays$Tape", "readsOne", "(I)Z"⟩, 7) := ⟨⟨by decide +kernel, by decide +kernel⟩, List.mem_of_getElem? (i := 239) (by decide +kernel), List.mem_of_getElem? (i := 440) (by decide +kernel), List.mem_of_getElem? (i := 441) (by decide +kernel)⟩
def lw_privs_1 : List (MethodName × Nat) := [(⟨"SalvageOfDays", "setHour", "(I)I"⟩, 8), (⟨"SalvageOfDays", "isDiver", "(I)Z"⟩, 8), (⟨"SalvageOfDays", "fairBehind", "(II)I"⟩, 8), (⟨"SalvageOfDays$Tape", "next", "()V"⟩, 7), (⟨"SalvageOfDays$Tape", "nextWord", "()V"⟩, 7), (⟨"SalvageOfDays$Tape", "spells", "(II)Z"⟩, 7), (⟨"SalvageOfDays$Tape", "nextNumber", "()V"⟩, 7), (⟨"SalvageOfDays$Tape", "readsParts", "()Z"⟩, 7), (⟨"SalvageOfDays$Tape", "passes", "(I)Z"⟩, 7), (⟨"SalvageOfDays$Tape", "readsOr", "(I)Z"⟩, 7), (⟨"SalvageOfDays$Tape", "readsAnd", "(I)Z"⟩, 7), (⟨"SalvageOfDays$Tape", "readsNot", "(I)Z"⟩, 7), (⟨"SalvageOfDays$Tape", "readsNotBehindNot", "(I)Z"⟩, 7), (⟨"SalvageOfDays$Tape", "readsSum", "(I)Z"⟩, 7), (⟨"SalvageOfDays$Tape", "readsTerm", "(I)Z"⟩, 7), (⟨"SalvageOfDays$Tape", "readsOne", "(I)Z"⟩, 7)]
theorem lw_r1 : ∀ q ∈ lw_privs_1, lw_okq q := List.forall_mem_cons.mpr ⟨lw_p0, List.forall_mem_cons.mpr ⟨lw_p1, List.forall_mem_cons.mpr ⟨lw_p2, List.forall_mem_cons.mpr ⟨lw_p3, List.forall_mem_cons.mpr ⟨lw_p4, List.forall_mem_cons.mpr ⟨lw_p5, List.forall_mem_cons.mpr ⟨lw_p6, List.forall_mem_cons.mpr ⟨lw_p7, List.forall_mem_cons.mpr ⟨lw_p8, List.forall_mem_cons.mpr ⟨lw_p9, List.forall_mem_cons.mpr ⟨lw_p10, List.forall_mem_cons.mpr ⟨lw_p11, List.forall_mem_cons.mpr ⟨lw_p12, List.forall_mem_cons.mpr ⟨lw_p13, List.forall_mem_cons.mpr ⟨lw_p14, List.forall_mem_cons.mpr ⟨lw_p15, fun _ h => absurd h List.not_mem_nil⟩⟩⟩⟩⟩⟩⟩⟩⟩⟩⟩⟩⟩⟩⟩⟩
theorem lw_p16 : lw_okq (⟨"SalvageOfDays$Tape", "readsOneBehindMinus", "(I)Z"⟩, 7) := ⟨⟨by decide +kernel, by decide +kernel⟩, List.mem_of_getElem? (i := 239) (by decide +kernel), List.mem_of_getElem? (i := 445) (by decide +kernel), List.mem_of_getElem? (i := 446) (by decide +kernel)⟩
def lw_privs_2 : List (MethodName × Nat) := [(⟨"SalvageOfDays$Tape", "readsOneBehindMinus", "(I)Z"⟩, 7)]
theorem lw_r2 : ∀ q ∈ lw_privs_2, lw_okq q := List.forall_mem_cons.mpr ⟨lw_p16, fun _ h => absurd h List.not_mem_nil⟩
def lw_privs : List (MethodName × Nat) := lw_privs_1 ++ (lw_privs_2)
def lw_tbl : List Cond := k2_sels lw_privs ++ tables_1
theorem lw_privs_ok : ∀ q ∈ lw_privs, lw_okq q := by
  show ∀ q ∈ lw_privs_1 ++ (lw_privs_2), lw_okq q
  exact List.forall_mem_append.mpr ⟨lw_r1, lw_r2⟩
def RX0 : String := "SalvageOfDays$Kinds"
def TX0 : u_T := fun k => match k with
  | _ => ("", "", "", false)
def tyX0 : Nat → FieldType := fun k => match k with
  | _ => .int
abbrev wsX00 : List Cond := u_ws RX0 TX0 0
theorem nmX0 : ∀ a, a < 0 → ∀ b, b < 0 → a ≠ b → (TX0 a).2.1 ≠ (TX0 b).2.1 := by decide +kernel
theorem tyX0_ok : ∀ k, k < 0 → parseFieldDescriptor (TX0 k).2.2.1 = some (tyX0 k) := by decide +kernel
abbrev cX0_reach : ByteArray := prog_2_method_3_code
def yX0_reach : MethodName := ⟨RX0, "reach", "(III)I"⟩
abbrev cX0_cost : ByteArray := prog_2_method_4_code
def yX0_cost : MethodName := ⟨RX0, "cost", "(IIIII)I"⟩
abbrev cX0_breathing : ByteArray := prog_2_method_5_code
def yX0_breathing : MethodName := ⟨RX0, "breathing", "(II)I"⟩
def RX1 : String := "SalvageOfDays$Scene"
def TX1 : u_T := fun k => match k with
  | 0 => ("SalvageOfDays$Scene", "weather", "[I", true)
  | 1 => ("SalvageOfDays$Scene", "sort", "[I", true)
  | 2 => ("SalvageOfDays$Scene", "strong", "[I", true)
  | 3 => ("SalvageOfDays$Scene", "deep", "[I", true)
  | 4 => ("SalvageOfDays$Scene", "place", "[I", true)
  | 5 => ("SalvageOfDays$Scene", "kind", "[I", true)
  | 6 => ("SalvageOfDays$Scene", "more", "[I", true)
  | 7 => ("SalvageOfDays$Scene", "breath", "[I", true)
  | 8 => ("SalvageOfDays$Scene", "brought", "[I", true)
  | 9 => ("SalvageOfDays$Scene", "divers", "I", false)
  | 10 => ("SalvageOfDays$Scene", "hour", "I", false)
  | _ => ("SalvageOfDays$Scene", "law", "LSalvageOfDays$Text;", false)
def tyX1 : Nat → FieldType := fun k => match k with
  | 0 => .array .int
  | 1 => .array .int
  | 2 => .array .int
  | 3 => .array .int
  | 4 => .array .int
  | 5 => .array .int
  | 6 => .array .int
  | 7 => .array .int
  | 8 => .array .int
  | 9 => .int
  | 10 => .int
  | _ => .object "SalvageOfDays$Text"
abbrev wsX10 : List Cond := u_ws RX1 TX1 12
theorem nmX1 : ∀ a, a < 12 → ∀ b, b < 12 → a ≠ b → (TX1 a).2.1 ≠ (TX1 b).2.1 := by decide +kernel
theorem tyX1_ok : ∀ k, k < 12 → parseFieldDescriptor (TX1 k).2.2.1 = some (tyX1 k) := by decide +kernel
abbrev cX1_init : ByteArray := prog_3_method_1_code
def yX1_init : MethodName := ⟨RX1, "<init>", "(LSalvageOfDays$Text;)V"⟩
abbrev cX1_becomes : ByteArray := prog_3_method_2_code
def yX1_becomes : MethodName := ⟨RX1, "becomes", "(LSalvageOfDays$Scene;)V"⟩
abbrev cX1_caskRow : ByteArray := prog_3_method_3_code
def yX1_caskRow : MethodName := ⟨RX1, "caskRow", "(I)[I"⟩
abbrev cX1_casksAt : ByteArray := prog_3_method_4_code
def yX1_casksAt : MethodName := ⟨RX1, "casksAt", "(I)I"⟩
abbrev cX1_sum : ByteArray := prog_3_method_5_code
def yX1_sum : MethodName := ⟨RX1, "sum", "([II)I"⟩
abbrev cX1_comes : ByteArray := prog_3_method_6_code
def yX1_comes : MethodName := ⟨RX1, "comes", "(III)I"⟩
abbrev cX1_saidReach : ByteArray := prog_3_method_7_code
def yX1_saidReach : MethodName := ⟨RX1, "saidReach", "(II)I"⟩
abbrev cX1_saidCost : ByteArray := prog_3_method_8_code
def yX1_saidCost : MethodName := ⟨RX1, "saidCost", "(II)I"⟩
abbrev cX1_reach : ByteArray := prog_3_method_9_code
def yX1_reach : MethodName := ⟨RX1, "reach", "(II)I"⟩
abbrev cX1_cost : ByteArray := prog_3_method_10_code
def yX1_cost : MethodName := ⟨RX1, "cost", "(II)I"⟩
abbrev cX1_can : ByteArray := prog_3_method_11_code
def yX1_can : MethodName := ⟨RX1, "can", "(II)Z"⟩
abbrev cX1_casksFor : ByteArray := prog_3_method_12_code
def yX1_casksFor : MethodName := ⟨RX1, "casksFor", "(I)I"⟩
abbrev cX1_bringUp : ByteArray := prog_3_method_14_code
def yX1_bringUp : MethodName := ⟨RX1, "bringUp", "(II)V"⟩
abbrev cX1_letLoose : ByteArray := prog_3_method_16_code
def yX1_letLoose : MethodName := ⟨RX1, "letLoose", "(I)V"⟩
abbrev cX1_blowUp : ByteArray := prog_3_method_17_code
def yX1_blowUp : MethodName := ⟨RX1, "blowUp", "(II)V"⟩
abbrev cX1_fading : ByteArray := prog_3_method_18_code
def yX1_fading : MethodName := ⟨RX1, "fading", "(III)I"⟩
abbrev cX1_faded : ByteArray := prog_3_method_19_code
def yX1_faded : MethodName := ⟨RX1, "faded", "(III)I"⟩
abbrev cX1_passHours : ByteArray := prog_3_method_20_code
def yX1_passHours : MethodName := ⟨RX1, "passHours", "(I)V"⟩
abbrev cX1_mainSort : ByteArray := prog_3_method_22_code
def yX1_mainSort : MethodName := ⟨RX1, "mainSort", "()I"⟩
abbrev cX1_fair : ByteArray := prog_3_method_23_code
def yX1_fair : MethodName := ⟨RX1, "fair", "()I"⟩
abbrev cX1_overBay : ByteArray := prog_3_method_24_code
def yX1_overBay : MethodName := ⟨RX1, "overBay", "(I)I"⟩
def RX2 : String := "SalvageOfDays$Sheet"
def TX2 : u_T := fun k => match k with
  | 0 => ("SalvageOfDays$Sheet", "cells", "[I", true)
  | 1 => ("SalvageOfDays$Sheet", "sort", "I", false)
  | _ => ("SalvageOfDays$Sheet", "size", "I", false)
def tyX2 : Nat → FieldType := fun k => match k with
  | 0 => .array .int
  | 1 => .int
  | _ => .int
abbrev wsX20 : List Cond := u_ws RX2 TX2 3
theorem nmX2 : ∀ a, a < 3 → ∀ b, b < 3 → a ≠ b → (TX2 a).2.1 ≠ (TX2 b).2.1 := by decide +kernel
theorem tyX2_ok : ∀ k, k < 3 → parseFieldDescriptor (TX2 k).2.2.1 = some (tyX2 k) := by decide +kernel
abbrev cX2_init : ByteArray := prog_4_method_1_code
def yX2_init : MethodName := ⟨RX2, "<init>", "()V"⟩
def RX3 : String := "SalvageOfDays$Tape"
def TX3 : u_T := fun k => match k with
  | 0 => ("SalvageOfDays$Tape", "bytes", "[I", true)
  | 1 => ("SalvageOfDays$Tape", "size", "I", false)
  | 2 => ("SalvageOfDays$Tape", "at", "I", false)
  | 3 => ("SalvageOfDays$Tape", "place", "I", false)
  | 4 => ("SalvageOfDays$Tape", "symbol", "I", false)
  | 5 => ("SalvageOfDays$Tape", "numberRead", "I", false)
  | _ => ("SalvageOfDays$Tape", "made", "LSalvageOfDays$Text;", false)
def tyX3 : Nat → FieldType := fun k => match k with
  | 0 => .array .int
  | 1 => .int
  | 2 => .int
  | 3 => .int
  | 4 => .int
  | 5 => .int
  | _ => .object "SalvageOfDays$Text"
abbrev wsX30 : List Cond := u_ws RX3 TX3 7
theorem nmX3 : ∀ a, a < 7 → ∀ b, b < 7 → a ≠ b → (TX3 a).2.1 ≠ (TX3 b).2.1 := by decide +kernel
theorem tyX3_ok : ∀ k, k < 7 → parseFieldDescriptor (TX3 k).2.2.1 = some (tyX3 k) := by decide +kernel
abbrev cX3_init : ByteArray := prog_5_method_1_code
def yX3_init : MethodName := ⟨RX3, "<init>", "()V"⟩
abbrev cX3_hasRoom : ByteArray := prog_5_method_2_code
def yX3_hasRoom : MethodName := ⟨RX3, "hasRoom", "(I)Z"⟩
abbrev cX3_add : ByteArray := prog_5_method_3_code
def yX3_add : MethodName := ⟨RX3, "add", "(I)V"⟩
abbrev cX3_clear : ByteArray := prog_5_method_4_code
def yX3_clear : MethodName := ⟨RX3, "clear", "()V"⟩
abbrev cX3_isName : ByteArray := prog_5_method_5_code
def yX3_isName : MethodName := ⟨RX3, "isName", "(I)Z"⟩
abbrev cX3_readInto : ByteArray := prog_5_method_6_code
def yX3_readInto : MethodName := ⟨RX3, "readInto", "(LSalvageOfDays$Text;)I"⟩
abbrev cX3_readsParts : ByteArray := prog_5_method_7_code
def yX3_readsParts : MethodName := ⟨RX3, "readsParts", "()Z"⟩
abbrev cX3_passes : ByteArray := prog_5_method_8_code
def yX3_passes : MethodName := ⟨RX3, "passes", "(I)Z"⟩
abbrev cX3_readsOr : ByteArray := prog_5_method_9_code
def yX3_readsOr : MethodName := ⟨RX3, "readsOr", "(I)Z"⟩
abbrev cX3_readsAnd : ByteArray := prog_5_method_10_code
def yX3_readsAnd : MethodName := ⟨RX3, "readsAnd", "(I)Z"⟩
abbrev cX3_readsNot : ByteArray := prog_5_method_11_code
def yX3_readsNot : MethodName := ⟨RX3, "readsNot", "(I)Z"⟩
abbrev cX3_readsNotBehindNot : ByteArray := prog_5_method_12_code
def yX3_readsNotBehindNot : MethodName := ⟨RX3, "readsNotBehindNot", "(I)Z"⟩
abbrev cX3_readsSum : ByteArray := prog_5_method_13_code
def yX3_readsSum : MethodName := ⟨RX3, "readsSum", "(I)Z"⟩
abbrev cX3_readsTerm : ByteArray := prog_5_method_14_code
def yX3_readsTerm : MethodName := ⟨RX3, "readsTerm", "(I)Z"⟩
abbrev cX3_readsOne : ByteArray := prog_5_method_15_code
def yX3_readsOne : MethodName := ⟨RX3, "readsOne", "(I)Z"⟩
abbrev cX3_readsOneBehindMinus : ByteArray := prog_5_method_16_code
def yX3_readsOneBehindMinus : MethodName := ⟨RX3, "readsOneBehindMinus", "(I)Z"⟩
abbrev cX3_next : ByteArray := prog_5_method_17_code
def yX3_next : MethodName := ⟨RX3, "next", "()V"⟩
abbrev cX3_nextWord : ByteArray := prog_5_method_18_code
def yX3_nextWord : MethodName := ⟨RX3, "nextWord", "()V"⟩
abbrev cX3_spells : ByteArray := prog_5_method_19_code
def yX3_spells : MethodName := ⟨RX3, "spells", "(II)Z"⟩
abbrev cX3_nextNumber : ByteArray := prog_5_method_20_code
def yX3_nextNumber : MethodName := ⟨RX3, "nextNumber", "()V"⟩
abbrev cX3_isBlank : ByteArray := prog_5_method_21_code
def yX3_isBlank : MethodName := ⟨RX3, "isBlank", "(I)Z"⟩
abbrev cX3_isLetter : ByteArray := prog_5_method_22_code
def yX3_isLetter : MethodName := ⟨RX3, "isLetter", "(I)Z"⟩
abbrev cX3_isDigit : ByteArray := prog_5_method_23_code
def yX3_isDigit : MethodName := ⟨RX3, "isDigit", "(I)Z"⟩
abbrev cX3_isSign : ByteArray := prog_5_method_24_code
def yX3_isSign : MethodName := ⟨RX3, "isSign", "(I)Z"⟩
def RX4 : String := "SalvageOfDays$Text"
def TX4 : u_T := fun k => match k with
  | 0 => ("SalvageOfDays$Text", "number", "I", true)
  | 1 => ("SalvageOfDays$Text", "steps", "[I", true)
  | 2 => ("SalvageOfDays$Text", "stepCount", "I", false)
  | 3 => ("SalvageOfDays$Text", "ends", "[I", true)
  | 4 => ("SalvageOfDays$Text", "named", "[I", true)
  | _ => ("SalvageOfDays$Text", "stack", "[I", true)
def tyX4 : Nat → FieldType := fun k => match k with
  | 0 => .int
  | 1 => .array .int
  | 2 => .int
  | 3 => .array .int
  | 4 => .array .int
  | _ => .array .int
abbrev wsX40 : List Cond := u_ws RX4 TX4 6
theorem nmX4 : ∀ a, a < 6 → ∀ b, b < 6 → a ≠ b → (TX4 a).2.1 ≠ (TX4 b).2.1 := by decide +kernel
theorem tyX4_ok : ∀ k, k < 6 → parseFieldDescriptor (TX4 k).2.2.1 = some (tyX4 k) := by decide +kernel
abbrev cX4_init : ByteArray := prog_6_method_1_code
def yX4_init : MethodName := ⟨RX4, "<init>", "(I)V"⟩
abbrev cX4_clear : ByteArray := prog_6_method_2_code
def yX4_clear : MethodName := ⟨RX4, "clear", "()V"⟩
abbrev cX4_add : ByteArray := prog_6_method_3_code
def yX4_add : MethodName := ⟨RX4, "add", "(I)V"⟩
abbrev cX4_endPart : ByteArray := prog_6_method_4_code
def yX4_endPart : MethodName := ⟨RX4, "endPart", "(I)V"⟩
abbrev cX4_says : ByteArray := prog_6_method_5_code
def yX4_says : MethodName := ⟨RX4, "says", "(IIIIIII)I"⟩
abbrev cX4_joined : ByteArray := prog_6_method_6_code
def yX4_joined : MethodName := ⟨RX4, "joined", "(III)I"⟩
def RX5 : String := "SalvageOfDays"
def TX5 : u_T := fun k => match k with
  | 0 => ("SalvageOfDays", "tape", "LSalvageOfDays$Tape;", true)
  | 1 => ("SalvageOfDays", "texts", "[LSalvageOfDays$Text;", true)
  | 2 => ("SalvageOfDays", "textCount", "I", false)
  | 3 => ("SalvageOfDays", "sheets", "[LSalvageOfDays$Sheet;", true)
  | 4 => ("SalvageOfDays", "truth", "LSalvageOfDays$Scene;", true)
  | 5 => ("SalvageOfDays", "thought", "LSalvageOfDays$Scene;", true)
  | 6 => ("SalvageOfDays", "kept", "LSalvageOfDays$Scene;", true)
  | _ => ("SalvageOfDays", "isKept", "Z", false)
def tyX5 : Nat → FieldType := fun k => match k with
  | 0 => .object "SalvageOfDays$Tape"
  | 1 => .array (.object "SalvageOfDays$Text")
  | 2 => .int
  | 3 => .array (.object "SalvageOfDays$Sheet")
  | 4 => .object "SalvageOfDays$Scene"
  | 5 => .object "SalvageOfDays$Scene"
  | 6 => .object "SalvageOfDays$Scene"
  | _ => .boolean
abbrev wsX50 : List Cond := u_ws RX5 TX5 8
theorem nmX5 : ∀ a, a < 8 → ∀ b, b < 8 → a ≠ b → (TX5 a).2.1 ≠ (TX5 b).2.1 := by decide +kernel
theorem tyX5_ok : ∀ k, k < 8 → parseFieldDescriptor (TX5 k).2.2.1 = some (tyX5 k) := by decide +kernel
abbrev cX5_init : ByteArray := prog_1_method_1_code
def yX5_init : MethodName := ⟨RX5, "<init>", "()V"⟩
abbrev cX5_count : ByteArray := prog_1_method_2_code
def yX5_count : MethodName := ⟨RX5, "count", "(I)I"⟩
abbrev cX5_cask : ByteArray := prog_1_method_3_code
def yX5_cask : MethodName := ⟨RX5, "cask", "(III)I"⟩
abbrev cX5_lies : ByteArray := prog_1_method_4_code
def yX5_lies : MethodName := ⟨RX5, "lies", "(II)I"⟩
abbrev cX5_sky : ByteArray := prog_1_method_5_code
def yX5_sky : MethodName := ⟨RX5, "sky", "(II)I"⟩
abbrev cX5_setHour : ByteArray := prog_1_method_6_code
def yX5_setHour : MethodName := ⟨RX5, "setHour", "(I)I"⟩
abbrev cX5_feed : ByteArray := prog_1_method_7_code
def yX5_feed : MethodName := ⟨RX5, "feed", "(IIIIII)I"⟩
abbrev cX5_areBytes : ByteArray := prog_1_method_8_code
def yX5_areBytes : MethodName := ⟨RX5, "areBytes", "(IIIII)Z"⟩
abbrev cX5_text : ByteArray := prog_1_method_9_code
def yX5_text : MethodName := ⟨RX5, "text", "()I"⟩
abbrev cX5_force : ByteArray := prog_1_method_10_code
def yX5_force : MethodName := ⟨RX5, "force", "(I)I"⟩
abbrev cX5_diver : ByteArray := prog_1_method_12_code
def yX5_diver : MethodName := ⟨RX5, "diver", "(II)I"⟩
abbrev cX5_put : ByteArray := prog_1_method_13_code
def yX5_put : MethodName := ⟨RX5, "put", "(II)I"⟩
abbrev cX5_told : ByteArray := prog_1_method_14_code
def yX5_told : MethodName := ⟨RX5, "told", "(II)I"⟩
abbrev cX5_dives : ByteArray := prog_1_method_15_code
def yX5_dives : MethodName := ⟨RX5, "dives", "(III)I"⟩
abbrev cX5_dive : ByteArray := prog_1_method_16_code
def yX5_dive : MethodName := ⟨RX5, "dive", "(II)I"⟩
abbrev cX5_open : ByteArray := prog_1_method_17_code
def yX5_open : MethodName := ⟨RX5, "open", "(I)I"⟩
abbrev cX5_hour : ByteArray := prog_1_method_18_code
def yX5_hour : MethodName := ⟨RX5, "hour", "()I"⟩
abbrev cX5_bay : ByteArray := prog_1_method_19_code
def yX5_bay : MethodName := ⟨RX5, "bay", "(I)I"⟩
abbrev cX5_run : ByteArray := prog_1_method_20_code
def yX5_run : MethodName := ⟨RX5, "run", "(II)I"⟩
abbrev cX5_which : ByteArray := prog_1_method_25_code
def yX5_which : MethodName := ⟨RX5, "which", "(II)I"⟩
abbrev cX5_fairBehind : ByteArray := prog_1_method_26_code
def yX5_fairBehind : MethodName := ⟨RX5, "fairBehind", "(II)I"⟩
abbrev cX5_cargo : ByteArray := prog_1_method_27_code
def yX5_cargo : MethodName := ⟨RX5, "cargo", "(II)I"⟩
abbrev cX5_last : ByteArray := prog_1_method_28_code
def yX5_last : MethodName := ⟨RX5, "last", "(III)I"⟩
abbrev cX5_mostLeft : ByteArray := prog_1_method_29_code
def yX5_mostLeft : MethodName := ⟨RX5, "mostLeft", "(LSalvageOfDays$Scene;III)I"⟩
abbrev cX5_best : ByteArray := prog_1_method_30_code
def yX5_best : MethodName := ⟨RX5, "best", "(I)I"⟩
abbrev cX5_isWithin : ByteArray := prog_1_method_53_code
def yX5_isWithin : MethodName := ⟨RX5, "isWithin", "(II)Z"⟩
abbrev cX5_isSort : ByteArray := prog_1_method_54_code
def yX5_isSort : MethodName := ⟨RX5, "isSort", "(I)Z"⟩
abbrev cX5_isCask : ByteArray := prog_1_method_55_code
def yX5_isCask : MethodName := ⟨RX5, "isCask", "(I)Z"⟩
abbrev cX5_isDiver : ByteArray := prog_1_method_57_code
def yX5_isDiver : MethodName := ⟨RX5, "isDiver", "(I)Z"⟩
def RX6 : String := "SalvageOfDaysModel"
def TX6 : u_T := fun k => match k with
  | _ => ("", "", "", false)
def tyX6 : Nat → FieldType := fun k => match k with
  | _ => .int
abbrev wsX60 : List Cond := u_ws RX6 TX6 0
theorem nmX6 : ∀ a, a < 0 → ∀ b, b < 0 → a ≠ b → (TX6 a).2.1 ≠ (TX6 b).2.1 := by decide +kernel
theorem tyX6_ok : ∀ k, k < 0 → parseFieldDescriptor (TX6 k).2.2.1 = some (tyX6 k) := by decide +kernel
def RJ5 : String := "java/lang/AbstractStringBuilder"
def TJ5 : u_T := fun k => match k with
  | _ => ("", "", "", false)
def tyJ5 : Nat → FieldType := fun k => match k with
  | _ => .int
abbrev wsJ50 : List Cond := u_ws RJ5 TJ5 0
theorem nmJ5 : ∀ a, a < 0 → ∀ b, b < 0 → a ≠ b → (TJ5 a).2.1 ≠ (TJ5 b).2.1 := by decide +kernel
theorem tyJ5_ok : ∀ k, k < 0 → parseFieldDescriptor (TJ5 k).2.2.1 = some (tyJ5 k) := by decide +kernel
abbrev cJ5_init_d00df : ByteArray := prog_9_method_2_code
def yJ5_init_d00df : MethodName := ⟨RJ5, "<init>", "(I)V"⟩
abbrev cJ5_length_8abf5 : ByteArray := prog_9_method_6_code
def yJ5_length_8abf5 : MethodName := ⟨RJ5, "length", "()I"⟩
abbrev cJ5_ensureCapacityInternal_d00df : ByteArray := prog_9_method_9_code
def yJ5_ensureCapacityInternal_d00df : MethodName := ⟨RJ5, "ensureCapacityInternal", "(I)V"⟩
abbrev cJ5_newCapacity_0f7a4 : ByteArray := prog_9_method_10_code
def yJ5_newCapacity_0f7a4 : MethodName := ⟨RJ5, "newCapacity", "(I)I"⟩
abbrev cJ5_inflate_da8c8 : ByteArray := prog_9_method_11_code
def yJ5_inflate_da8c8 : MethodName := ⟨RJ5, "inflate", "()V"⟩
abbrev cJ5_append_cf1ce : ByteArray := prog_9_method_22_code
def yJ5_append_cf1ce : MethodName := ⟨RJ5, "append", "(Ljava/lang/String;)Ljava/lang/AbstractStringBuilder;"⟩
abbrev cJ5_appendNull_278bc : ByteArray := prog_9_method_26_code
def yJ5_appendNull_278bc : MethodName := ⟨RJ5, "appendNull", "()Ljava/lang/AbstractStringBuilder;"⟩
abbrev cJ5_append_c97b9 : ByteArray := prog_9_method_32_code
def yJ5_append_c97b9 : MethodName := ⟨RJ5, "append", "(I)Ljava/lang/AbstractStringBuilder;"⟩
abbrev cJ5_getValue_6d5f1 : ByteArray := prog_9_method_64_code
def yJ5_getValue_6d5f1 : MethodName := ⟨RJ5, "getValue", "()[B"⟩
abbrev cJ5_isLatin1_aae02 : ByteArray := prog_9_method_68_code
def yJ5_isLatin1_aae02 : MethodName := ⟨RJ5, "isLatin1", "()Z"⟩
abbrev cJ5_inflateIfNeededFor_a7421 : ByteArray := prog_9_method_71_code
def yJ5_inflateIfNeededFor_a7421 : MethodName := ⟨RJ5, "inflateIfNeededFor", "(Ljava/lang/String;)V"⟩
abbrev cJ5_putStringAt_47b60 : ByteArray := prog_9_method_73_code
def yJ5_putStringAt_47b60 : MethodName := ⟨RJ5, "putStringAt", "(ILjava/lang/String;)V"⟩
def RJ6 : String := "java/lang/Integer"
def TJ6 : u_T := fun k => match k with
  | _ => ("", "", "", false)
def tyJ6 : Nat → FieldType := fun k => match k with
  | _ => .int
abbrev wsJ60 : List Cond := u_ws RJ6 TJ6 0
theorem nmJ6 : ∀ a, a < 0 → ∀ b, b < 0 → a ≠ b → (TJ6 a).2.1 ≠ (TJ6 b).2.1 := by decide +kernel
theorem tyJ6_ok : ∀ k, k < 0 → parseFieldDescriptor (TJ6 k).2.2.1 = some (tyJ6 k) := by decide +kernel
abbrev cJ6_getChars_ba4f3 : ByteArray := prog_11_method_12_code
def yJ6_getChars_ba4f3 : MethodName := ⟨RJ6, "getChars", "(II[B)I"⟩
abbrev cJ6_stringSize_0f7a4 : ByteArray := prog_11_method_13_code
def yJ6_stringSize_0f7a4 : MethodName := ⟨RJ6, "stringSize", "(I)I"⟩
abbrev cJ6_bitCount_0f7a4 : ByteArray := prog_11_method_49_code
def yJ6_bitCount_0f7a4 : MethodName := ⟨RJ6, "bitCount", "(I)I"⟩
def RJ9 : String := "java/lang/Math"
def TJ9 : u_T := fun k => match k with
  | _ => ("", "", "", false)
def tyJ9 : Nat → FieldType := fun k => match k with
  | _ => .int
abbrev wsJ90 : List Cond := u_ws RJ9 TJ9 0
theorem nmJ9 : ∀ a, a < 0 → ∀ b, b < 0 → a ≠ b → (TJ9 a).2.1 ≠ (TJ9 b).2.1 := by decide +kernel
theorem tyJ9_ok : ∀ k, k < 0 → parseFieldDescriptor (TJ9 k).2.2.1 = some (tyJ9 k) := by decide +kernel
abbrev cJ9_max_7cf53 : ByteArray := prog_12_method_65_code
def yJ9_max_7cf53 : MethodName := ⟨RJ9, "max", "(II)I"⟩
abbrev cJ9_max_f86c9 : ByteArray := prog_12_method_66_code
def yJ9_max_f86c9 : MethodName := ⟨RJ9, "max", "(JJ)J"⟩
abbrev cJ9_min_7cf53 : ByteArray := prog_12_method_69_code
def yJ9_min_7cf53 : MethodName := ⟨RJ9, "min", "(II)I"⟩
abbrev cJ9_min_f86c9 : ByteArray := prog_12_method_70_code
def yJ9_min_f86c9 : MethodName := ⟨RJ9, "min", "(JJ)J"⟩
def RJ0 : String := "java/lang/String"
def TJ0 : u_T := fun k => match k with
  | 0 => ("java/lang/String", "value", "[B", true)
  | 1 => ("java/lang/String", "coder", "B", true)
  | 2 => ("java/lang/String", "hash", "I", false)
  | _ => ("java/lang/String", "hashIsZero", "Z", false)
def tyJ0 : Nat → FieldType := fun k => match k with
  | 0 => .array .byte
  | 1 => .byte
  | 2 => .int
  | _ => .boolean
abbrev wsJ00 : List Cond := u_ws RJ0 TJ0 4
theorem nmJ0 : ∀ a, a < 4 → ∀ b, b < 4 → a ≠ b → (TJ0 a).2.1 ≠ (TJ0 b).2.1 := by decide +kernel
theorem tyJ0_ok : ∀ k, k < 4 → parseFieldDescriptor (TJ0 k).2.2.1 = some (tyJ0 k) := by decide +kernel
abbrev cJ0_init_81219 : ByteArray := prog_14_method_53_code
def yJ0_init_81219 : MethodName := ⟨RJ0, "<init>", "(Ljava/lang/StringBuilder;)V"⟩
abbrev cJ0_length_8abf5 : ByteArray := prog_14_method_54_code
def yJ0_length_8abf5 : MethodName := ⟨RJ0, "length", "()I"⟩
abbrev cJ0_charAt_5068e : ByteArray := prog_14_method_56_code
def yJ0_charAt_5068e : MethodName := ⟨RJ0, "charAt", "(I)C"⟩
abbrev cJ0_getBytes_840e7 : ByteArray := prog_14_method_147_code
def yJ0_getBytes_840e7 : MethodName := ⟨RJ0, "getBytes", "([BIB)V"⟩
abbrev cJ0_init_db425 : ByteArray := prog_14_method_150_code
def yJ0_init_db425 : MethodName := ⟨RJ0, "<init>", "(Ljava/lang/AbstractStringBuilder;Ljava/lang/Void;)V"⟩
abbrev cJ0_coder_7d493 : ByteArray := prog_14_method_152_code
def yJ0_coder_7d493 : MethodName := ⟨RJ0, "coder", "()B"⟩
abbrev cJ0_isLatin1_aae02 : ByteArray := prog_14_method_154_code
def yJ0_isLatin1_aae02 : MethodName := ⟨RJ0, "isLatin1", "()Z"⟩
abbrev cJ0_checkIndex_df160 : ByteArray := prog_14_method_155_code
def yJ0_checkIndex_df160 : MethodName := ⟨RJ0, "checkIndex", "(II)V"⟩
abbrev cJ0_checkBoundsOffCount_cabcc : ByteArray := prog_14_method_157_code
def yJ0_checkBoundsOffCount_cabcc : MethodName := ⟨RJ0, "checkBoundsOffCount", "(III)I"⟩
abbrev cJ0_checkBoundsBeginEnd_23922 : ByteArray := prog_14_method_158_code
def yJ0_checkBoundsBeginEnd_23922 : MethodName := ⟨RJ0, "checkBoundsBeginEnd", "(III)V"⟩
def RJ4 : String := "java/lang/StringBuilder"
def TJ4 : u_T := fun k => match k with
  | 0 => ("java/lang/AbstractStringBuilder", "value", "[B", false)
  | 1 => ("java/lang/AbstractStringBuilder", "coder", "B", false)
  | 2 => ("java/lang/AbstractStringBuilder", "maybeLatin1", "Z", false)
  | _ => ("java/lang/AbstractStringBuilder", "count", "I", false)
def tyJ4 : Nat → FieldType := fun k => match k with
  | 0 => .array .byte
  | 1 => .byte
  | 2 => .boolean
  | _ => .int
abbrev wsJ40 : List Cond := u_ws RJ4 TJ4 4
theorem nmJ4 : ∀ a, a < 4 → ∀ b, b < 4 → a ≠ b → (TJ4 a).2.1 ≠ (TJ4 b).2.1 := by decide +kernel
theorem tyJ4_ok : ∀ k, k < 4 → parseFieldDescriptor (TJ4 k).2.2.1 = some (tyJ4 k) := by decide +kernel
abbrev cJ4_init_da8c8 : ByteArray := prog_15_method_1_code
def yJ4_init_da8c8 : MethodName := ⟨RJ4, "<init>", "()V"⟩
abbrev cJ4_append_15ec4 : ByteArray := prog_15_method_7_code
def yJ4_append_15ec4 : MethodName := ⟨RJ4, "append", "(Ljava/lang/String;)Ljava/lang/StringBuilder;"⟩
abbrev cJ4_append_bf812 : ByteArray := prog_15_method_15_code
def yJ4_append_bf812 : MethodName := ⟨RJ4, "append", "(I)Ljava/lang/StringBuilder;"⟩
abbrev cJ4_toString_0e30d : ByteArray := prog_15_method_42_code
def yJ4_toString_0e30d : MethodName := ⟨RJ4, "toString", "()Ljava/lang/String;"⟩
abbrev cJ4_length_8abf5 : ByteArray := prog_15_method_93_code
def yJ4_length_8abf5 : MethodName := ⟨RJ4, "length", "()I"⟩
def RJ1 : String := "java/lang/StringLatin1"
def TJ1 : u_T := fun k => match k with
  | _ => ("", "", "", false)
def tyJ1 : Nat → FieldType := fun k => match k with
  | _ => .int
abbrev wsJ10 : List Cond := u_ws RJ1 TJ1 0
theorem nmJ1 : ∀ a, a < 0 → ∀ b, b < 0 → a ≠ b → (TJ1 a).2.1 ≠ (TJ1 b).2.1 := by decide +kernel
theorem tyJ1_ok : ∀ k, k < 0 → parseFieldDescriptor (TJ1 k).2.2.1 = some (tyJ1 k) := by decide +kernel
abbrev cJ1_charAt_3b067 : ByteArray := prog_16_method_2_code
def yJ1_charAt_3b067 : MethodName := ⟨RJ1, "charAt", "([BI)C"⟩
abbrev cJ1_inflate_0e8fd : ByteArray := prog_16_method_50_code
def yJ1_inflate_0e8fd : MethodName := ⟨RJ1, "inflate", "([BI[BII)V"⟩
def RJ2 : String := "java/lang/StringUTF16"
def TJ2 : u_T := fun k => match k with
  | _ => ("", "", "", false)
def tyJ2 : Nat → FieldType := fun k => match k with
  | _ => .int
abbrev wsJ20 : List Cond := u_ws RJ2 TJ2 0
theorem nmJ2 : ∀ a, a < 0 → ∀ b, b < 0 → a ≠ b → (TJ2 a).2.1 ≠ (TJ2 b).2.1 := by decide +kernel
theorem tyJ2_ok : ∀ k, k < 0 → parseFieldDescriptor (TJ2 k).2.2.1 = some (tyJ2 k) := by decide +kernel
abbrev cJ2_newBytesFor_77867 : ByteArray := prog_17_method_2_code
def yJ2_newBytesFor_77867 : MethodName := ⟨RJ2, "newBytesFor", "(I)[B"⟩
abbrev cJ2_newBytesLength_0f7a4 : ByteArray := prog_17_method_3_code
def yJ2_newBytesLength_0f7a4 : MethodName := ⟨RJ2, "newBytesLength", "(I)I"⟩
abbrev cJ2_putChar_b72d1 : ByteArray := prog_17_method_4_code
def yJ2_putChar_b72d1 : MethodName := ⟨RJ2, "putChar", "([BII)V"⟩
abbrev cJ2_getChar_3b067 : ByteArray := prog_17_method_5_code
def yJ2_getChar_3b067 : MethodName := ⟨RJ2, "getChar", "([BI)C"⟩
abbrev cJ2_length_9d52b : ByteArray := prog_17_method_6_code
def yJ2_length_9d52b : MethodName := ⟨RJ2, "length", "([B)I"⟩
abbrev cJ2_coderFromArrayLen_85cad : ByteArray := prog_17_method_15_code
def yJ2_coderFromArrayLen_85cad : MethodName := ⟨RJ2, "coderFromArrayLen", "([BI)B"⟩
abbrev cJ2_compress_39247 : ByteArray := prog_17_method_17_code
def yJ2_compress_39247 : MethodName := ⟨RJ2, "compress", "([BII)[B"⟩
abbrev cJ2_compress_5af95 : ByteArray := prog_17_method_22_code
def yJ2_compress_5af95 : MethodName := ⟨RJ2, "compress", "([BI[BII)I"⟩
abbrev cJ2_getChars_46870 : ByteArray := prog_17_method_77_code
def yJ2_getChars_46870 : MethodName := ⟨RJ2, "getChars", "(III[B)I"⟩
abbrev cJ2_putCharsAt_cd4e5 : ByteArray := prog_17_method_81_code
def yJ2_putCharsAt_cd4e5 : MethodName := ⟨RJ2, "putCharsAt", "([BICCCC)I"⟩
abbrev cJ2_charAt_3b067 : ByteArray := prog_17_method_83_code
def yJ2_charAt_3b067 : MethodName := ⟨RJ2, "charAt", "([BI)C"⟩
abbrev cJ2_inflate_0e8fd : ByteArray := prog_17_method_86_code
def yJ2_inflate_0e8fd : MethodName := ⟨RJ2, "inflate", "([BI[BII)V"⟩
abbrev cJ2_getChars_ba4f3 : ByteArray := prog_17_method_89_code
def yJ2_getChars_ba4f3 : MethodName := ⟨RJ2, "getChars", "(II[B)I"⟩
abbrev cJ2_checkIndex_2214a : ByteArray := prog_17_method_91_code
def yJ2_checkIndex_2214a : MethodName := ⟨RJ2, "checkIndex", "(I[B)V"⟩
abbrev cJ2_checkBoundsBeginEnd_d044e : ByteArray := prog_17_method_93_code
def yJ2_checkBoundsBeginEnd_d044e : MethodName := ⟨RJ2, "checkBoundsBeginEnd", "(II[B)V"⟩
abbrev cJ2_checkBoundsOffCount_d044e : ByteArray := prog_17_method_94_code
def yJ2_checkBoundsOffCount_d044e : MethodName := ⟨RJ2, "checkBoundsOffCount", "(II[B)V"⟩
def RJ10 : String := "java/lang/System"
def TJ10 : u_T := fun k => match k with
  | _ => ("", "", "", false)
def tyJ10 : Nat → FieldType := fun k => match k with
  | _ => .int
theorem nmJ10 : ∀ a, a < 0 → ∀ b, b < 0 → a ≠ b → (TJ10 a).2.1 ≠ (TJ10 b).2.1 := by decide +kernel
theorem tyJ10_ok : ∀ k, k < 0 → parseFieldDescriptor (TJ10 k).2.2.1 = some (tyJ10 k) := by decide +kernel
def RJ7 : String := "java/util/Arrays"
def TJ7 : u_T := fun k => match k with
  | _ => ("", "", "", false)
def tyJ7 : Nat → FieldType := fun k => match k with
  | _ => .int
abbrev wsJ70 : List Cond := u_ws RJ7 TJ7 0
theorem nmJ7 : ∀ a, a < 0 → ∀ b, b < 0 → a ≠ b → (TJ7 a).2.1 ≠ (TJ7 b).2.1 := by decide +kernel
theorem tyJ7_ok : ∀ k, k < 0 → parseFieldDescriptor (TJ7 k).2.2.1 = some (tyJ7 k) := by decide +kernel
abbrev cJ7_copyOf_9075b : ByteArray := prog_19_method_121_code
def yJ7_copyOf_9075b : MethodName := ⟨RJ7, "copyOf", "([BI)[B"⟩
abbrev cJ7_checkLength_df160 : ByteArray := prog_19_method_131_code
def yJ7_checkLength_df160 : MethodName := ⟨RJ7, "checkLength", "(II)V"⟩
abbrev cJ7_copyOfRange_39247 : ByteArray := prog_19_method_132_code
def yJ7_copyOfRange_39247 : MethodName := ⟨RJ7, "copyOfRange", "([BII)[B"⟩
abbrev cJ7_copyOfRangeByte_39247 : ByteArray := prog_19_method_133_code
def yJ7_copyOfRangeByte_39247 : MethodName := ⟨RJ7, "copyOfRangeByte", "([BII)[B"⟩
def RJ8 : String := "jdk/internal/util/ArraysSupport"
def TJ8 : u_T := fun k => match k with
  | _ => ("", "", "", false)
def tyJ8 : Nat → FieldType := fun k => match k with
  | _ => .int
abbrev wsJ80 : List Cond := u_ws RJ8 TJ8 0
theorem nmJ8 : ∀ a, a < 0 → ∀ b, b < 0 → a ≠ b → (TJ8 a).2.1 ≠ (TJ8 b).2.1 := by decide +kernel
theorem tyJ8_ok : ∀ k, k < 0 → parseFieldDescriptor (TJ8 k).2.2.1 = some (tyJ8 k) := by decide +kernel
abbrev cJ8_newLength_cabcc : ByteArray := prog_20_method_27_code
def yJ8_newLength_cabcc : MethodName := ⟨RJ8, "newLength", "(III)I"⟩
abbrev cJ8_hugeLength_7cf53 : ByteArray := prog_20_method_28_code
def yJ8_hugeLength_7cf53 : MethodName := ⟨RJ8, "hugeLength", "(II)I"⟩
def RJ3 : String := "jdk/internal/util/Preconditions"
def TJ3 : u_T := fun k => match k with
  | _ => ("", "", "", false)
def tyJ3 : Nat → FieldType := fun k => match k with
  | _ => .int
abbrev wsJ30 : List Cond := u_ws RJ3 TJ3 0
theorem nmJ3 : ∀ a, a < 0 → ∀ b, b < 0 → a ≠ b → (TJ3 a).2.1 ≠ (TJ3 b).2.1 := by decide +kernel
theorem tyJ3_ok : ∀ k, k < 0 → parseFieldDescriptor (TJ3 k).2.2.1 = some (tyJ3 k) := by decide +kernel
abbrev cJ3_checkIndex_8e157 : ByteArray := prog_21_method_11_code
def yJ3_checkIndex_8e157 : MethodName := ⟨RJ3, "checkIndex", "(IILjava/util/function/BiFunction;)I"⟩
abbrev cJ3_checkFromToIndex_8c36e : ByteArray := prog_21_method_12_code
def yJ3_checkFromToIndex_8c36e : MethodName := ⟨RJ3, "checkFromToIndex", "(IIILjava/util/function/BiFunction;)I"⟩
abbrev cJ3_checkFromIndexSize_8c36e : ByteArray := prog_21_method_13_code
def yJ3_checkFromIndexSize_8c36e : MethodName := ⟨RJ3, "checkFromIndexSize", "(IIILjava/util/function/BiFunction;)I"⟩
def RL : String := "SalvageOfDaysLaw"
abbrev cL_at : ByteArray := method_2_code
def yL_at : MethodName := ⟨RL, "at", "([II)I"⟩
abbrev cL_text : ByteArray := method_3_code
def yL_text : MethodName := ⟨RL, "text", "(LSalvageOfDays;Ljava/lang/String;)V"⟩
abbrev cL_build : ByteArray := method_4_code
def yL_build : MethodName := ⟨RL, "build", "([I)LSalvageOfDays;"⟩
abbrev cL_plain : ByteArray := method_5_code
def yL_plain : MethodName := ⟨RL, "plain", "([I)Z"⟩
abbrev cL_many : ByteArray := method_6_code
def yL_many : MethodName := ⟨RL, "many", "([I)I"⟩
abbrev cL_hour : ByteArray := method_7_code
def yL_hour : MethodName := ⟨RL, "hour", "([I)I"⟩
abbrev cL_sky : ByteArray := method_8_code
def yL_sky : MethodName := ⟨RL, "sky", "([II)I"⟩
abbrev cL_cask : ByteArray := method_9_code
def yL_cask : MethodName := ⟨RL, "cask", "([III)I"⟩
abbrev cL_kind : ByteArray := method_10_code
def yL_kind : MethodName := ⟨RL, "kind", "([II)I"⟩
abbrev cL_more : ByteArray := method_11_code
def yL_more : MethodName := ⟨RL, "more", "([II)I"⟩
abbrev cL_breath : ByteArray := method_12_code
def yL_breath : MethodName := ⟨RL, "breath", "([II)I"⟩
abbrev cL_held : ByteArray := method_13_code
def yL_held : MethodName := ⟨RL, "held", "(JII)I"⟩
abbrev cL_start : ByteArray := method_14_code
def yL_start : MethodName := ⟨RL, "start", "([I[J)V"⟩
abbrev cL_reaches : ByteArray := method_15_code
def yL_reaches : MethodName := ⟨RL, "reaches", "([I[JII)J"⟩
abbrev cL_costs : ByteArray := method_16_code
def yL_costs : MethodName := ⟨RL, "costs", "([I[JII)J"⟩
abbrev cL_breathes : ByteArray := method_17_code
def yL_breathes : MethodName := ⟨RL, "breathes", "([JI)J"⟩
abbrev cL_can : ByteArray := method_18_code
def yL_can : MethodName := ⟨RL, "can", "([I[JII)Z"⟩
abbrev cL_cans : ByteArray := method_19_code
def yL_cans : MethodName := ⟨RL, "cans", "([I[JI)I"⟩
abbrev cL_dive : ByteArray := method_20_code
def yL_dive : MethodName := ⟨RL, "dive", "([I[JII)Z"⟩
abbrev cL_open : ByteArray := method_21_code
def yL_open : MethodName := ⟨RL, "open", "([JI)Z"⟩
abbrev cL_fair : ByteArray := method_22_code
def yL_fair : MethodName := ⟨RL, "fair", "([J)J"⟩
abbrev cL_first : ByteArray := method_23_code
def yL_first : MethodName := ⟨RL, "first", "([J)I"⟩
abbrev cL_pass : ByteArray := method_24_code
def yL_pass : MethodName := ⟨RL, "pass", "([I[J)I"⟩
abbrev cL_same : ByteArray := method_26_code
def yL_same : MethodName := ⟨RL, "same", "([I[JLSalvageOfDays;)Z"⟩
abbrev cL_law : ByteArray := code
def yL_law : MethodName := ⟨RL, "law", "([I)Z"⟩
abbrev vwCl : List vw_C := [(RJ0, TJ0, 4), (RJ4, TJ4, 4), (RX1, TX1, 12), (RX2, TX2, 3), (RX3, TX3, 7), (RX4, TX4, 6), (RX5, TX5, 8)]

/-- a private method of a class above, asked of an object of a class below -/
theorem sel_sub {C : String} {y z : MethodName} {s : State} {args : Array Value} {n : Nat} (hy : y.cls ≠ "java/lang/invoke/MethodHandle" ∧ y.cls ≠ "java/lang/invoke/VarHandle") (hz : z.cls = y.cls) (hiz : (Cond.instanceMethod z).before args s = true) (hsz : (Cond.selects C z z).before args s = true)
    (hins : (Cond.instantiable C n).before args s = true) (hpriv : (Cond.privateMethod y).before args s = true) (hinst : (Cond.instanceMethod y).before args s = true) :
    (Cond.selects C y y).before args s = true := by
  obtain ⟨c, k, hc, hk, -, hniab, -, -⟩ := Cond.instantiable_spec hins
  have hni : k.isInterface = false := (Bool.or_eq_false_iff.mp hniab).1
  obtain ⟨mk, methM, hnamed, hmethM, -, -⟩ := Cond.instanceMethod_spec hinst
  have hfound : s.methodFound? y.cls y.name y.desc = some mk := State.methodFound?_of_named hnamed hy
  have hsel : selectMethod {} s.vm c mk = .method mk := selectMethod_private hmethM (Cond.privateMethod_at hpriv mk methM hnamed hmethM)
  obtain ⟨mz, methZ, hnz, hmz, -, -⟩ := Cond.instanceMethod_spec hiz
  have hfz : s.methodFound? z.cls z.name z.desc = some mz := State.methodFound?_of_named hnz (by rw [hz]; exact hy)
  have hcz : mz.cls = mk.cls := by
    have h1 := findClass_of_methodNamed hnz
    have h2 := findClass_of_methodNamed hnamed
    rw [hz] at h1
    exact Option.some.inj (h1.symm.trans h2)
  simp only [Cond.before, Cond.holds, Cond.value, hc, hfz, hnz] at hsz
  simp only [Cond.before, Cond.holds, Cond.value, hc, hfound, hnamed, hsel, hk]
  rw [← hcz]
  have hany : Option.any (fun x => !x.isInterface) s.vm.classes[mz.cls]? = true := by
    cases hq : selectMethod {} s.vm c mz with
    | method m2 => rw [hq] at hsz; simp at hsz; exact hsz.2
    | _ => rw [hq] at hsz; simp at hsz
  simpa using hany
def ySB : List MethodName := [yJ5_ensureCapacityInternal_d00df, yJ5_newCapacity_0f7a4, yJ5_putStringAt_47b60, yJ5_inflateIfNeededFor_a7421]
def selSB : List Cond := ySB.map fun y => Cond.selects RJ4 y y
/-- the tables' words that stay good in every call -/
def TT : List Cond := lw_tbl.filter goodWord ++ selSB
theorem TT_of {w : Cond} {i : Nat} (h : lw_tbl[i]? = some w) (g : goodWord w = true) : w ∈ TT := List.mem_append_left _ (List.mem_filter.mpr ⟨List.mem_of_getElem? h, g⟩)
theorem TT_sb {w : Cond} (h : w ∈ selSB) : w ∈ TT := List.mem_append_right _ h
theorem TT_good : GoodIn TT TT := fun w h => ⟨h, (List.mem_append.mp h).elim (fun h => good_of_word (List.mem_filter.mp h).2) (fun h => by
  obtain ⟨y, -, rfl⟩ := List.mem_map.mp h
  exact good_of_word rfl)⟩
def okSB (y : MethodName) : Prop := (y.cls ≠ "java/lang/invoke/MethodHandle" ∧ y.cls ≠ "java/lang/invoke/VarHandle") ∧ Cond.privateMethod y ∈ lw_tbl ∧ Cond.instanceMethod y ∈ lw_tbl
theorem ySB_ok : ∀ y ∈ ySB, y.cls = RJ5 ∧ okSB y := List.forall_mem_cons.mpr ⟨⟨rfl, by decide +kernel, List.mem_of_getElem? (i := 628) (by decide +kernel), List.mem_of_getElem? (i := 629) (by decide +kernel)⟩, List.forall_mem_cons.mpr ⟨⟨rfl, by decide +kernel, List.mem_of_getElem? (i := 632) (by decide +kernel), List.mem_of_getElem? (i := 633) (by decide +kernel)⟩, List.forall_mem_cons.mpr ⟨⟨rfl, by decide +kernel, List.mem_of_getElem? (i := 678) (by decide +kernel), List.mem_of_getElem? (i := 679) (by decide +kernel)⟩, List.forall_mem_cons.mpr ⟨⟨rfl, by decide +kernel, List.mem_of_getElem? (i := 682) (by decide +kernel), List.mem_of_getElem? (i := 683) (by decide +kernel)⟩, fun _ h => absurd h List.not_mem_nil⟩⟩⟩⟩
theorem TT_before {s : State} {args : Array Value} (hts : ∀ w ∈ lw_tbl, w.before args s = true) : ∀ w ∈ TT, w.before args s = true := fun w hw => (List.mem_append.mp hw).elim (fun h => hts w (List.mem_filter.mp h).1) (fun h => by
  obtain ⟨y, hy, rfl⟩ := List.mem_map.mp h
  obtain ⟨h0, h1, h2, h3⟩ := ySB_ok y hy
  exact sel_sub (z := yJ5_isLatin1_aae02) h1 h0.symm (hts _ (List.mem_of_getElem? (i := 657) (by decide +kernel))) (hts _ (List.mem_of_getElem? (i := 659) (by decide +kernel))) (hts _ (List.mem_of_getElem? (i := 586) (by decide +kernel) : Cond.instantiable RJ4 4 ∈ lw_tbl)) (hts _ h2) (hts _ h3))

