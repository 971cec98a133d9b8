/-- a private method of a class that the tables say can be made, by its rows of tables_1 -/
def lw_okq (q : MethodName × Nat) : Prop := (q.1.cls ≠ "java/lang/invoke/MethodHandle" ∧ q.1.cls ≠ "java/lang/invoke/VarHandle") ∧ Cond.instantiable q.1.cls q.2 ∈ tables_1 ∧ Cond.privateMethod q.1 ∈ tables_1 ∧ Cond.instanceMethod q.1 ∈ tables_1
theorem lw_p0 : lw_okq (⟨"SalvageOfDays$Tape", "next", "()V"⟩, 7) := ⟨⟨by decide +kernel, by decide +kernel⟩, List.mem_of_getElem? (i := 25) (by decide +kernel), List.mem_of_getElem? (i := 165) (by decide +kernel), List.mem_of_getElem? (i := 166) (by decide +kernel)⟩
theorem lw_p1 : lw_okq (⟨"SalvageOfDays$Tape", "nextWord", "()V"⟩, 7) := ⟨⟨by decide +kernel, by decide +kernel⟩, List.mem_of_getElem? (i := 25) (by decide +kernel), List.mem_of_getElem? (i := 175) (by decide +kernel), List.mem_of_getElem? (i := 176) (by decide +kernel)⟩
theorem lw_p2 : lw_okq (⟨"SalvageOfDays$Tape", "spells", "(II)Z"⟩, 7) := ⟨⟨by decide +kernel, by decide +kernel⟩, List.mem_of_getElem? (i := 25) (by decide +kernel), List.mem_of_getElem? (i := 182) (by decide +kernel), List.mem_of_getElem? (i := 183) (by decide +kernel)⟩
theorem lw_p3 : lw_okq (⟨"SalvageOfDays$Tape", "nextNumber", "()V"⟩, 7) := ⟨⟨by decide +kernel, by decide +kernel⟩, List.mem_of_getElem? (i := 25) (by decide +kernel), List.mem_of_getElem? (i := 189) (by decide +kernel), List.mem_of_getElem? (i := 190) (by decide +kernel)⟩
theorem lw_p4 : lw_okq (⟨"SalvageOfDays$Tape", "readsParts", "()Z"⟩, 7) := ⟨⟨by decide +kernel, by decide +kernel⟩, List.mem_of_getElem? (i := 25) (by decide +kernel), List.mem_of_getElem? (i := 196) (by decide +kernel), List.mem_of_getElem? (i := 197) (by decide +kernel)⟩
theorem lw_p5 : lw_okq (⟨"SalvageOfDays$Tape", "passes", "(I)Z"⟩, 7) := ⟨⟨by decide +kernel, by decide +kernel⟩, List.mem_of_getElem? (i := 25) (by decide +kernel), List.mem_of_getElem? (i := 200) (by decide +kernel), List.mem_of_getElem? (i := 201) (by decide +kernel)⟩
theorem lw_p6 : lw_okq (⟨"SalvageOfDays$Tape", "readsOr", "(I)Z"⟩, 7) := ⟨⟨by decide +kernel, by decide +kernel⟩, List.mem_of_getElem? (i := 25) (by decide +kernel), List.mem_of_getElem? (i := 204) (by decide +kernel), List.mem_of_getElem? (i := 205) (by decide +kernel)⟩
theorem lw_p7 : lw_okq (⟨"SalvageOfDays$Tape", "readsAnd", "(I)Z"⟩, 7) := ⟨⟨by decide +kernel, by decide +kernel⟩, List.mem_of_getElem? (i := 25) (by decide +kernel), List.mem_of_getElem? (i := 208) (by decide +kernel), List.mem_of_getElem? (i := 209) (by decide +kernel)⟩
theorem lw_p8 : lw_okq (⟨"SalvageOfDays$Tape", "readsNot", "(I)Z"⟩, 7) := ⟨⟨by decide +kernel, by decide +kernel⟩, List.mem_of_getElem? (i := 25) (by decide +kernel), List.mem_of_getElem? (i := 212) (by decide +kernel), List.mem_of_getElem? (i := 213) (by decide +kernel)⟩
theorem lw_p9 : lw_okq (⟨"SalvageOfDays$Tape", "readsNotBehindNot", "(I)Z"⟩, 7) := ⟨⟨by decide +kernel, by decide +kernel⟩, List.mem_of_getElem? (i := 25) (by decide +kernel), List.mem_of_getElem? (i := 216) (by decide +kernel), List.mem_of_getElem? (i := 217) (by decide +kernel)⟩
theorem lw_p10 : lw_okq (⟨"SalvageOfDays$Tape", "readsSum", "(I)Z"⟩, 7) := ⟨⟨by decide +kernel, by decide +kernel⟩, List.mem_of_getElem? (i := 25) (by decide +kernel), List.mem_of_getElem? (i := 224) (by decide +kernel), List.mem_of_getElem? (i := 225) (by decide +kernel)⟩
theorem lw_p11 : lw_okq (⟨"SalvageOfDays$Tape", "readsTerm", "(I)Z"⟩, 7) := ⟨⟨by decide +kernel, by decide +kernel⟩, List.mem_of_getElem? (i := 25) (by decide +kernel), List.mem_of_getElem? (i := 228) (by decide +kernel), List.mem_of_getElem? (i := 229) (by decide +kernel)⟩
theorem lw_p12 : lw_okq (⟨"SalvageOfDays$Tape", "readsOne", "(I)Z"⟩, 7) := ⟨⟨by decide +kernel, by decide +kernel⟩, List.mem_of_getElem? (i := 25) (by decide +kernel), List.mem_of_getElem? (i := 232) (by decide +kernel), List.mem_of_getElem? (i := 233) (by decide +kernel)⟩
theorem lw_p13 : lw_okq (⟨"SalvageOfDays$Tape", "readsOneBehindMinus", "(I)Z"⟩, 7) := ⟨⟨by decide +kernel, by decide +kernel⟩, List.mem_of_getElem? (i := 25) (by decide +kernel), List.mem_of_getElem? (i := 239) (by decide +kernel), List.mem_of_getElem? (i := 240) (by decide +kernel)⟩
theorem lw_p14 : lw_okq (⟨"SalvageOfDays", "setHour", "(I)I"⟩, 8) := ⟨⟨by decide +kernel, by decide +kernel⟩, List.mem_of_getElem? (i := 17) (by decide +kernel), List.mem_of_getElem? (i := 370) (by decide +kernel), List.mem_of_getElem? (i := 371) (by decide +kernel)⟩
theorem lw_p15 : lw_okq (⟨"SalvageOfDays", "isDiver", "(I)Z"⟩, 8) := ⟨⟨by decide +kernel, by decide +kernel⟩, List.mem_of_getElem? (i := 17) (by decide +kernel), List.mem_of_getElem? (i := 418) (by decide +kernel), List.mem_of_getElem? (i := 419) (by decide +kernel)⟩
def lw_privs_1 : List (MethodName × Nat) := [(⟨"SalvageOfDays$Tape", "next", "()V"⟩, 7), (⟨"SalvageOfDays$Tape", "nextWord", "()V"⟩, 7), (⟨"SalvageOfDays$Tape", "spells", "(II)Z"⟩, 7), (⟨"SalvageOfDays$Tape", "nextNumber", "()V"⟩, 7), (⟨"SalvageOfDays$Tape", "readsParts", "()Z"⟩, 7), (⟨"SalvageOfDays$Tape", "passes", "(I)Z"⟩, 7), (⟨"SalvageOfDays$Tape", "readsOr", "(I)Z"⟩, 7), (⟨"SalvageOfDays$Tape", "readsAnd", "(I)Z"⟩, 7), (⟨"SalvageOfDays$Tape", "readsNot", "(I)Z"⟩, 7), (⟨"SalvageOfDays$Tape", "readsNotBehindNot", "(I)Z"⟩, 7), (⟨"SalvageOfDays$Tape", "readsSum", "(I)Z"⟩, 7), (⟨"SalvageOfDays$Tape", "readsTerm", "(I)Z"⟩, 7), (⟨"SalvageOfDays$Tape", "readsOne", "(I)Z"⟩, 7), (⟨"SalvageOfDays$Tape", "readsOneBehindMinus", "(I)Z"⟩, 7), (⟨"SalvageOfDays", "setHour", "(I)I"⟩, 8), (⟨"SalvageOfDays", "isDiver", "(I)Z"⟩, 8)]
theorem lw_r1 : ∀ q ∈ lw_privs_1, lw_okq q := List.forall_mem_cons.mpr ⟨lw_p0, List.forall_mem_cons.mpr ⟨lw_p1, List.forall_mem_cons.mpr ⟨lw_p2, List.forall_mem_cons.mpr ⟨lw_p3, List.forall_mem_cons.mpr ⟨lw_p4, List.forall_mem_cons.mpr ⟨lw_p5, List.forall_mem_cons.mpr ⟨lw_p6, List.forall_mem_cons.mpr ⟨lw_p7, List.forall_mem_cons.mpr ⟨lw_p8, List.forall_mem_cons.mpr ⟨lw_p9, List.forall_mem_cons.mpr ⟨lw_p10, List.forall_mem_cons.mpr ⟨lw_p11, List.forall_mem_cons.mpr ⟨lw_p12, List.forall_mem_cons.mpr ⟨lw_p13, List.forall_mem_cons.mpr ⟨lw_p14, List.forall_mem_cons.mpr ⟨lw_p15, fun _ h => absurd h List.not_mem_nil⟩⟩⟩⟩⟩⟩⟩⟩⟩⟩⟩⟩⟩⟩⟩⟩
theorem lw_p16 : lw_okq (⟨"SalvageOfDays", "refusalOfRow", "(II)I"⟩, 8) := ⟨⟨by decide +kernel, by decide +kernel⟩, List.mem_of_getElem? (i := 17) (by decide +kernel), List.mem_of_getElem? (i := 553) (by decide +kernel), List.mem_of_getElem? (i := 554) (by decide +kernel)⟩
theorem lw_p17 : lw_okq (⟨"SalvageOfDays", "refusalOfSheet", "(II)I"⟩, 8) := ⟨⟨by decide +kernel, by decide +kernel⟩, List.mem_of_getElem? (i := 17) (by decide +kernel), List.mem_of_getElem? (i := 557) (by decide +kernel), List.mem_of_getElem? (i := 558) (by decide +kernel)⟩
theorem lw_p18 : lw_okq (⟨"SalvageOfDays", "fairBehind", "(II)I"⟩, 8) := ⟨⟨by decide +kernel, by decide +kernel⟩, List.mem_of_getElem? (i := 17) (by decide +kernel), List.mem_of_getElem? (i := 583) (by decide +kernel), List.mem_of_getElem? (i := 584) (by decide +kernel)⟩
theorem lw_p19 : lw_okq (⟨"SalvageOfDays", "refusalOfHours", "(II)I"⟩, 8) := ⟨⟨by decide +kernel, by decide +kernel⟩, List.mem_of_getElem? (i := 17) (by decide +kernel), List.mem_of_getElem? (i := 619) (by decide +kernel), List.mem_of_getElem? (i := 620) (by decide +kernel)⟩
theorem lw_p20 : lw_okq (⟨"SalvageOfDays", "refusalOfTries", "(III)I"⟩, 8) := ⟨⟨by decide +kernel, by decide +kernel⟩, List.mem_of_getElem? (i := 17) (by decide +kernel), List.mem_of_getElem? (i := 667) (by decide +kernel), List.mem_of_getElem? (i := 668) (by decide +kernel)⟩
theorem lw_p21 : lw_okq (⟨"SalvageOfDays", "storm", "(I)V"⟩, 8) := ⟨⟨by decide +kernel, by decide +kernel⟩, List.mem_of_getElem? (i := 17) (by decide +kernel), List.mem_of_getElem? (i := 684) (by decide +kernel), List.mem_of_getElem? (i := 685) (by decide +kernel)⟩
theorem lw_p22 : lw_okq (⟨"SalvageOfDaysModel", "next", "()V"⟩, 34) := ⟨⟨by decide +kernel, by decide +kernel⟩, List.mem_of_getElem? (i := 736) (by decide +kernel), List.mem_of_getElem? (i := 746) (by decide +kernel), List.mem_of_getElem? (i := 747) (by decide +kernel)⟩
theorem lw_p23 : lw_okq (⟨"SalvageOfDaysModel", "wordFrom", "(II)I"⟩, 34) := ⟨⟨by decide +kernel, by decide +kernel⟩, List.mem_of_getElem? (i := 736) (by decide +kernel), List.mem_of_getElem? (i := 753) (by decide +kernel), List.mem_of_getElem? (i := 754) (by decide +kernel)⟩
theorem lw_p24 : lw_okq (⟨"SalvageOfDaysModel", "eRead", "()Z"⟩, 34) := ⟨⟨by decide +kernel, by decide +kernel⟩, List.mem_of_getElem? (i := 736) (by decide +kernel), List.mem_of_getElem? (i := 757) (by decide +kernel), List.mem_of_getElem? (i := 758) (by decide +kernel)⟩
theorem lw_p25 : lw_okq (⟨"SalvageOfDaysModel", "puts", "(I)V"⟩, 34) := ⟨⟨by decide +kernel, by decide +kernel⟩, List.mem_of_getElem? (i := 736) (by decide +kernel), List.mem_of_getElem? (i := 762) (by decide +kernel), List.mem_of_getElem? (i := 763) (by decide +kernel)⟩
theorem lw_p26 : lw_okq (⟨"SalvageOfDaysModel", "unwinds", "(I)V"⟩, 34) := ⟨⟨by decide +kernel, by decide +kernel⟩, List.mem_of_getElem? (i := 736) (by decide +kernel), List.mem_of_getElem? (i := 766) (by decide +kernel), List.mem_of_getElem? (i := 767) (by decide +kernel)⟩
theorem lw_p27 : lw_okq (⟨"SalvageOfDaysModel", "opensOne", "(I)Z"⟩, 34) := ⟨⟨by decide +kernel, by decide +kernel⟩, List.mem_of_getElem? (i := 736) (by decide +kernel), List.mem_of_getElem? (i := 773) (by decide +kernel), List.mem_of_getElem? (i := 774) (by decide +kernel)⟩
theorem lw_p28 : lw_okq (⟨"SalvageOfDaysModel", "holds", "(I)V"⟩, 34) := ⟨⟨by decide +kernel, by decide +kernel⟩, List.mem_of_getElem? (i := 736) (by decide +kernel), List.mem_of_getElem? (i := 777) (by decide +kernel), List.mem_of_getElem? (i := 778) (by decide +kernel)⟩
theorem lw_p29 : lw_okq (⟨"SalvageOfDaysModel", "signOf", "()I"⟩, 34) := ⟨⟨by decide +kernel, by decide +kernel⟩, List.mem_of_getElem? (i := 736) (by decide +kernel), List.mem_of_getElem? (i := 781) (by decide +kernel), List.mem_of_getElem? (i := 782) (by decide +kernel)⟩
theorem lw_p30 : lw_okq (⟨"SalvageOfDaysModel", "between", "(I)Z"⟩, 34) := ⟨⟨by decide +kernel, by decide +kernel⟩, List.mem_of_getElem? (i := 736) (by decide +kernel), List.mem_of_getElem? (i := 785) (by decide +kernel), List.mem_of_getElem? (i := 786) (by decide +kernel)⟩
theorem lw_p31 : lw_okq (⟨"SalvageOfDaysModel", "placed", "(I)I"⟩, 34) := ⟨⟨by decide +kernel, by decide +kernel⟩, List.mem_of_getElem? (i := 736) (by decide +kernel), List.mem_of_getElem? (i := 896) (by decide +kernel), List.mem_of_getElem? (i := 897) (by decide +kernel)⟩
def lw_privs_2 : List (MethodName × Nat) := [(⟨"SalvageOfDays", "refusalOfRow", "(II)I"⟩, 8), (⟨"SalvageOfDays", "refusalOfSheet", "(II)I"⟩, 8), (⟨"SalvageOfDays", "fairBehind", "(II)I"⟩, 8), (⟨"SalvageOfDays", "refusalOfHours", "(II)I"⟩, 8), (⟨"SalvageOfDays", "refusalOfTries", "(III)I"⟩, 8), (⟨"SalvageOfDays", "storm", "(I)V"⟩, 8), (⟨"SalvageOfDaysModel", "next", "()V"⟩, 34), (⟨"SalvageOfDaysModel", "wordFrom", "(II)I"⟩, 34), (⟨"SalvageOfDaysModel", "eRead", "()Z"⟩, 34), (⟨"SalvageOfDaysModel", "puts", "(I)V"⟩, 34), (⟨"SalvageOfDaysModel", "unwinds", "(I)V"⟩, 34), (⟨"SalvageOfDaysModel", "opensOne", "(I)Z"⟩, 34), (⟨"SalvageOfDaysModel", "holds", "(I)V"⟩, 34), (⟨"SalvageOfDaysModel", "signOf", "()I"⟩, 34), (⟨"SalvageOfDaysModel", "between", "(I)Z"⟩, 34), (⟨"SalvageOfDaysModel", "placed", "(I)I"⟩, 34)]
theorem lw_r2 : ∀ q ∈ lw_privs_2, lw_okq q := List.forall_mem_cons.mpr ⟨lw_p16, List.forall_mem_cons.mpr ⟨lw_p17, List.forall_mem_cons.mpr ⟨lw_p18, List.forall_mem_cons.mpr ⟨lw_p19, List.forall_mem_cons.mpr ⟨lw_p20, List.forall_mem_cons.mpr ⟨lw_p21, List.forall_mem_cons.mpr ⟨lw_p22, List.forall_mem_cons.mpr ⟨lw_p23, List.forall_mem_cons.mpr ⟨lw_p24, List.forall_mem_cons.mpr ⟨lw_p25, List.forall_mem_cons.mpr ⟨lw_p26, List.forall_mem_cons.mpr ⟨lw_p27, List.forall_mem_cons.mpr ⟨lw_p28, List.forall_mem_cons.mpr ⟨lw_p29, List.forall_mem_cons.mpr ⟨lw_p30, List.forall_mem_cons.mpr ⟨lw_p31, fun _ h => absurd h List.not_mem_nil⟩⟩⟩⟩⟩⟩⟩⟩⟩⟩⟩⟩⟩⟩⟩⟩
theorem lw_p32 : lw_okq (⟨"SalvageOfDaysModel", "isOne", "(I)Z"⟩, 34) := ⟨⟨by decide +kernel, by decide +kernel⟩, List.mem_of_getElem? (i := 736) (by decide +kernel), List.mem_of_getElem? (i := 937) (by decide +kernel), List.mem_of_getElem? (i := 938) (by decide +kernel)⟩
theorem lw_p33 : lw_okq (⟨"SalvageOfDaysModel", "asksOf", "(III)I"⟩, 34) := ⟨⟨by decide +kernel, by decide +kernel⟩, List.mem_of_getElem? (i := 736) (by decide +kernel), List.mem_of_getElem? (i := 941) (by decide +kernel), List.mem_of_getElem? (i := 942) (by decide +kernel)⟩
theorem lw_p34 : lw_okq (⟨"SalvageOfDaysModel", "says", "(I)I"⟩, 34) := ⟨⟨by decide +kernel, by decide +kernel⟩, List.mem_of_getElem? (i := 736) (by decide +kernel), List.mem_of_getElem? (i := 945) (by decide +kernel), List.mem_of_getElem? (i := 946) (by decide +kernel)⟩
theorem lw_p35 : lw_okq (⟨"SalvageOfDaysModel", "canSet", "(I)I"⟩, 34) := ⟨⟨by decide +kernel, by decide +kernel⟩, List.mem_of_getElem? (i := 736) (by decide +kernel), List.mem_of_getElem? (i := 967) (by decide +kernel), List.mem_of_getElem? (i := 968) (by decide +kernel)⟩
theorem lw_p36 : lw_okq (⟨"SalvageOfDaysModel", "can", "(II)Z"⟩, 34) := ⟨⟨by decide +kernel, by decide +kernel⟩, List.mem_of_getElem? (i := 736) (by decide +kernel), List.mem_of_getElem? (i := 971) (by decide +kernel), List.mem_of_getElem? (i := 972) (by decide +kernel)⟩
theorem lw_p37 : lw_okq (⟨"SalvageOfDaysModel", "reachesOf", "(II)I"⟩, 34) := ⟨⟨by decide +kernel, by decide +kernel⟩, List.mem_of_getElem? (i := 736) (by decide +kernel), List.mem_of_getElem? (i := 975) (by decide +kernel), List.mem_of_getElem? (i := 976) (by decide +kernel)⟩
theorem lw_p38 : lw_okq (⟨"SalvageOfDaysModel", "costsOf", "(II)I"⟩, 34) := ⟨⟨by decide +kernel, by decide +kernel⟩, List.mem_of_getElem? (i := 736) (by decide +kernel), List.mem_of_getElem? (i := 979) (by decide +kernel), List.mem_of_getElem? (i := 980) (by decide +kernel)⟩
theorem lw_p39 : lw_okq (⟨"SalvageOfDaysModel", "breathesOf", "(I)I"⟩, 34) := ⟨⟨by decide +kernel, by decide +kernel⟩, List.mem_of_getElem? (i := 736) (by decide +kernel), List.mem_of_getElem? (i := 983) (by decide +kernel), List.mem_of_getElem? (i := 984) (by decide +kernel)⟩
theorem lw_p40 : lw_okq (⟨"SalvageOfDaysModel", "diveOf", "(II)V"⟩, 34) := ⟨⟨by decide +kernel, by decide +kernel⟩, List.mem_of_getElem? (i := 736) (by decide +kernel), List.mem_of_getElem? (i := 995) (by decide +kernel), List.mem_of_getElem? (i := 996) (by decide +kernel)⟩
theorem lw_p41 : lw_okq (⟨"SalvageOfDaysModel", "opens0", "(I)V"⟩, 34) := ⟨⟨by decide +kernel, by decide +kernel⟩, List.mem_of_getElem? (i := 736) (by decide +kernel), List.mem_of_getElem? (i := 1003) (by decide +kernel), List.mem_of_getElem? (i := 1004) (by decide +kernel)⟩
theorem lw_p42 : lw_okq (⟨"SalvageOfDaysModel", "hourOf", "()V"⟩, 34) := ⟨⟨by decide +kernel, by decide +kernel⟩, List.mem_of_getElem? (i := 736) (by decide +kernel), List.mem_of_getElem? (i := 1011) (by decide +kernel), List.mem_of_getElem? (i := 1012) (by decide +kernel)⟩
theorem lw_p43 : lw_okq (⟨"SalvageOfDaysModel", "main0", "()I"⟩, 34) := ⟨⟨by decide +kernel, by decide +kernel⟩, List.mem_of_getElem? (i := 736) (by decide +kernel), List.mem_of_getElem? (i := 1015) (by decide +kernel), List.mem_of_getElem? (i := 1016) (by decide +kernel)⟩
theorem lw_p44 : lw_okq (⟨"SalvageOfDaysModel", "bayOf", "(I)I"⟩, 34) := ⟨⟨by decide +kernel, by decide +kernel⟩, List.mem_of_getElem? (i := 736) (by decide +kernel), List.mem_of_getElem? (i := 1023) (by decide +kernel), List.mem_of_getElem? (i := 1024) (by decide +kernel)⟩
theorem lw_p45 : lw_okq (⟨"SalvageOfDaysModel", "fair", "()I"⟩, 34) := ⟨⟨by decide +kernel, by decide +kernel⟩, List.mem_of_getElem? (i := 736) (by decide +kernel), List.mem_of_getElem? (i := 1027) (by decide +kernel), List.mem_of_getElem? (i := 1028) (by decide +kernel)⟩
theorem lw_p46 : lw_okq (⟨"SalvageOfDaysModel", "keeps", "()V"⟩, 34) := ⟨⟨by decide +kernel, by decide +kernel⟩, List.mem_of_getElem? (i := 736) (by decide +kernel), List.mem_of_getElem? (i := 1035) (by decide +kernel), List.mem_of_getElem? (i := 1036) (by decide +kernel)⟩
theorem lw_p47 : lw_okq (⟨"SalvageOfDaysModel", "goes", "(I)V"⟩, 34) := ⟨⟨by decide +kernel, by decide +kernel⟩, List.mem_of_getElem? (i := 736) (by decide +kernel), List.mem_of_getElem? (i := 1039) (by decide +kernel), List.mem_of_getElem? (i := 1040) (by decide +kernel)⟩
def lw_privs_3 : List (MethodName × Nat) := [(⟨"SalvageOfDaysModel", "isOne", "(I)Z"⟩, 34), (⟨"SalvageOfDaysModel", "asksOf", "(III)I"⟩, 34), (⟨"SalvageOfDaysModel", "says", "(I)I"⟩, 34), (⟨"SalvageOfDaysModel", "canSet", "(I)I"⟩, 34), (⟨"SalvageOfDaysModel", "can", "(II)Z"⟩, 34), (⟨"SalvageOfDaysModel", "reachesOf", "(II)I"⟩, 34), (⟨"SalvageOfDaysModel", "costsOf", "(II)I"⟩, 34), (⟨"SalvageOfDaysModel", "breathesOf", "(I)I"⟩, 34), (⟨"SalvageOfDaysModel", "diveOf", "(II)V"⟩, 34), (⟨"SalvageOfDaysModel", "opens0", "(I)V"⟩, 34), (⟨"SalvageOfDaysModel", "hourOf", "()V"⟩, 34), (⟨"SalvageOfDaysModel", "main0", "()I"⟩, 34), (⟨"SalvageOfDaysModel", "bayOf", "(I)I"⟩, 34), (⟨"SalvageOfDaysModel", "fair", "()I"⟩, 34), (⟨"SalvageOfDaysModel", "keeps", "()V"⟩, 34), (⟨"SalvageOfDaysModel", "goes", "(I)V"⟩, 34)]
theorem lw_r3 : ∀ q ∈ lw_privs_3, lw_okq q := List.forall_mem_cons.mpr ⟨lw_p32, List.forall_mem_cons.mpr ⟨lw_p33, List.forall_mem_cons.mpr ⟨lw_p34, List.forall_mem_cons.mpr ⟨lw_p35, List.forall_mem_cons.mpr ⟨lw_p36, List.forall_mem_cons.mpr ⟨lw_p37, List.forall_mem_cons.mpr ⟨lw_p38, List.forall_mem_cons.mpr ⟨lw_p39, List.forall_mem_cons.mpr ⟨lw_p40, List.forall_mem_cons.mpr ⟨lw_p41, List.forall_mem_cons.mpr ⟨lw_p42, List.forall_mem_cons.mpr ⟨lw_p43, List.forall_mem_cons.mpr ⟨lw_p44, List.forall_mem_cons.mpr ⟨lw_p45, List.forall_mem_cons.mpr ⟨lw_p46, List.forall_mem_cons.mpr ⟨lw_p47, fun _ h => absurd h List.not_mem_nil⟩⟩⟩⟩⟩⟩⟩⟩⟩⟩⟩⟩⟩⟩⟩⟩
theorem lw_p48 : lw_okq (⟨"SalvageOfDaysModel", "lays", "()V"⟩, 34) := ⟨⟨by decide +kernel, by decide +kernel⟩, List.mem_of_getElem? (i := 736) (by decide +kernel), List.mem_of_getElem? (i := 1043) (by decide +kernel), List.mem_of_getElem? (i := 1044) (by decide +kernel)⟩
theorem lw_p49 : lw_okq (⟨"SalvageOfDaysModel", "rowWrong", "(II)I"⟩, 34) := ⟨⟨by decide +kernel, by decide +kernel⟩, List.mem_of_getElem? (i := 736) (by decide +kernel), List.mem_of_getElem? (i := 1055) (by decide +kernel), List.mem_of_getElem? (i := 1056) (by decide +kernel)⟩
theorem lw_p50 : lw_okq (⟨"SalvageOfDaysModel", "rowOf", "(II)I"⟩, 34) := ⟨⟨by decide +kernel, by decide +kernel⟩, List.mem_of_getElem? (i := 736) (by decide +kernel), List.mem_of_getElem? (i := 1059) (by decide +kernel), List.mem_of_getElem? (i := 1060) (by decide +kernel)⟩
theorem lw_p51 : lw_okq (⟨"SalvageOfDaysModel", "fairBehind", "(I)I"⟩, 34) := ⟨⟨by decide +kernel, by decide +kernel⟩, List.mem_of_getElem? (i := 736) (by decide +kernel), List.mem_of_getElem? (i := 1071) (by decide +kernel), List.mem_of_getElem? (i := 1072) (by decide +kernel)⟩
theorem lw_p52 : lw_okq (⟨"SalvageOfDaysModel", "leftBy", "(IIII)I"⟩, 34) := ⟨⟨by decide +kernel, by decide +kernel⟩, List.mem_of_getElem? (i := 736) (by decide +kernel), List.mem_of_getElem? (i := 1083) (by decide +kernel), List.mem_of_getElem? (i := 1084) (by decide +kernel)⟩
theorem lw_p53 : lw_okq (⟨"SalvageOfDaysModel", "toldWrong", "(II)I"⟩, 34) := ⟨⟨by decide +kernel, by decide +kernel⟩, List.mem_of_getElem? (i := 736) (by decide +kernel), List.mem_of_getElem? (i := 1103) (by decide +kernel), List.mem_of_getElem? (i := 1104) (by decide +kernel)⟩
theorem lw_p54 : lw_okq (⟨"SalvageOfDaysModel", "sheetWrong", "(II)I"⟩, 34) := ⟨⟨by decide +kernel, by decide +kernel⟩, List.mem_of_getElem? (i := 736) (by decide +kernel), List.mem_of_getElem? (i := 1107) (by decide +kernel), List.mem_of_getElem? (i := 1108) (by decide +kernel)⟩
theorem lw_p55 : lw_okq (⟨"SalvageOfDaysModel", "unlike", "(II)I"⟩, 34) := ⟨⟨by decide +kernel, by decide +kernel⟩, List.mem_of_getElem? (i := 736) (by decide +kernel), List.mem_of_getElem? (i := 1111) (by decide +kernel), List.mem_of_getElem? (i := 1112) (by decide +kernel)⟩
theorem lw_p56 : lw_okq (⟨"SalvageOfDaysModel", "divesWrong", "(II)I"⟩, 34) := ⟨⟨by decide +kernel, by decide +kernel⟩, List.mem_of_getElem? (i := 736) (by decide +kernel), List.mem_of_getElem? (i := 1139) (by decide +kernel), List.mem_of_getElem? (i := 1140) (by decide +kernel)⟩
theorem lw_p57 : lw_okq (⟨"SalvageOfDaysModel", "divesSo", "(II)Z"⟩, 34) := ⟨⟨by decide +kernel, by decide +kernel⟩, List.mem_of_getElem? (i := 736) (by decide +kernel), List.mem_of_getElem? (i := 1143) (by decide +kernel), List.mem_of_getElem? (i := 1144) (by decide +kernel)⟩
theorem lw_p58 : lw_okq (⟨"SalvageOfDaysModel", "storms", "(I)I"⟩, 34) := ⟨⟨by decide +kernel, by decide +kernel⟩, List.mem_of_getElem? (i := 736) (by decide +kernel), List.mem_of_getElem? (i := 1156) (by decide +kernel), List.mem_of_getElem? (i := 1157) (by decide +kernel)⟩
def lw_privs_4 : List (MethodName × Nat) := [(⟨"SalvageOfDaysModel", "lays", "()V"⟩, 34), (⟨"SalvageOfDaysModel", "rowWrong", "(II)I"⟩, 34), (⟨"SalvageOfDaysModel", "rowOf", "(II)I"⟩, 34), (⟨"SalvageOfDaysModel", "fairBehind", "(I)I"⟩, 34), (⟨"SalvageOfDaysModel", "leftBy", "(IIII)I"⟩, 34), (⟨"SalvageOfDaysModel", "toldWrong", "(II)I"⟩, 34), (⟨"SalvageOfDaysModel", "sheetWrong", "(II)I"⟩, 34), (⟨"SalvageOfDaysModel", "unlike", "(II)I"⟩, 34), (⟨"SalvageOfDaysModel", "divesWrong", "(II)I"⟩, 34), (⟨"SalvageOfDaysModel", "divesSo", "(II)Z"⟩, 34), (⟨"SalvageOfDaysModel", "storms", "(I)I"⟩, 34)]
theorem lw_r4 : ∀ q ∈ lw_privs_4, lw_okq q := List.forall_mem_cons.mpr ⟨lw_p48, List.forall_mem_cons.mpr ⟨lw_p49, List.forall_mem_cons.mpr ⟨lw_p50, List.forall_mem_cons.mpr ⟨lw_p51, List.forall_mem_cons.mpr ⟨lw_p52, List.forall_mem_cons.mpr ⟨lw_p53, List.forall_mem_cons.mpr ⟨lw_p54, List.forall_mem_cons.mpr ⟨lw_p55, List.forall_mem_cons.mpr ⟨lw_p56, List.forall_mem_cons.mpr ⟨lw_p57, List.forall_mem_cons.mpr ⟨lw_p58, fun _ h => absurd h List.not_mem_nil⟩⟩⟩⟩⟩⟩⟩⟩⟩⟩⟩
def lw_privs : List (MethodName × Nat) := lw_privs_1 ++ (lw_privs_2 ++ (lw_privs_3 ++ (lw_privs_4)))
def lw_tbl : List Cond := k2_sels lw_privs ++ tables_1
theorem lw_privs_ok : ∀ q ∈ lw_privs, lw_okq q := by
  show ∀ q ∈ lw_privs_1 ++ (lw_privs_2 ++ (lw_privs_3 ++ (lw_privs_4))), lw_okq q
  exact List.forall_mem_append.mpr ⟨lw_r1, List.forall_mem_append.mpr ⟨lw_r2, List.forall_mem_append.mpr ⟨lw_r3, lw_r4⟩⟩⟩

/-- the tables' words that stay good in every call -/
def TT : List Cond := lw_tbl.filter goodWord
theorem TT_of {w : Cond} {i : Nat} (h : lw_tbl[i]? = some w) (g : goodWord w = true) : w ∈ TT := List.mem_filter.mpr ⟨List.mem_of_getElem? h, g⟩
theorem TT_sub {w : Cond} (h : w ∈ TT) : w ∈ lw_tbl := (List.mem_filter.mp h).1
theorem TT_good : GoodIn TT TT := fun w h => ⟨h, good_of_word (List.mem_filter.mp h).2⟩
def RX0 : String := "SalvageOfDays$Kinds"
def TX0 : u_T := fun k => match k with
  | _ => ("", "", "", false)
def tyX0 : Nat → FieldType := fun k => match k with
  | _ => .int
abbrev wsX00 : List Cond := u_ws RX0 TX0 0
theorem nmX0 : ∀ a, a < 0 → ∀ b, b < 0 → a ≠ b → (TX0 a).2.1 ≠ (TX0 b).2.1 := by decide +kernel
theorem tyX0_ok : ∀ k, k < 0 → parseFieldDescriptor (TX0 k).2.2.1 = some (tyX0 k) := by decide +kernel
abbrev cX0_isOf : ByteArray := prog_2_method_2_code
def yX0_isOf : MethodName := ⟨RX0, "isOf", "(II)Z"⟩
abbrev cX0_reach : ByteArray := prog_2_method_3_code
def yX0_reach : MethodName := ⟨RX0, "reach", "(III)I"⟩
abbrev cX0_cost : ByteArray := prog_2_method_4_code
def yX0_cost : MethodName := ⟨RX0, "cost", "(IIIII)I"⟩
abbrev cX0_breathing : ByteArray := prog_2_method_5_code
def yX0_breathing : MethodName := ⟨RX0, "breathing", "(II)I"⟩
def RX1 : String := "SalvageOfDays$Scene"
def TX1 : u_T := fun k => match k with
  | 0 => ("SalvageOfDays$Scene", "weather", "[I", true)
  | 1 => ("SalvageOfDays$Scene", "sort", "[I", true)
  | 2 => ("SalvageOfDays$Scene", "strong", "[I", true)
  | 3 => ("SalvageOfDays$Scene", "deep", "[I", true)
  | 4 => ("SalvageOfDays$Scene", "place", "[I", true)
  | 5 => ("SalvageOfDays$Scene", "kind", "[I", true)
  | 6 => ("SalvageOfDays$Scene", "more", "[I", true)
  | 7 => ("SalvageOfDays$Scene", "breath", "[I", true)
  | 8 => ("SalvageOfDays$Scene", "brought", "[I", true)
  | 9 => ("SalvageOfDays$Scene", "divers", "I", false)
  | 10 => ("SalvageOfDays$Scene", "hour", "I", false)
  | _ => ("SalvageOfDays$Scene", "law", "LSalvageOfDays$Text;", false)
def tyX1 : Nat → FieldType := fun k => match k with
  | 0 => .array .int
  | 1 => .array .int
  | 2 => .array .int
  | 3 => .array .int
  | 4 => .array .int
  | 5 => .array .int
  | 6 => .array .int
  | 7 => .array .int
  | 8 => .array .int
  | 9 => .int
  | 10 => .int
  | _ => .object "SalvageOfDays$Text"
abbrev wsX10 : List Cond := u_ws RX1 TX1 12
theorem nmX1 : ∀ a, a < 12 → ∀ b, b < 12 → a ≠ b → (TX1 a).2.1 ≠ (TX1 b).2.1 := by decide +kernel
theorem tyX1_ok : ∀ k, k < 12 → parseFieldDescriptor (TX1 k).2.2.1 = some (tyX1 k) := by decide +kernel
abbrev cX1_init : ByteArray := prog_3_method_1_code
def yX1_init : MethodName := ⟨RX1, "<init>", "(LSalvageOfDays$Text;)V"⟩
abbrev cX1_becomes : ByteArray := prog_3_method_2_code
def yX1_becomes : MethodName := ⟨RX1, "becomes", "(LSalvageOfDays$Scene;)V"⟩
abbrev cX1_caskRow : ByteArray := prog_3_method_3_code
def yX1_caskRow : MethodName := ⟨RX1, "caskRow", "(I)[I"⟩
abbrev cX1_casksAt : ByteArray := prog_3_method_4_code
def yX1_casksAt : MethodName := ⟨RX1, "casksAt", "(I)I"⟩
abbrev cX1_sum : ByteArray := prog_3_method_5_code
def yX1_sum : MethodName := ⟨RX1, "sum", "([II)I"⟩
abbrev cX1_comes : ByteArray := prog_3_method_6_code
def yX1_comes : MethodName := ⟨RX1, "comes", "(III)I"⟩
abbrev cX1_saidReach : ByteArray := prog_3_method_7_code
def yX1_saidReach : MethodName := ⟨RX1, "saidReach", "(II)I"⟩
abbrev cX1_saidCost : ByteArray := prog_3_method_8_code
def yX1_saidCost : MethodName := ⟨RX1, "saidCost", "(II)I"⟩
abbrev cX1_reach : ByteArray := prog_3_method_9_code
def yX1_reach : MethodName := ⟨RX1, "reach", "(II)I"⟩
abbrev cX1_cost : ByteArray := prog_3_method_10_code
def yX1_cost : MethodName := ⟨RX1, "cost", "(II)I"⟩
abbrev cX1_can : ByteArray := prog_3_method_11_code
def yX1_can : MethodName := ⟨RX1, "can", "(II)Z"⟩
abbrev cX1_casksFor : ByteArray := prog_3_method_12_code
def yX1_casksFor : MethodName := ⟨RX1, "casksFor", "(I)I"⟩
abbrev cX1_isSoOfAll : ByteArray := prog_3_method_13_code
def yX1_isSoOfAll : MethodName := ⟨RX1, "isSoOfAll", "(LSalvageOfDays$Sheet;I)Z"⟩
abbrev cX1_bringUp : ByteArray := prog_3_method_14_code
def yX1_bringUp : MethodName := ⟨RX1, "bringUp", "(II)V"⟩
abbrev cX1_bringsInRow : ByteArray := prog_3_method_15_code
def yX1_bringsInRow : MethodName := ⟨RX1, "bringsInRow", "(LSalvageOfDays$Sheet;I)I"⟩
abbrev cX1_letLoose : ByteArray := prog_3_method_16_code
def yX1_letLoose : MethodName := ⟨RX1, "letLoose", "(I)V"⟩
abbrev cX1_blowUp : ByteArray := prog_3_method_17_code
def yX1_blowUp : MethodName := ⟨RX1, "blowUp", "(II)V"⟩
abbrev cX1_fading : ByteArray := prog_3_method_18_code
def yX1_fading : MethodName := ⟨RX1, "fading", "(III)I"⟩
abbrev cX1_faded : ByteArray := prog_3_method_19_code
def yX1_faded : MethodName := ⟨RX1, "faded", "(III)I"⟩
abbrev cX1_passHours : ByteArray := prog_3_method_20_code
def yX1_passHours : MethodName := ⟨RX1, "passHours", "(I)V"⟩
abbrev cX1_firstOtherwise : ByteArray := prog_3_method_21_code
def yX1_firstOtherwise : MethodName := ⟨RX1, "firstOtherwise", "(LSalvageOfDays$Sheet;I)I"⟩
abbrev cX1_mainSort : ByteArray := prog_3_method_22_code
def yX1_mainSort : MethodName := ⟨RX1, "mainSort", "()I"⟩
abbrev cX1_fair : ByteArray := prog_3_method_23_code
def yX1_fair : MethodName := ⟨RX1, "fair", "()I"⟩
abbrev cX1_overBay : ByteArray := prog_3_method_24_code
def yX1_overBay : MethodName := ⟨RX1, "overBay", "(I)I"⟩
def RX2 : String := "SalvageOfDays$Sheet"
def TX2 : u_T := fun k => match k with
  | 0 => ("SalvageOfDays$Sheet", "cells", "[I", true)
  | 1 => ("SalvageOfDays$Sheet", "sort", "I", false)
  | _ => ("SalvageOfDays$Sheet", "size", "I", false)
def tyX2 : Nat → FieldType := fun k => match k with
  | 0 => .array .int
  | 1 => .int
  | _ => .int
abbrev wsX20 : List Cond := u_ws RX2 TX2 3
theorem nmX2 : ∀ a, a < 3 → ∀ b, b < 3 → a ≠ b → (TX2 a).2.1 ≠ (TX2 b).2.1 := by decide +kernel
theorem tyX2_ok : ∀ k, k < 3 → parseFieldDescriptor (TX2 k).2.2.1 = some (tyX2 k) := by decide +kernel
abbrev cX2_init : ByteArray := prog_4_method_1_code
def yX2_init : MethodName := ⟨RX2, "<init>", "()V"⟩
abbrev cX2_becomes : ByteArray := prog_4_method_2_code
def yX2_becomes : MethodName := ⟨RX2, "becomes", "(II)V"⟩
abbrev cX2_set : ByteArray := prog_4_method_3_code
def yX2_set : MethodName := ⟨RX2, "set", "(II)Z"⟩
abbrev cX2_holds : ByteArray := prog_4_method_4_code
def yX2_holds : MethodName := ⟨RX2, "holds", "(II)Z"⟩
abbrev cX2_tellsOnly : ByteArray := prog_4_method_5_code
def yX2_tellsOnly : MethodName := ⟨RX2, "tellsOnly", "(I)Z"⟩
def RX3 : String := "SalvageOfDays$Tape"
def TX3 : u_T := fun k => match k with
  | 0 => ("SalvageOfDays$Tape", "bytes", "[I", true)
  | 1 => ("SalvageOfDays$Tape", "size", "I", false)
  | 2 => ("SalvageOfDays$Tape", "at", "I", false)
  | 3 => ("SalvageOfDays$Tape", "place", "I", false)
  | 4 => ("SalvageOfDays$Tape", "symbol", "I", false)
  | 5 => ("SalvageOfDays$Tape", "numberRead", "I", false)
  | _ => ("SalvageOfDays$Tape", "made", "LSalvageOfDays$Text;", false)
def tyX3 : Nat → FieldType := fun k => match k with
  | 0 => .array .int
  | 1 => .int
  | 2 => .int
  | 3 => .int
  | 4 => .int
  | 5 => .int
  | _ => .object "SalvageOfDays$Text"
abbrev wsX30 : List Cond := u_ws RX3 TX3 7
theorem nmX3 : ∀ a, a < 7 → ∀ b, b < 7 → a ≠ b → (TX3 a).2.1 ≠ (TX3 b).2.1 := by decide +kernel
theorem tyX3_ok : ∀ k, k < 7 → parseFieldDescriptor (TX3 k).2.2.1 = some (tyX3 k) := by decide +kernel
abbrev cX3_init : ByteArray := prog_5_method_1_code
def yX3_init : MethodName := ⟨RX3, "<init>", "()V"⟩
abbrev cX3_hasRoom : ByteArray := prog_5_method_2_code
def yX3_hasRoom : MethodName := ⟨RX3, "hasRoom", "(I)Z"⟩
abbrev cX3_add : ByteArray := prog_5_method_3_code
def yX3_add : MethodName := ⟨RX3, "add", "(I)V"⟩
abbrev cX3_clear : ByteArray := prog_5_method_4_code
def yX3_clear : MethodName := ⟨RX3, "clear", "()V"⟩
abbrev cX3_isName : ByteArray := prog_5_method_5_code
def yX3_isName : MethodName := ⟨RX3, "isName", "(I)Z"⟩
abbrev cX3_readInto : ByteArray := prog_5_method_6_code
def yX3_readInto : MethodName := ⟨RX3, "readInto", "(LSalvageOfDays$Text;)I"⟩
abbrev cX3_readsParts : ByteArray := prog_5_method_7_code
def yX3_readsParts : MethodName := ⟨RX3, "readsParts", "()Z"⟩
abbrev cX3_passes : ByteArray := prog_5_method_8_code
def yX3_passes : MethodName := ⟨RX3, "passes", "(I)Z"⟩
abbrev cX3_readsOr : ByteArray := prog_5_method_9_code
def yX3_readsOr : MethodName := ⟨RX3, "readsOr", "(I)Z"⟩
abbrev cX3_readsAnd : ByteArray := prog_5_method_10_code
def yX3_readsAnd : MethodName := ⟨RX3, "readsAnd", "(I)Z"⟩
abbrev cX3_readsNot : ByteArray := prog_5_method_11_code
def yX3_readsNot : MethodName := ⟨RX3, "readsNot", "(I)Z"⟩
abbrev cX3_readsNotBehindNot : ByteArray := prog_5_method_12_code
def yX3_readsNotBehindNot : MethodName := ⟨RX3, "readsNotBehindNot", "(I)Z"⟩
abbrev cX3_readsSum : ByteArray := prog_5_method_13_code
def yX3_readsSum : MethodName := ⟨RX3, "readsSum", "(I)Z"⟩
abbrev cX3_readsTerm : ByteArray := prog_5_method_14_code
def yX3_readsTerm : MethodName := ⟨RX3, "readsTerm", "(I)Z"⟩
abbrev cX3_readsOne : ByteArray := prog_5_method_15_code
def yX3_readsOne : MethodName := ⟨RX3, "readsOne", "(I)Z"⟩
abbrev cX3_readsOneBehindMinus : ByteArray := prog_5_method_16_code
def yX3_readsOneBehindMinus : MethodName := ⟨RX3, "readsOneBehindMinus", "(I)Z"⟩
abbrev cX3_next : ByteArray := prog_5_method_17_code
def yX3_next : MethodName := ⟨RX3, "next", "()V"⟩
abbrev cX3_nextWord : ByteArray := prog_5_method_18_code
def yX3_nextWord : MethodName := ⟨RX3, "nextWord", "()V"⟩
abbrev cX3_spells : ByteArray := prog_5_method_19_code
def yX3_spells : MethodName := ⟨RX3, "spells", "(II)Z"⟩
abbrev cX3_nextNumber : ByteArray := prog_5_method_20_code
def yX3_nextNumber : MethodName := ⟨RX3, "nextNumber", "()V"⟩
abbrev cX3_isBlank : ByteArray := prog_5_method_21_code
def yX3_isBlank : MethodName := ⟨RX3, "isBlank", "(I)Z"⟩
abbrev cX3_isLetter : ByteArray := prog_5_method_22_code
def yX3_isLetter : MethodName := ⟨RX3, "isLetter", "(I)Z"⟩
abbrev cX3_isDigit : ByteArray := prog_5_method_23_code
def yX3_isDigit : MethodName := ⟨RX3, "isDigit", "(I)Z"⟩
abbrev cX3_isSign : ByteArray := prog_5_method_24_code
def yX3_isSign : MethodName := ⟨RX3, "isSign", "(I)Z"⟩
def RX4 : String := "SalvageOfDays$Text"
def TX4 : u_T := fun k => match k with
  | 0 => ("SalvageOfDays$Text", "number", "I", true)
  | 1 => ("SalvageOfDays$Text", "steps", "[I", true)
  | 2 => ("SalvageOfDays$Text", "stepCount", "I", false)
  | 3 => ("SalvageOfDays$Text", "ends", "[I", true)
  | 4 => ("SalvageOfDays$Text", "named", "[I", true)
  | _ => ("SalvageOfDays$Text", "stack", "[I", true)
def tyX4 : Nat → FieldType := fun k => match k with
  | 0 => .int
  | 1 => .array .int
  | 2 => .int
  | 3 => .array .int
  | 4 => .array .int
  | _ => .array .int
abbrev wsX40 : List Cond := u_ws RX4 TX4 6
theorem nmX4 : ∀ a, a < 6 → ∀ b, b < 6 → a ≠ b → (TX4 a).2.1 ≠ (TX4 b).2.1 := by decide +kernel
theorem tyX4_ok : ∀ k, k < 6 → parseFieldDescriptor (TX4 k).2.2.1 = some (tyX4 k) := by decide +kernel
abbrev cX4_init : ByteArray := prog_6_method_1_code
def yX4_init : MethodName := ⟨RX4, "<init>", "(I)V"⟩
abbrev cX4_clear : ByteArray := prog_6_method_2_code
def yX4_clear : MethodName := ⟨RX4, "clear", "()V"⟩
abbrev cX4_add : ByteArray := prog_6_method_3_code
def yX4_add : MethodName := ⟨RX4, "add", "(I)V"⟩
abbrev cX4_endPart : ByteArray := prog_6_method_4_code
def yX4_endPart : MethodName := ⟨RX4, "endPart", "(I)V"⟩
abbrev cX4_says : ByteArray := prog_6_method_5_code
def yX4_says : MethodName := ⟨RX4, "says", "(IIIIIII)I"⟩
abbrev cX4_joined : ByteArray := prog_6_method_6_code
def yX4_joined : MethodName := ⟨RX4, "joined", "(III)I"⟩
def RX5 : String := "SalvageOfDays"
def TX5 : u_T := fun k => match k with
  | 0 => ("SalvageOfDays", "tape", "LSalvageOfDays$Tape;", true)
  | 1 => ("SalvageOfDays", "texts", "[LSalvageOfDays$Text;", true)
  | 2 => ("SalvageOfDays", "textCount", "I", false)
  | 3 => ("SalvageOfDays", "sheets", "[LSalvageOfDays$Sheet;", true)
  | 4 => ("SalvageOfDays", "truth", "LSalvageOfDays$Scene;", true)
  | 5 => ("SalvageOfDays", "thought", "LSalvageOfDays$Scene;", true)
  | 6 => ("SalvageOfDays", "kept", "LSalvageOfDays$Scene;", true)
  | _ => ("SalvageOfDays", "isKept", "Z", false)
def tyX5 : Nat → FieldType := fun k => match k with
  | 0 => .object "SalvageOfDays$Tape"
  | 1 => .array (.object "SalvageOfDays$Text")
  | 2 => .int
  | 3 => .array (.object "SalvageOfDays$Sheet")
  | 4 => .object "SalvageOfDays$Scene"
  | 5 => .object "SalvageOfDays$Scene"
  | 6 => .object "SalvageOfDays$Scene"
  | _ => .boolean
abbrev wsX50 : List Cond := u_ws RX5 TX5 8
theorem nmX5 : ∀ a, a < 8 → ∀ b, b < 8 → a ≠ b → (TX5 a).2.1 ≠ (TX5 b).2.1 := by decide +kernel
theorem tyX5_ok : ∀ k, k < 8 → parseFieldDescriptor (TX5 k).2.2.1 = some (tyX5 k) := by decide +kernel
abbrev cX5_init : ByteArray := prog_1_method_1_code
def yX5_init : MethodName := ⟨RX5, "<init>", "()V"⟩
abbrev cX5_count : ByteArray := prog_1_method_2_code
def yX5_count : MethodName := ⟨RX5, "count", "(I)I"⟩
abbrev cX5_cask : ByteArray := prog_1_method_3_code
def yX5_cask : MethodName := ⟨RX5, "cask", "(III)I"⟩
abbrev cX5_lies : ByteArray := prog_1_method_4_code
def yX5_lies : MethodName := ⟨RX5, "lies", "(II)I"⟩
abbrev cX5_sky : ByteArray := prog_1_method_5_code
def yX5_sky : MethodName := ⟨RX5, "sky", "(II)I"⟩
abbrev cX5_setHour : ByteArray := prog_1_method_6_code
def yX5_setHour : MethodName := ⟨RX5, "setHour", "(I)I"⟩
abbrev cX5_feed : ByteArray := prog_1_method_7_code
def yX5_feed : MethodName := ⟨RX5, "feed", "(IIIIII)I"⟩
abbrev cX5_areBytes : ByteArray := prog_1_method_8_code
def yX5_areBytes : MethodName := ⟨RX5, "areBytes", "(IIIII)Z"⟩
abbrev cX5_text : ByteArray := prog_1_method_9_code
def yX5_text : MethodName := ⟨RX5, "text", "()I"⟩
abbrev cX5_force : ByteArray := prog_1_method_10_code
def yX5_force : MethodName := ⟨RX5, "force", "(I)I"⟩
abbrev cX5_asks : ByteArray := prog_1_method_11_code
def yX5_asks : MethodName := ⟨RX5, "asks", "(III)I"⟩
abbrev cX5_diver : ByteArray := prog_1_method_12_code
def yX5_diver : MethodName := ⟨RX5, "diver", "(II)I"⟩
abbrev cX5_put : ByteArray := prog_1_method_13_code
def yX5_put : MethodName := ⟨RX5, "put", "(II)I"⟩
abbrev cX5_told : ByteArray := prog_1_method_14_code
def yX5_told : MethodName := ⟨RX5, "told", "(II)I"⟩
abbrev cX5_dives : ByteArray := prog_1_method_15_code
def yX5_dives : MethodName := ⟨RX5, "dives", "(III)I"⟩
abbrev cX5_dive : ByteArray := prog_1_method_16_code
def yX5_dive : MethodName := ⟨RX5, "dive", "(II)I"⟩
abbrev cX5_open : ByteArray := prog_1_method_17_code
def yX5_open : MethodName := ⟨RX5, "open", "(I)I"⟩
abbrev cX5_hour : ByteArray := prog_1_method_18_code
def yX5_hour : MethodName := ⟨RX5, "hour", "()I"⟩
abbrev cX5_bay : ByteArray := prog_1_method_19_code
def yX5_bay : MethodName := ⟨RX5, "bay", "(I)I"⟩
abbrev cX5_run : ByteArray := prog_1_method_20_code
def yX5_run : MethodName := ⟨RX5, "run", "(II)I"⟩
abbrev cX5_stills : ByteArray := prog_1_method_21_code
def yX5_stills : MethodName := ⟨RX5, "stills", "()I"⟩
abbrev cX5_row : ByteArray := prog_1_method_22_code
def yX5_row : MethodName := ⟨RX5, "row", "(III)I"⟩
abbrev cX5_salvage : ByteArray := prog_1_method_23_code
def yX5_salvage : MethodName := ⟨RX5, "salvage", "(II)I"⟩
abbrev cX5_refusalOfRow : ByteArray := prog_1_method_24_code
def yX5_refusalOfRow : MethodName := ⟨RX5, "refusalOfRow", "(II)I"⟩
abbrev cX5_which : ByteArray := prog_1_method_25_code
def yX5_which : MethodName := ⟨RX5, "which", "(II)I"⟩
abbrev cX5_fairBehind : ByteArray := prog_1_method_26_code
def yX5_fairBehind : MethodName := ⟨RX5, "fairBehind", "(II)I"⟩
abbrev cX5_cargo : ByteArray := prog_1_method_27_code
def yX5_cargo : MethodName := ⟨RX5, "cargo", "(II)I"⟩
abbrev cX5_last : ByteArray := prog_1_method_28_code
def yX5_last : MethodName := ⟨RX5, "last", "(III)I"⟩
abbrev cX5_mostLeft : ByteArray := prog_1_method_29_code
def yX5_mostLeft : MethodName := ⟨RX5, "mostLeft", "(LSalvageOfDays$Scene;III)I"⟩
abbrev cX5_best : ByteArray := prog_1_method_30_code
def yX5_best : MethodName := ⟨RX5, "best", "(I)I"⟩
abbrev cX5_share : ByteArray := prog_1_method_31_code
def yX5_share : MethodName := ⟨RX5, "share", "(II)J"⟩
abbrev cX5_judge : ByteArray := prog_1_method_32_code
def yX5_judge : MethodName := ⟨RX5, "judge", "(II)I"⟩
abbrev cX5_opened : ByteArray := prog_1_method_33_code
def yX5_opened : MethodName := ⟨RX5, "opened", "(II)I"⟩
abbrev cX5_skies : ByteArray := prog_1_method_34_code
def yX5_skies : MethodName := ⟨RX5, "skies", "(III)I"⟩
abbrev cX5_whose : ByteArray := prog_1_method_35_code
def yX5_whose : MethodName := ⟨RX5, "whose", "(I)I"⟩
abbrev cX5_laws : ByteArray := prog_1_method_36_code
def yX5_laws : MethodName := ⟨RX5, "laws", "(II)I"⟩
abbrev cX5_film : ByteArray := prog_1_method_37_code
def yX5_film : MethodName := ⟨RX5, "film", "(III)I"⟩
abbrev cX5_refusalOfHours : ByteArray := prog_1_method_38_code
def yX5_refusalOfHours : MethodName := ⟨RX5, "refusalOfHours", "(II)I"⟩
abbrev cX5_kinds : ByteArray := prog_1_method_39_code
def yX5_kinds : MethodName := ⟨RX5, "kinds", "(III)I"⟩
abbrev cX5_breaths : ByteArray := prog_1_method_40_code
def yX5_breaths : MethodName := ⟨RX5, "breaths", "(III)I"⟩
abbrev cX5_refusalOfTries : ByteArray := prog_1_method_41_code
def yX5_refusalOfTries : MethodName := ⟨RX5, "refusalOfTries", "(III)I"⟩
abbrev cX5_drawn : ByteArray := prog_1_method_42_code
def yX5_drawn : MethodName := ⟨RX5, "drawn", "(II)I"⟩
abbrev cX5_odds : ByteArray := prog_1_method_43_code
def yX5_odds : MethodName := ⟨RX5, "odds", "(IIII)J"⟩
abbrev cX5_storm : ByteArray := prog_1_method_44_code
def yX5_storm : MethodName := ⟨RX5, "storm", "(I)V"⟩
abbrev cX5_nextLot : ByteArray := prog_1_method_45_code
def yX5_nextLot : MethodName := ⟨RX5, "nextLot", "(J)J"⟩
abbrev cX5_image : ByteArray := prog_1_method_46_code
def yX5_image : MethodName := ⟨RX5, "image", "()I"⟩
abbrev cX5_back : ByteArray := prog_1_method_47_code
def yX5_back : MethodName := ⟨RX5, "back", "()I"⟩
abbrev cX5_sheet : ByteArray := prog_1_method_48_code
def yX5_sheet : MethodName := ⟨RX5, "sheet", "(III)I"⟩
abbrev cX5_cell : ByteArray := prog_1_method_49_code
def yX5_cell : MethodName := ⟨RX5, "cell", "(III)I"⟩
abbrev cX5_copy : ByteArray := prog_1_method_50_code
def yX5_copy : MethodName := ⟨RX5, "copy", "(IIIII)I"⟩
abbrev cX5_diversBy : ByteArray := prog_1_method_51_code
def yX5_diversBy : MethodName := ⟨RX5, "diversBy", "(IIII)I"⟩
abbrev cX5_taken : ByteArray := prog_1_method_52_code
def yX5_taken : MethodName := ⟨RX5, "taken", "(II)I"⟩
abbrev cX5_isWithin : ByteArray := prog_1_method_53_code
def yX5_isWithin : MethodName := ⟨RX5, "isWithin", "(II)Z"⟩
abbrev cX5_isSort : ByteArray := prog_1_method_54_code
def yX5_isSort : MethodName := ⟨RX5, "isSort", "(I)Z"⟩
abbrev cX5_isCask : ByteArray := prog_1_method_55_code
def yX5_isCask : MethodName := ⟨RX5, "isCask", "(I)Z"⟩
abbrev cX5_isSheet : ByteArray := prog_1_method_56_code
def yX5_isSheet : MethodName := ⟨RX5, "isSheet", "(I)Z"⟩
abbrev cX5_isDiver : ByteArray := prog_1_method_57_code
def yX5_isDiver : MethodName := ⟨RX5, "isDiver", "(I)Z"⟩
abbrev cX5_refusalOfSheet : ByteArray := prog_1_method_58_code
def yX5_refusalOfSheet : MethodName := ⟨RX5, "refusalOfSheet", "(II)I"⟩
abbrev cX5_lowest : ByteArray := prog_1_method_59_code
def yX5_lowest : MethodName := ⟨RX5, "lowest", "(III)J"⟩
def RX6 : String := "SalvageOfDaysModel"
def TX6 : u_T := fun k => match k with
  | 0 => ("SalvageOfDaysModel", "divers", "I", false)
  | 1 => ("SalvageOfDaysModel", "kind", "[I", true)
  | 2 => ("SalvageOfDaysModel", "moreOf", "[I", true)
  | 3 => ("SalvageOfDaysModel", "rows", "[I", true)
  | 4 => ("SalvageOfDaysModel", "casks", "[I", true)
  | 5 => ("SalvageOfDaysModel", "weather", "[I", true)
  | 6 => ("SalvageOfDaysModel", "hours", "I", false)
  | 7 => ("SalvageOfDaysModel", "tape", "[I", true)
  | 8 => ("SalvageOfDaysModel", "taped", "I", false)
  | 9 => ("SalvageOfDaysModel", "codes", "[I", true)
  | 10 => ("SalvageOfDaysModel", "starts", "[I", true)
  | 11 => ("SalvageOfDaysModel", "texts", "I", false)
  | 12 => ("SalvageOfDaysModel", "rule", "I", false)
  | 13 => ("SalvageOfDaysModel", "hasImage", "Z", false)
  | 14 => ("SalvageOfDaysModel", "imageRows", "[I", true)
  | 15 => ("SalvageOfDaysModel", "imageHeld", "[I", true)
  | 16 => ("SalvageOfDaysModel", "sheetSort", "[I", true)
  | 17 => ("SalvageOfDaysModel", "sheetSize", "[I", true)
  | 18 => ("SalvageOfDaysModel", "cells", "[I", true)
  | 19 => ("SalvageOfDaysModel", "law", "[I", true)
  | 20 => ("SalvageOfDaysModel", "at", "I", false)
  | 21 => ("SalvageOfDaysModel", "begun", "I", false)
  | 22 => ("SalvageOfDaysModel", "token", "I", false)
  | 23 => ("SalvageOfDaysModel", "value", "I", false)
  | 24 => ("SalvageOfDaysModel", "words", "[I", true)
  | 25 => ("SalvageOfDaysModel", "held", "[I", true)
  | 26 => ("SalvageOfDaysModel", "heldMany", "I", false)
  | 27 => ("SalvageOfDaysModel", "opens", "I", false)
  | 28 => ("SalvageOfDaysModel", "out", "I", false)
  | 29 => ("SalvageOfDaysModel", "stack", "[I", true)
  | 30 => ("SalvageOfDaysModel", "named", "[I", true)
  | 31 => ("SalvageOfDaysModel", "kept", "[I", true)
  | 32 => ("SalvageOfDaysModel", "hoursGone", "I", false)
  | _ => ("SalvageOfDaysModel", "fairThen", "I", false)
def tyX6 : Nat → FieldType := fun k => match k with
  | 0 => .int
  | 1 => .array .int
  | 2 => .array .int
  | 3 => .array .int
  | 4 => .array .int
  | 5 => .array .int
  | 6 => .int
  | 7 => .array .int
  | 8 => .int
  | 9 => .array .int
  | 10 => .array .int
  | 11 => .int
  | 12 => .int
  | 13 => .boolean
  | 14 => .array .int
  | 15 => .array .int
  | 16 => .array .int
  | 17 => .array .int
  | 18 => .array .int
  | 19 => .array .int
  | 20 => .int
  | 21 => .int
  | 22 => .int
  | 23 => .int
  | 24 => .array .int
  | 25 => .array .int
  | 26 => .int
  | 27 => .int
  | 28 => .int
  | 29 => .array .int
  | 30 => .array .int
  | 31 => .array .int
  | 32 => .int
  | _ => .int
abbrev wsX60 : List Cond := u_ws RX6 TX6 34
theorem nmX6 : ∀ a, a < 34 → ∀ b, b < 34 → a ≠ b → (TX6 a).2.1 ≠ (TX6 b).2.1 := by decide +kernel
theorem tyX6_ok : ∀ k, k < 34 → parseFieldDescriptor (TX6 k).2.2.1 = some (tyX6 k) := by decide +kernel
abbrev cX6_init : ByteArray := prog_8_method_1_code
def yX6_init : MethodName := ⟨RX6, "<init>", "()V"⟩
abbrev cX6_in : ByteArray := prog_8_method_3_code
def yX6_in : MethodName := ⟨RX6, "in", "(III)Z"⟩
abbrev cX6_within : ByteArray := prog_8_method_4_code
def yX6_within : MethodName := ⟨RX6, "within", "(III)I"⟩
abbrev cX6_isOne : ByteArray := prog_8_method_5_code
def yX6_isOne : MethodName := ⟨RX6, "isOne", "(I)Z"⟩
abbrev cX6_isCask : ByteArray := prog_8_method_6_code
def yX6_isCask : MethodName := ⟨RX6, "isCask", "(I)Z"⟩
abbrev cX6_isSky : ByteArray := prog_8_method_7_code
def yX6_isSky : MethodName := ⟨RX6, "isSky", "(I)Z"⟩
abbrev cX6_placed : ByteArray := prog_8_method_8_code
def yX6_placed : MethodName := ⟨RX6, "placed", "(I)I"⟩
abbrev cX6_onesOf : ByteArray := prog_8_method_9_code
def yX6_onesOf : MethodName := ⟨RX6, "onesOf", "(I)I"⟩
abbrev cX6_count : ByteArray := prog_8_method_10_code
def yX6_count : MethodName := ⟨RX6, "count", "(I)I"⟩
abbrev cX6_cask : ByteArray := prog_8_method_11_code
def yX6_cask : MethodName := ⟨RX6, "cask", "(III)I"⟩
abbrev cX6_lies : ByteArray := prog_8_method_12_code
def yX6_lies : MethodName := ⟨RX6, "lies", "(II)I"⟩
abbrev cX6_sky : ByteArray := prog_8_method_13_code
def yX6_sky : MethodName := ⟨RX6, "sky", "(II)I"⟩
abbrev cX6_isByte : ByteArray := prog_8_method_14_code
def yX6_isByte : MethodName := ⟨RX6, "isByte", "(I)Z"⟩
abbrev cX6_feed : ByteArray := prog_8_method_15_code
def yX6_feed : MethodName := ⟨RX6, "feed", "(IIIIII)I"⟩
abbrev cX6_wordFrom : ByteArray := prog_8_method_16_code
def yX6_wordFrom : MethodName := ⟨RX6, "wordFrom", "(II)I"⟩
abbrev cX6_next : ByteArray := prog_8_method_17_code
def yX6_next : MethodName := ⟨RX6, "next", "()V"⟩
abbrev cX6_rank : ByteArray := prog_8_method_18_code
def yX6_rank : MethodName := ⟨RX6, "rank", "(I)I"⟩
abbrev cX6_puts : ByteArray := prog_8_method_19_code
def yX6_puts : MethodName := ⟨RX6, "puts", "(I)V"⟩
abbrev cX6_unwinds : ByteArray := prog_8_method_20_code
def yX6_unwinds : MethodName := ⟨RX6, "unwinds", "(I)V"⟩
abbrev cX6_holds : ByteArray := prog_8_method_21_code
def yX6_holds : MethodName := ⟨RX6, "holds", "(I)V"⟩
abbrev cX6_opensOne : ByteArray := prog_8_method_22_code
def yX6_opensOne : MethodName := ⟨RX6, "opensOne", "(I)Z"⟩
abbrev cX6_between : ByteArray := prog_8_method_23_code
def yX6_between : MethodName := ⟨RX6, "between", "(I)Z"⟩
abbrev cX6_signOf : ByteArray := prog_8_method_24_code
def yX6_signOf : MethodName := ⟨RX6, "signOf", "()I"⟩
abbrev cX6_eRead : ByteArray := prog_8_method_25_code
def yX6_eRead : MethodName := ⟨RX6, "eRead", "()Z"⟩
abbrev cX6_text : ByteArray := prog_8_method_26_code
def yX6_text : MethodName := ⟨RX6, "text", "()I"⟩
abbrev cX6_two : ByteArray := prog_8_method_27_code
def yX6_two : MethodName := ⟨RX6, "two", "(III)I"⟩
abbrev cX6_says : ByteArray := prog_8_method_28_code
def yX6_says : MethodName := ⟨RX6, "says", "(I)I"⟩
abbrev cX6_force : ByteArray := prog_8_method_29_code
def yX6_force : MethodName := ⟨RX6, "force", "(I)I"⟩
abbrev cX6_asksOf : ByteArray := prog_8_method_30_code
def yX6_asksOf : MethodName := ⟨RX6, "asksOf", "(III)I"⟩
abbrev cX6_asks : ByteArray := prog_8_method_31_code
def yX6_asks : MethodName := ⟨RX6, "asks", "(III)I"⟩
abbrev cX6_diver : ByteArray := prog_8_method_32_code
def yX6_diver : MethodName := ⟨RX6, "diver", "(II)I"⟩
abbrev cX6_put : ByteArray := prog_8_method_33_code
def yX6_put : MethodName := ⟨RX6, "put", "(II)I"⟩
abbrev cX6_reachesOf : ByteArray := prog_8_method_34_code
def yX6_reachesOf : MethodName := ⟨RX6, "reachesOf", "(II)I"⟩
abbrev cX6_costsOf : ByteArray := prog_8_method_35_code
def yX6_costsOf : MethodName := ⟨RX6, "costsOf", "(II)I"⟩
abbrev cX6_breathesOf : ByteArray := prog_8_method_36_code
def yX6_breathesOf : MethodName := ⟨RX6, "breathesOf", "(I)I"⟩
abbrev cX6_can : ByteArray := prog_8_method_37_code
def yX6_can : MethodName := ⟨RX6, "can", "(II)Z"⟩
abbrev cX6_canSet : ByteArray := prog_8_method_38_code
def yX6_canSet : MethodName := ⟨RX6, "canSet", "(I)I"⟩
abbrev cX6_told : ByteArray := prog_8_method_39_code
def yX6_told : MethodName := ⟨RX6, "told", "(II)I"⟩
abbrev cX6_dives : ByteArray := prog_8_method_40_code
def yX6_dives : MethodName := ⟨RX6, "dives", "(III)I"⟩
abbrev cX6_diveOf : ByteArray := prog_8_method_41_code
def yX6_diveOf : MethodName := ⟨RX6, "diveOf", "(II)V"⟩
abbrev cX6_dive : ByteArray := prog_8_method_42_code
def yX6_dive : MethodName := ⟨RX6, "dive", "(II)I"⟩
abbrev cX6_opens0 : ByteArray := prog_8_method_43_code
def yX6_opens0 : MethodName := ⟨RX6, "opens0", "(I)V"⟩
abbrev cX6_open : ByteArray := prog_8_method_44_code
def yX6_open : MethodName := ⟨RX6, "open", "(I)I"⟩
abbrev cX6_main0 : ByteArray := prog_8_method_45_code
def yX6_main0 : MethodName := ⟨RX6, "main0", "()I"⟩
abbrev cX6_fair : ByteArray := prog_8_method_46_code
def yX6_fair : MethodName := ⟨RX6, "fair", "()I"⟩
abbrev cX6_hourOf : ByteArray := prog_8_method_47_code
def yX6_hourOf : MethodName := ⟨RX6, "hourOf", "()V"⟩
abbrev cX6_hour : ByteArray := prog_8_method_48_code
def yX6_hour : MethodName := ⟨RX6, "hour", "()I"⟩
abbrev cX6_bayOf : ByteArray := prog_8_method_49_code
def yX6_bayOf : MethodName := ⟨RX6, "bayOf", "(I)I"⟩
abbrev cX6_bay : ByteArray := prog_8_method_50_code
def yX6_bay : MethodName := ⟨RX6, "bay", "(I)I"⟩
abbrev cX6_keeps : ByteArray := prog_8_method_51_code
def yX6_keeps : MethodName := ⟨RX6, "keeps", "()V"⟩
abbrev cX6_lays : ByteArray := prog_8_method_52_code
def yX6_lays : MethodName := ⟨RX6, "lays", "()V"⟩
abbrev cX6_goes : ByteArray := prog_8_method_53_code
def yX6_goes : MethodName := ⟨RX6, "goes", "(I)V"⟩
abbrev cX6_run : ByteArray := prog_8_method_54_code
def yX6_run : MethodName := ⟨RX6, "run", "(II)I"⟩
abbrev cX6_stills : ByteArray := prog_8_method_55_code
def yX6_stills : MethodName := ⟨RX6, "stills", "()I"⟩
abbrev cX6_rowWrong : ByteArray := prog_8_method_56_code
def yX6_rowWrong : MethodName := ⟨RX6, "rowWrong", "(II)I"⟩
abbrev cX6_rowOf : ByteArray := prog_8_method_57_code
def yX6_rowOf : MethodName := ⟨RX6, "rowOf", "(II)I"⟩
abbrev cX6_row : ByteArray := prog_8_method_58_code
def yX6_row : MethodName := ⟨RX6, "row", "(III)I"⟩
abbrev cX6_salvage : ByteArray := prog_8_method_59_code
def yX6_salvage : MethodName := ⟨RX6, "salvage", "(II)I"⟩
abbrev cX6_fairBehind : ByteArray := prog_8_method_60_code
def yX6_fairBehind : MethodName := ⟨RX6, "fairBehind", "(I)I"⟩
abbrev cX6_which : ByteArray := prog_8_method_61_code
def yX6_which : MethodName := ⟨RX6, "which", "(II)I"⟩
abbrev cX6_cargo : ByteArray := prog_8_method_62_code
def yX6_cargo : MethodName := ⟨RX6, "cargo", "(II)I"⟩
abbrev cX6_leftBy : ByteArray := prog_8_method_63_code
def yX6_leftBy : MethodName := ⟨RX6, "leftBy", "(IIII)I"⟩
abbrev cX6_last : ByteArray := prog_8_method_64_code
def yX6_last : MethodName := ⟨RX6, "last", "(III)I"⟩
abbrev cX6_best : ByteArray := prog_8_method_65_code
def yX6_best : MethodName := ⟨RX6, "best", "(I)I"⟩
abbrev cX6_lowest : ByteArray := prog_8_method_66_code
def yX6_lowest : MethodName := ⟨RX6, "lowest", "(JJI)J"⟩
abbrev cX6_share : ByteArray := prog_8_method_67_code
def yX6_share : MethodName := ⟨RX6, "share", "(II)J"⟩
abbrev cX6_sheetWrong : ByteArray := prog_8_method_68_code
def yX6_sheetWrong : MethodName := ⟨RX6, "sheetWrong", "(II)I"⟩
abbrev cX6_toldWrong : ByteArray := prog_8_method_69_code
def yX6_toldWrong : MethodName := ⟨RX6, "toldWrong", "(II)I"⟩
abbrev cX6_unlike : ByteArray := prog_8_method_70_code
def yX6_unlike : MethodName := ⟨RX6, "unlike", "(II)I"⟩
abbrev cX6_judge : ByteArray := prog_8_method_71_code
def yX6_judge : MethodName := ⟨RX6, "judge", "(II)I"⟩
abbrev cX6_opened : ByteArray := prog_8_method_72_code
def yX6_opened : MethodName := ⟨RX6, "opened", "(II)I"⟩
abbrev cX6_skies : ByteArray := prog_8_method_73_code
def yX6_skies : MethodName := ⟨RX6, "skies", "(III)I"⟩
abbrev cX6_whose : ByteArray := prog_8_method_74_code
def yX6_whose : MethodName := ⟨RX6, "whose", "(I)I"⟩
abbrev cX6_laws : ByteArray := prog_8_method_75_code
def yX6_laws : MethodName := ⟨RX6, "laws", "(II)I"⟩
abbrev cX6_film : ByteArray := prog_8_method_76_code
def yX6_film : MethodName := ⟨RX6, "film", "(III)I"⟩
abbrev cX6_divesWrong : ByteArray := prog_8_method_77_code
def yX6_divesWrong : MethodName := ⟨RX6, "divesWrong", "(II)I"⟩
abbrev cX6_divesSo : ByteArray := prog_8_method_78_code
def yX6_divesSo : MethodName := ⟨RX6, "divesSo", "(II)Z"⟩
abbrev cX6_kinds : ByteArray := prog_8_method_79_code
def yX6_kinds : MethodName := ⟨RX6, "kinds", "(III)I"⟩
abbrev cX6_breaths : ByteArray := prog_8_method_80_code
def yX6_breaths : MethodName := ⟨RX6, "breaths", "(III)I"⟩
abbrev cX6_storms : ByteArray := prog_8_method_81_code
def yX6_storms : MethodName := ⟨RX6, "storms", "(I)I"⟩
abbrev cX6_drawn : ByteArray := prog_8_method_82_code
def yX6_drawn : MethodName := ⟨RX6, "drawn", "(II)I"⟩
abbrev cX6_odds : ByteArray := prog_8_method_83_code
def yX6_odds : MethodName := ⟨RX6, "odds", "(IIII)J"⟩
abbrev cX6_image : ByteArray := prog_8_method_84_code
def yX6_image : MethodName := ⟨RX6, "image", "()I"⟩
abbrev cX6_back : ByteArray := prog_8_method_85_code
def yX6_back : MethodName := ⟨RX6, "back", "()I"⟩
abbrev cX6_sheet : ByteArray := prog_8_method_86_code
def yX6_sheet : MethodName := ⟨RX6, "sheet", "(III)I"⟩
abbrev cX6_cell : ByteArray := prog_8_method_87_code
def yX6_cell : MethodName := ⟨RX6, "cell", "(III)I"⟩
abbrev cX6_copy : ByteArray := prog_8_method_88_code
def yX6_copy : MethodName := ⟨RX6, "copy", "(IIIII)I"⟩
abbrev cX6_diversBy : ByteArray := prog_8_method_89_code
def yX6_diversBy : MethodName := ⟨RX6, "diversBy", "(IIII)I"⟩
abbrev cX6_isUnder : ByteArray := prog_8_method_90_code
def yX6_isUnder : MethodName := ⟨RX6, "isUnder", "(II)Z"⟩
abbrev cX6_taken : ByteArray := prog_8_method_91_code
def yX6_taken : MethodName := ⟨RX6, "taken", "(II)I"⟩
def RJ6 : String := "java/lang/Integer"
abbrev cJ6_bitCount_0f7a4 : ByteArray := prog_9_method_49_code
def yJ6_bitCount_0f7a4 : MethodName := ⟨RJ6, "bitCount", "(I)I"⟩
def RJ9 : String := "java/lang/Math"
abbrev cJ9_max_7cf53 : ByteArray := prog_10_method_65_code
def yJ9_max_7cf53 : MethodName := ⟨RJ9, "max", "(II)I"⟩
abbrev cJ9_min_7cf53 : ByteArray := prog_10_method_69_code
def yJ9_min_7cf53 : MethodName := ⟨RJ9, "min", "(II)I"⟩
def RJ0 : String := "java/lang/String"
abbrev cJ0_length_8abf5 : ByteArray := prog_11_method_54_code
def yJ0_length_8abf5 : MethodName := ⟨RJ0, "length", "()I"⟩
abbrev cJ0_charAt_5068e : ByteArray := prog_11_method_56_code
def yJ0_charAt_5068e : MethodName := ⟨RJ0, "charAt", "(I)C"⟩
abbrev cJ0_coder_7d493 : ByteArray := prog_11_method_152_code
def yJ0_coder_7d493 : MethodName := ⟨RJ0, "coder", "()B"⟩
abbrev cJ0_isLatin1_aae02 : ByteArray := prog_11_method_154_code
def yJ0_isLatin1_aae02 : MethodName := ⟨RJ0, "isLatin1", "()Z"⟩
abbrev cJ0_checkIndex_df160 : ByteArray := prog_11_method_155_code
def yJ0_checkIndex_df160 : MethodName := ⟨RJ0, "checkIndex", "(II)V"⟩
def RJ1 : String := "java/lang/StringLatin1"
abbrev cJ1_charAt_3b067 : ByteArray := prog_12_method_2_code
def yJ1_charAt_3b067 : MethodName := ⟨RJ1, "charAt", "([BI)C"⟩
def RJ2 : String := "java/lang/StringUTF16"
abbrev cJ2_getChar_3b067 : ByteArray := prog_13_method_5_code
def yJ2_getChar_3b067 : MethodName := ⟨RJ2, "getChar", "([BI)C"⟩
abbrev cJ2_length_9d52b : ByteArray := prog_13_method_6_code
def yJ2_length_9d52b : MethodName := ⟨RJ2, "length", "([B)I"⟩
abbrev cJ2_charAt_3b067 : ByteArray := prog_13_method_83_code
def yJ2_charAt_3b067 : MethodName := ⟨RJ2, "charAt", "([BI)C"⟩
abbrev cJ2_checkIndex_2214a : ByteArray := prog_13_method_91_code
def yJ2_checkIndex_2214a : MethodName := ⟨RJ2, "checkIndex", "(I[B)V"⟩
def RJ10 : String := "java/lang/System"
def RJ7 : String := "java/util/Arrays"
abbrev cJ7_fill_53178 : ByteArray := prog_15_method_103_code
def yJ7_fill_53178 : MethodName := ⟨RJ7, "fill", "([II)V"⟩
def RJ3 : String := "jdk/internal/util/Preconditions"
abbrev cJ3_checkIndex_8e157 : ByteArray := prog_16_method_11_code
def yJ3_checkIndex_8e157 : MethodName := ⟨RJ3, "checkIndex", "(IILjava/util/function/BiFunction;)I"⟩
def RL : String := "SalvageOfDaysLaw"
abbrev cL_law : ByteArray := code
def yL_law : MethodName := ⟨RL, "law", "([I)Z"⟩
abbrev vwCl : List vw_C := [(RX1, TX1, 12), (RX2, TX2, 3), (RX3, TX3, 7), (RX4, TX4, 6), (RX5, TX5, 8), (RX6, TX6, 34)]
