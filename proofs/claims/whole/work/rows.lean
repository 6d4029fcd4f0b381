section
-- ===== PART A: goes FIRST, ahead of the names: the tables' words, and 'selects' of the private methods out of them =====
/-- a private method of a class that the tables say can be made, by its rows of tables_1 -/
def lw_okq (q : MethodName × Nat) : Prop := (q.1.cls ≠ "java/lang/invoke/MethodHandle" ∧ q.1.cls ≠ "java/lang/invoke/VarHandle") ∧ Cond.instantiable q.1.cls q.2 ∈ tables_1 ∧ Cond.privateMethod q.1 ∈ tables_1 ∧ Cond.instanceMethod q.1 ∈ tables_1
theorem lw_p0 : lw_okq (⟨"WoodenMains", "isPlace", "(I)Z"⟩, 15) := ⟨⟨by decide +kernel, by decide +kernel⟩, List.mem_of_getElem? (i := 23) (by decide +kernel), List.mem_of_getElem? (i := 210) (by decide +kernel), List.mem_of_getElem? (i := 211) (by decide +kernel)⟩
theorem lw_p1 : lw_okq (⟨"WoodenMains", "streetAt", "(I)LWoodenMains$Street;"⟩, 15) := ⟨⟨by decide +kernel, by decide +kernel⟩, List.mem_of_getElem? (i := 23) (by decide +kernel), List.mem_of_getElem? (i := 214) (by decide +kernel), List.mem_of_getElem? (i := 215) (by decide +kernel)⟩
theorem lw_p2 : lw_okq (⟨"WoodenMains", "refuse", "(I)I"⟩, 15) := ⟨⟨by decide +kernel, by decide +kernel⟩, List.mem_of_getElem? (i := 23) (by decide +kernel), List.mem_of_getElem? (i := 237) (by decide +kernel), List.mem_of_getElem? (i := 238) (by decide +kernel)⟩
theorem lw_p3 : lw_okq (⟨"WoodenMains", "weekNow", "()I"⟩, 15) := ⟨⟨by decide +kernel, by decide +kernel⟩, List.mem_of_getElem? (i := 23) (by decide +kernel), List.mem_of_getElem? (i := 242) (by decide +kernel), List.mem_of_getElem? (i := 243) (by decide +kernel)⟩
theorem lw_p4 : lw_okq (⟨"java/util/ArrayList", "add", "(Ljava/lang/Object;[Ljava/lang/Object;I)V"⟩, 3) := ⟨⟨by decide +kernel, by decide +kernel⟩, List.mem_of_getElem? (i := 31) (by decide +kernel), List.mem_of_getElem? (i := 297) (by decide +kernel), List.mem_of_getElem? (i := 298) (by decide +kernel)⟩
theorem lw_p5 : lw_okq (⟨"java/util/ArrayList", "grow", "()[Ljava/lang/Object;"⟩, 3) := ⟨⟨by decide +kernel, by decide +kernel⟩, List.mem_of_getElem? (i := 31) (by decide +kernel), List.mem_of_getElem? (i := 301) (by decide +kernel), List.mem_of_getElem? (i := 302) (by decide +kernel)⟩
theorem lw_p6 : lw_okq (⟨"java/util/ArrayList", "grow", "(I)[Ljava/lang/Object;"⟩, 3) := ⟨⟨by decide +kernel, by decide +kernel⟩, List.mem_of_getElem? (i := 31) (by decide +kernel), List.mem_of_getElem? (i := 305) (by decide +kernel), List.mem_of_getElem? (i := 306) (by decide +kernel)⟩
theorem lw_p7 : lw_okq (⟨"WoodenMains", "rowAt", "(I)LWoodenMains$Row;"⟩, 15) := ⟨⟨by decide +kernel, by decide +kernel⟩, List.mem_of_getElem? (i := 23) (by decide +kernel), List.mem_of_getElem? (i := 419) (by decide +kernel), List.mem_of_getElem? (i := 420) (by decide +kernel)⟩
theorem lw_p8 : lw_okq (⟨"WoodenMains", "houseAt", "(I)LWoodenMains$House;"⟩, 15) := ⟨⟨by decide +kernel, by decide +kernel⟩, List.mem_of_getElem? (i := 23) (by decide +kernel), List.mem_of_getElem? (i := 459) (by decide +kernel), List.mem_of_getElem? (i := 460) (by decide +kernel)⟩
theorem lw_p9 : lw_okq (⟨"WoodenMains", "refuseAside", "(I)I"⟩, 15) := ⟨⟨by decide +kernel, by decide +kernel⟩, List.mem_of_getElem? (i := 23) (by decide +kernel), List.mem_of_getElem? (i := 463) (by decide +kernel), List.mem_of_getElem? (i := 464) (by decide +kernel)⟩
theorem lw_p10 : lw_okq (⟨"WoodenMains", "isClash", "(LWoodenMains$Turn;LWoodenMains$Turn;)Z"⟩, 15) := ⟨⟨by decide +kernel, by decide +kernel⟩, List.mem_of_getElem? (i := 23) (by decide +kernel), List.mem_of_getElem? (i := 552) (by decide +kernel), List.mem_of_getElem? (i := 553) (by decide +kernel)⟩
theorem lw_p11 : lw_okq (⟨"WoodenMains", "stepsBetween", "(II)I"⟩, 15) := ⟨⟨by decide +kernel, by decide +kernel⟩, List.mem_of_getElem? (i := 23) (by decide +kernel), List.mem_of_getElem? (i := 567) (by decide +kernel), List.mem_of_getElem? (i := 568) (by decide +kernel)⟩
theorem lw_p12 : lw_okq (⟨"WoodenMains", "placeAheadOf", "(I)I"⟩, 15) := ⟨⟨by decide +kernel, by decide +kernel⟩, List.mem_of_getElem? (i := 23) (by decide +kernel), List.mem_of_getElem? (i := 571) (by decide +kernel), List.mem_of_getElem? (i := 572) (by decide +kernel)⟩
theorem lw_p13 : lw_okq (⟨"WoodenMains", "passHour", "()V"⟩, 15) := ⟨⟨by decide +kernel, by decide +kernel⟩, List.mem_of_getElem? (i := 23) (by decide +kernel), List.mem_of_getElem? (i := 579) (by decide +kernel), List.mem_of_getElem? (i := 580) (by decide +kernel)⟩
theorem lw_p14 : lw_okq (⟨"WoodenMains", "pump", "()I"⟩, 15) := ⟨⟨by decide +kernel, by decide +kernel⟩, List.mem_of_getElem? (i := 23) (by decide +kernel), List.mem_of_getElem? (i := 583) (by decide +kernel), List.mem_of_getElem? (i := 584) (by decide +kernel)⟩
theorem lw_p15 : lw_okq (⟨"WoodenMains", "leak", "(II)I"⟩, 15) := ⟨⟨by decide +kernel, by decide +kernel⟩, List.mem_of_getElem? (i := 23) (by decide +kernel), List.mem_of_getElem? (i := 587) (by decide +kernel), List.mem_of_getElem? (i := 588) (by decide +kernel)⟩
def lw_privs_1 : List (MethodName × Nat) := [(⟨"WoodenMains", "isPlace", "(I)Z"⟩, 15), (⟨"WoodenMains", "streetAt", "(I)LWoodenMains$Street;"⟩, 15), (⟨"WoodenMains", "refuse", "(I)I"⟩, 15), (⟨"WoodenMains", "weekNow", "()I"⟩, 15), (⟨"java/util/ArrayList", "add", "(Ljava/lang/Object;[Ljava/lang/Object;I)V"⟩, 3), (⟨"java/util/ArrayList", "grow", "()[Ljava/lang/Object;"⟩, 3), (⟨"java/util/ArrayList", "grow", "(I)[Ljava/lang/Object;"⟩, 3), (⟨"WoodenMains", "rowAt", "(I)LWoodenMains$Row;"⟩, 15), (⟨"WoodenMains", "houseAt", "(I)LWoodenMains$House;"⟩, 15), (⟨"WoodenMains", "refuseAside", "(I)I"⟩, 15), (⟨"WoodenMains", "isClash", "(LWoodenMains$Turn;LWoodenMains$Turn;)Z"⟩, 15), (⟨"WoodenMains", "stepsBetween", "(II)I"⟩, 15), (⟨"WoodenMains", "placeAheadOf", "(I)I"⟩, 15), (⟨"WoodenMains", "passHour", "()V"⟩, 15), (⟨"WoodenMains", "pump", "()I"⟩, 15), (⟨"WoodenMains", "leak", "(II)I"⟩, 15)]
theorem lw_r1 : ∀ q ∈ lw_privs_1, lw_okq q := List.forall_mem_cons.mpr ⟨lw_p0, List.forall_mem_cons.mpr ⟨lw_p1, List.forall_mem_cons.mpr ⟨lw_p2, List.forall_mem_cons.mpr ⟨lw_p3, List.forall_mem_cons.mpr ⟨lw_p4, List.forall_mem_cons.mpr ⟨lw_p5, List.forall_mem_cons.mpr ⟨lw_p6, List.forall_mem_cons.mpr ⟨lw_p7, List.forall_mem_cons.mpr ⟨lw_p8, List.forall_mem_cons.mpr ⟨lw_p9, List.forall_mem_cons.mpr ⟨lw_p10, List.forall_mem_cons.mpr ⟨lw_p11, List.forall_mem_cons.mpr ⟨lw_p12, List.forall_mem_cons.mpr ⟨lw_p13, List.forall_mem_cons.mpr ⟨lw_p14, List.forall_mem_cons.mpr ⟨lw_p15, fun _ h => absurd h List.not_mem_nil⟩⟩⟩⟩⟩⟩⟩⟩⟩⟩⟩⟩⟩⟩⟩⟩
theorem lw_p16 : lw_okq (⟨"WoodenMains", "serve", "(II)I"⟩, 15) := ⟨⟨by decide +kernel, by decide +kernel⟩, List.mem_of_getElem? (i := 23) (by decide +kernel), List.mem_of_getElem? (i := 595) (by decide +kernel), List.mem_of_getElem? (i := 596) (by decide +kernel)⟩
theorem lw_p17 : lw_okq (⟨"WoodenMains$Street", "takeByPlug", "(ILWoodenMains$Tally;)I"⟩, 11) := ⟨⟨by decide +kernel, by decide +kernel⟩, List.mem_of_getElem? (i := 240) (by decide +kernel), List.mem_of_getElem? (i := 603) (by decide +kernel), List.mem_of_getElem? (i := 604) (by decide +kernel)⟩
theorem lw_p18 : lw_okq (⟨"WoodenMains$Street", "takeByTun", "(ILWoodenMains$Tally;)I"⟩, 11) := ⟨⟨by decide +kernel, by decide +kernel⟩, List.mem_of_getElem? (i := 240) (by decide +kernel), List.mem_of_getElem? (i := 608) (by decide +kernel), List.mem_of_getElem? (i := 609) (by decide +kernel)⟩
theorem lw_p19 : lw_okq (⟨"WoodenMains", "drink", "()V"⟩, 15) := ⟨⟨by decide +kernel, by decide +kernel⟩, List.mem_of_getElem? (i := 23) (by decide +kernel), List.mem_of_getElem? (i := 621) (by decide +kernel), List.mem_of_getElem? (i := 622) (by decide +kernel)⟩
theorem lw_p20 : lw_okq (⟨"WoodenMains", "useNow", "(LWoodenMains$House;)I"⟩, 15) := ⟨⟨by decide +kernel, by decide +kernel⟩, List.mem_of_getElem? (i := 23) (by decide +kernel), List.mem_of_getElem? (i := 625) (by decide +kernel), List.mem_of_getElem? (i := 626) (by decide +kernel)⟩
theorem lw_p21 : lw_okq (⟨"WoodenMains", "shutUpTo", "(I)I"⟩, 15) := ⟨⟨by decide +kernel, by decide +kernel⟩, List.mem_of_getElem? (i := 23) (by decide +kernel), List.mem_of_getElem? (i := 657) (by decide +kernel), List.mem_of_getElem? (i := 658) (by decide +kernel)⟩
theorem lw_p22 : lw_okq (⟨"WoodenMains", "quickestCock", "(I)I"⟩, 15) := ⟨⟨by decide +kernel, by decide +kernel⟩, List.mem_of_getElem? (i := 23) (by decide +kernel), List.mem_of_getElem? (i := 667) (by decide +kernel), List.mem_of_getElem? (i := 668) (by decide +kernel)⟩
theorem lw_p23 : lw_okq (⟨"WoodenMains", "walkLength", "(II)I"⟩, 15) := ⟨⟨by decide +kernel, by decide +kernel⟩, List.mem_of_getElem? (i := 23) (by decide +kernel), List.mem_of_getElem? (i := 671) (by decide +kernel), List.mem_of_getElem? (i := 672) (by decide +kernel)⟩
theorem lw_p24 : lw_okq (⟨"WoodenMains", "findIron", "(I)I"⟩, 15) := ⟨⟨by decide +kernel, by decide +kernel⟩, List.mem_of_getElem? (i := 23) (by decide +kernel), List.mem_of_getElem? (i := 702) (by decide +kernel), List.mem_of_getElem? (i := 703) (by decide +kernel)⟩
theorem lw_p25 : lw_okq (⟨"WoodenMains$IronSearch", "isBetter", "(II)Z"⟩, 2) := ⟨⟨by decide +kernel, by decide +kernel⟩, List.mem_of_getElem? (i := 101) (by decide +kernel), List.mem_of_getElem? (i := 718) (by decide +kernel), List.mem_of_getElem? (i := 719) (by decide +kernel)⟩
theorem lw_p26 : lw_okq (⟨"WoodenMains", "refusalOfDays", "(II)I"⟩, 15) := ⟨⟨by decide +kernel, by decide +kernel⟩, List.mem_of_getElem? (i := 23) (by decide +kernel), List.mem_of_getElem? (i := 735) (by decide +kernel), List.mem_of_getElem? (i := 736) (by decide +kernel)⟩
theorem lw_p27 : lw_okq (⟨"WoodenMains", "findDays", "(II)V"⟩, 15) := ⟨⟨by decide +kernel, by decide +kernel⟩, List.mem_of_getElem? (i := 23) (by decide +kernel), List.mem_of_getElem? (i := 739) (by decide +kernel), List.mem_of_getElem? (i := 740) (by decide +kernel)⟩
theorem lw_p28 : lw_okq (⟨"WoodenMains$DaySearch", "tryFrom", "(II)V"⟩, 8) := ⟨⟨by decide +kernel, by decide +kernel⟩, List.mem_of_getElem? (i := 114) (by decide +kernel), List.mem_of_getElem? (i := 761) (by decide +kernel), List.mem_of_getElem? (i := 762) (by decide +kernel)⟩
theorem lw_p29 : lw_okq (⟨"WoodenMains$DaySearch", "weigh", "()V"⟩, 8) := ⟨⟨by decide +kernel, by decide +kernel⟩, List.mem_of_getElem? (i := 114) (by decide +kernel), List.mem_of_getElem? (i := 765) (by decide +kernel), List.mem_of_getElem? (i := 766) (by decide +kernel)⟩
theorem lw_p30 : lw_okq (⟨"WoodenMains", "lawOn", "(I)LWoodenMains$Law;"⟩, 15) := ⟨⟨by decide +kernel, by decide +kernel⟩, List.mem_of_getElem? (i := 23) (by decide +kernel), List.mem_of_getElem? (i := 807) (by decide +kernel), List.mem_of_getElem? (i := 808) (by decide +kernel)⟩
theorem lw_p31 : lw_okq (⟨"WoodenMainsModel", "refuse", "(I)I"⟩, 58) := ⟨⟨by decide +kernel, by decide +kernel⟩, List.mem_of_getElem? (i := 827) (by decide +kernel), List.mem_of_getElem? (i := 1016) (by decide +kernel), List.mem_of_getElem? (i := 1017) (by decide +kernel)⟩
def lw_privs_2 : List (MethodName × Nat) := [(⟨"WoodenMains", "serve", "(II)I"⟩, 15), (⟨"WoodenMains$Street", "takeByPlug", "(ILWoodenMains$Tally;)I"⟩, 11), (⟨"WoodenMains$Street", "takeByTun", "(ILWoodenMains$Tally;)I"⟩, 11), (⟨"WoodenMains", "drink", "()V"⟩, 15), (⟨"WoodenMains", "useNow", "(LWoodenMains$House;)I"⟩, 15), (⟨"WoodenMains", "shutUpTo", "(I)I"⟩, 15), (⟨"WoodenMains", "quickestCock", "(I)I"⟩, 15), (⟨"WoodenMains", "walkLength", "(II)I"⟩, 15), (⟨"WoodenMains", "findIron", "(I)I"⟩, 15), (⟨"WoodenMains$IronSearch", "isBetter", "(II)Z"⟩, 2), (⟨"WoodenMains", "refusalOfDays", "(II)I"⟩, 15), (⟨"WoodenMains", "findDays", "(II)V"⟩, 15), (⟨"WoodenMains$DaySearch", "tryFrom", "(II)V"⟩, 8), (⟨"WoodenMains$DaySearch", "weigh", "()V"⟩, 8), (⟨"WoodenMains", "lawOn", "(I)LWoodenMains$Law;"⟩, 15), (⟨"WoodenMainsModel", "refuse", "(I)I"⟩, 58)]
theorem lw_r2 : ∀ q ∈ lw_privs_2, lw_okq q := List.forall_mem_cons.mpr ⟨lw_p16, List.forall_mem_cons.mpr ⟨lw_p17, List.forall_mem_cons.mpr ⟨lw_p18, List.forall_mem_cons.mpr ⟨lw_p19, List.forall_mem_cons.mpr ⟨lw_p20, List.forall_mem_cons.mpr ⟨lw_p21, List.forall_mem_cons.mpr ⟨lw_p22, List.forall_mem_cons.mpr ⟨lw_p23, List.forall_mem_cons.mpr ⟨lw_p24, List.forall_mem_cons.mpr ⟨lw_p25, List.forall_mem_cons.mpr ⟨lw_p26, List.forall_mem_cons.mpr ⟨lw_p27, List.forall_mem_cons.mpr ⟨lw_p28, List.forall_mem_cons.mpr ⟨lw_p29, List.forall_mem_cons.mpr ⟨lw_p30, List.forall_mem_cons.mpr ⟨lw_p31, fun _ h => absurd h List.not_mem_nil⟩⟩⟩⟩⟩⟩⟩⟩⟩⟩⟩⟩⟩⟩⟩⟩
theorem lw_p32 : lw_okq (⟨"WoodenMainsModel", "isStreet", "(I)Z"⟩, 58) := ⟨⟨by decide +kernel, by decide +kernel⟩, List.mem_of_getElem? (i := 827) (by decide +kernel), List.mem_of_getElem? (i := 1033) (by decide +kernel), List.mem_of_getElem? (i := 1034) (by decide +kernel)⟩
theorem lw_p33 : lw_okq (⟨"WoodenMainsModel", "isHouse", "(I)Z"⟩, 58) := ⟨⟨by decide +kernel, by decide +kernel⟩, List.mem_of_getElem? (i := 827) (by decide +kernel), List.mem_of_getElem? (i := 1057) (by decide +kernel), List.mem_of_getElem? (i := 1058) (by decide +kernel)⟩
theorem lw_p34 : lw_okq (⟨"WoodenMainsModel", "isLet", "(II)Z"⟩, 58) := ⟨⟨by decide +kernel, by decide +kernel⟩, List.mem_of_getElem? (i := 827) (by decide +kernel), List.mem_of_getElem? (i := 1086) (by decide +kernel), List.mem_of_getElem? (i := 1087) (by decide +kernel)⟩
theorem lw_p35 : lw_okq (⟨"WoodenMainsModel", "isOpen", "(II)Z"⟩, 58) := ⟨⟨by decide +kernel, by decide +kernel⟩, List.mem_of_getElem? (i := 827) (by decide +kernel), List.mem_of_getElem? (i := 1090) (by decide +kernel), List.mem_of_getElem? (i := 1091) (by decide +kernel)⟩
theorem lw_p36 : lw_okq (⟨"WoodenMainsModel", "wayOf", "(II)I"⟩, 58) := ⟨⟨by decide +kernel, by decide +kernel⟩, List.mem_of_getElem? (i := 827) (by decide +kernel), List.mem_of_getElem? (i := 1098) (by decide +kernel), List.mem_of_getElem? (i := 1099) (by decide +kernel)⟩
theorem lw_p37 : lw_okq (⟨"WoodenMainsModel", "isOnWay", "(II)Z"⟩, 58) := ⟨⟨by decide +kernel, by decide +kernel⟩, List.mem_of_getElem? (i := 827) (by decide +kernel), List.mem_of_getElem? (i := 1102) (by decide +kernel), List.mem_of_getElem? (i := 1103) (by decide +kernel)⟩
theorem lw_p38 : lw_okq (⟨"WoodenMainsModel", "clash", "(II)Z"⟩, 58) := ⟨⟨by decide +kernel, by decide +kernel⟩, List.mem_of_getElem? (i := 827) (by decide +kernel), List.mem_of_getElem? (i := 1110) (by decide +kernel), List.mem_of_getElem? (i := 1111) (by decide +kernel)⟩
theorem lw_p39 : lw_okq (⟨"WoodenMainsModel", "pass", "()V"⟩, 58) := ⟨⟨by decide +kernel, by decide +kernel⟩, List.mem_of_getElem? (i := 827) (by decide +kernel), List.mem_of_getElem? (i := 1118) (by decide +kernel), List.mem_of_getElem? (i := 1119) (by decide +kernel)⟩
theorem lw_p40 : lw_okq (⟨"WoodenMainsModel", "dripOf", "(I)I"⟩, 58) := ⟨⟨by decide +kernel, by decide +kernel⟩, List.mem_of_getElem? (i := 827) (by decide +kernel), List.mem_of_getElem? (i := 1122) (by decide +kernel), List.mem_of_getElem? (i := 1123) (by decide +kernel)⟩
theorem lw_p41 : lw_okq (⟨"WoodenMainsModel", "take", "(I)I"⟩, 58) := ⟨⟨by decide +kernel, by decide +kernel⟩, List.mem_of_getElem? (i := 827) (by decide +kernel), List.mem_of_getElem? (i := 1126) (by decide +kernel), List.mem_of_getElem? (i := 1127) (by decide +kernel)⟩
theorem lw_p42 : lw_okq (⟨"WoodenMainsModel", "serve", "(I)V"⟩, 58) := ⟨⟨by decide +kernel, by decide +kernel⟩, List.mem_of_getElem? (i := 827) (by decide +kernel), List.mem_of_getElem? (i := 1133) (by decide +kernel), List.mem_of_getElem? (i := 1134) (by decide +kernel)⟩
theorem lw_p43 : lw_okq (⟨"WoodenMainsModel", "fillHouse", "(I)V"⟩, 58) := ⟨⟨by decide +kernel, by decide +kernel⟩, List.mem_of_getElem? (i := 827) (by decide +kernel), List.mem_of_getElem? (i := 1137) (by decide +kernel), List.mem_of_getElem? (i := 1138) (by decide +kernel)⟩
theorem lw_p44 : lw_okq (⟨"WoodenMainsModel", "useOf", "(I)I"⟩, 58) := ⟨⟨by decide +kernel, by decide +kernel⟩, List.mem_of_getElem? (i := 827) (by decide +kernel), List.mem_of_getElem? (i := 1141) (by decide +kernel), List.mem_of_getElem? (i := 1142) (by decide +kernel)⟩
theorem lw_p45 : lw_okq (⟨"WoodenMainsModel", "findBest", "(I)V"⟩, 58) := ⟨⟨by decide +kernel, by decide +kernel⟩, List.mem_of_getElem? (i := 827) (by decide +kernel), List.mem_of_getElem? (i := 1173) (by decide +kernel), List.mem_of_getElem? (i := 1174) (by decide +kernel)⟩
theorem lw_p46 : lw_okq (⟨"WoodenMainsModel", "worthOf", "(I)I"⟩, 58) := ⟨⟨by decide +kernel, by decide +kernel⟩, List.mem_of_getElem? (i := 827) (by decide +kernel), List.mem_of_getElem? (i := 1177) (by decide +kernel), List.mem_of_getElem? (i := 1178) (by decide +kernel)⟩
theorem lw_p47 : lw_okq (⟨"WoodenMainsModel", "wrongDays", "(II)I"⟩, 58) := ⟨⟨by decide +kernel, by decide +kernel⟩, List.mem_of_getElem? (i := 827) (by decide +kernel), List.mem_of_getElem? (i := 1192) (by decide +kernel), List.mem_of_getElem? (i := 1193) (by decide +kernel)⟩
def lw_privs_3 : List (MethodName × Nat) := [(⟨"WoodenMainsModel", "isStreet", "(I)Z"⟩, 58), (⟨"WoodenMainsModel", "isHouse", "(I)Z"⟩, 58), (⟨"WoodenMainsModel", "isLet", "(II)Z"⟩, 58), (⟨"WoodenMainsModel", "isOpen", "(II)Z"⟩, 58), (⟨"WoodenMainsModel", "wayOf", "(II)I"⟩, 58), (⟨"WoodenMainsModel", "isOnWay", "(II)Z"⟩, 58), (⟨"WoodenMainsModel", "clash", "(II)Z"⟩, 58), (⟨"WoodenMainsModel", "pass", "()V"⟩, 58), (⟨"WoodenMainsModel", "dripOf", "(I)I"⟩, 58), (⟨"WoodenMainsModel", "take", "(I)I"⟩, 58), (⟨"WoodenMainsModel", "serve", "(I)V"⟩, 58), (⟨"WoodenMainsModel", "fillHouse", "(I)V"⟩, 58), (⟨"WoodenMainsModel", "useOf", "(I)I"⟩, 58), (⟨"WoodenMainsModel", "findBest", "(I)V"⟩, 58), (⟨"WoodenMainsModel", "worthOf", "(I)I"⟩, 58), (⟨"WoodenMainsModel", "wrongDays", "(II)I"⟩, 58)]
theorem lw_r3 : ∀ q ∈ lw_privs_3, lw_okq q := List.forall_mem_cons.mpr ⟨lw_p32, List.forall_mem_cons.mpr ⟨lw_p33, List.forall_mem_cons.mpr ⟨lw_p34, List.forall_mem_cons.mpr ⟨lw_p35, List.forall_mem_cons.mpr ⟨lw_p36, List.forall_mem_cons.mpr ⟨lw_p37, List.forall_mem_cons.mpr ⟨lw_p38, List.forall_mem_cons.mpr ⟨lw_p39, List.forall_mem_cons.mpr ⟨lw_p40, List.forall_mem_cons.mpr ⟨lw_p41, List.forall_mem_cons.mpr ⟨lw_p42, List.forall_mem_cons.mpr ⟨lw_p43, List.forall_mem_cons.mpr ⟨lw_p44, List.forall_mem_cons.mpr ⟨lw_p45, List.forall_mem_cons.mpr ⟨lw_p46, List.forall_mem_cons.mpr ⟨lw_p47, fun _ h => absurd h List.not_mem_nil⟩⟩⟩⟩⟩⟩⟩⟩⟩⟩⟩⟩⟩⟩⟩⟩
theorem lw_p48 : lw_okq (⟨"WoodenMainsModel", "findDays", "(II)I"⟩, 58) := ⟨⟨by decide +kernel, by decide +kernel⟩, List.mem_of_getElem? (i := 827) (by decide +kernel), List.mem_of_getElem? (i := 1196) (by decide +kernel), List.mem_of_getElem? (i := 1197) (by decide +kernel)⟩
theorem lw_p49 : lw_okq (⟨"WoodenMainsModel", "needOf", "(I)I"⟩, 58) := ⟨⟨by decide +kernel, by decide +kernel⟩, List.mem_of_getElem? (i := 827) (by decide +kernel), List.mem_of_getElem? (i := 1200) (by decide +kernel), List.mem_of_getElem? (i := 1201) (by decide +kernel)⟩
def lw_privs_4 : List (MethodName × Nat) := [(⟨"WoodenMainsModel", "findDays", "(II)I"⟩, 58), (⟨"WoodenMainsModel", "needOf", "(I)I"⟩, 58)]
theorem lw_r4 : ∀ q ∈ lw_privs_4, lw_okq q := List.forall_mem_cons.mpr ⟨lw_p48, List.forall_mem_cons.mpr ⟨lw_p49, fun _ h => absurd h List.not_mem_nil⟩⟩
def lw_privs : List (MethodName × Nat) := lw_privs_1 ++ (lw_privs_2 ++ (lw_privs_3 ++ (lw_privs_4)))
def lw_tbl : List Cond := k2_sels lw_privs ++ tables_1
theorem lw_privs_ok : ∀ q ∈ lw_privs, lw_okq q := by
  show ∀ q ∈ lw_privs_1 ++ (lw_privs_2 ++ (lw_privs_3 ++ (lw_privs_4))), lw_okq q
  exact List.forall_mem_append.mpr ⟨lw_r1, List.forall_mem_append.mpr ⟨lw_r2, List.forall_mem_append.mpr ⟨lw_r3, lw_r4⟩⟩⟩
end
section
def RX0 : String := "WoodenMains$DaySearch"
def TX0 : u_T := fun k => match k with
  | 0 => ("WoodenMains$DaySearch", "needs", "[I", true)
  | 1 => ("WoodenMains$DaySearch", "trialDays", "[I", true)
  | 2 => ("WoodenMains$DaySearch", "bestDays", "[I", true)
  | 3 => ("WoodenMains$DaySearch", "loads", "[I", true)
  | 4 => ("WoodenMains$DaySearch", "told", "I", false)
  | 5 => ("WoodenMains$DaySearch", "sum", "I", false)
  | 6 => ("WoodenMains$DaySearch", "bestGreatest", "I", false)
  | _ => ("WoodenMains$DaySearch", "bestLack", "I", false)
def tyX0 : Nat → FieldType := fun k => match k with
  | 0 => .array .int
  | 1 => .array .int
  | 2 => .array .int
  | 3 => .array .int
  | 4 => .int
  | 5 => .int
  | 6 => .int
  | _ => .int
abbrev wsX00 : List Cond := u_ws RX0 TX0 8
theorem nmX0 : ∀ a, a < 8 → ∀ b, b < 8 → a ≠ b → (TX0 a).2.1 ≠ (TX0 b).2.1 := by decide +kernel
theorem tyX0_ok : ∀ k, k < 8 → parseFieldDescriptor (TX0 k).2.2.1 = some (tyX0 k) := by decide +kernel
abbrev cX0_init : ByteArray := prog_2_method_1_code
def yX0_init : MethodName := ⟨RX0, "<init>", "()V"⟩
abbrev cX0_begin : ByteArray := prog_2_method_2_code
def yX0_begin : MethodName := ⟨RX0, "begin", "(I)V"⟩
abbrev cX0_tell : ByteArray := prog_2_method_3_code
def yX0_tell : MethodName := ⟨RX0, "tell", "(I)V"⟩
abbrev cX0_bestDay : ByteArray := prog_2_method_4_code
def yX0_bestDay : MethodName := ⟨RX0, "bestDay", "(I)I"⟩
abbrev cX0_search : ByteArray := prog_2_method_5_code
def yX0_search : MethodName := ⟨RX0, "search", "()V"⟩
abbrev cX0_tryFrom : ByteArray := prog_2_method_6_code
def yX0_tryFrom : MethodName := ⟨RX0, "tryFrom", "(II)V"⟩
abbrev cX0_weigh : ByteArray := prog_2_method_7_code
def yX0_weigh : MethodName := ⟨RX0, "weigh", "()V"⟩
def RX1 : String := "WoodenMains$House"
def TX1 : u_T := fun k => match k with
  | 0 => ("WoodenMains$House", "street", "I", true)
  | 1 => ("WoodenMains$House", "cistern", "I", true)
  | 2 => ("WoodenMains$House", "floor", "I", true)
  | 3 => ("WoodenMains$House", "useAsTold", "I", true)
  | 4 => ("WoodenMains$House", "ball", "Z", true)
  | 5 => ("WoodenMains$House", "leadingRow", "I", false)
  | 6 => ("WoodenMains$House", "water", "I", false)
  | 7 => ("WoodenMains$House", "timesDry", "I", false)
  | _ => ("WoodenMains$House", "nextServed", "LWoodenMains$House;", false)
def tyX1 : Nat → FieldType := fun k => match k with
  | 0 => .int
  | 1 => .int
  | 2 => .int
  | 3 => .int
  | 4 => .boolean
  | 5 => .int
  | 6 => .int
  | 7 => .int
  | _ => .object "WoodenMains$House"
abbrev wsX10 : List Cond := u_ws RX1 TX1 9
theorem nmX1 : ∀ a, a < 9 → ∀ b, b < 9 → a ≠ b → (TX1 a).2.1 ≠ (TX1 b).2.1 := by decide +kernel
theorem tyX1_ok : ∀ k, k < 9 → parseFieldDescriptor (TX1 k).2.2.1 = some (tyX1 k) := by decide +kernel
abbrev cX1_init : ByteArray := prog_3_method_1_code
def yX1_init : MethodName := ⟨RX1, "<init>", "(IIIIZ)V"⟩
abbrev cX1_roomInCistern : ByteArray := prog_3_method_2_code
def yX1_roomInCistern : MethodName := ⟨RX1, "roomInCistern", "()I"⟩
abbrev cX1_takeFrom : ByteArray := prog_3_method_3_code
def yX1_takeFrom : MethodName := ⟨RX1, "takeFrom", "(ILWoodenMains$Tally;)I"⟩
abbrev cX1_use : ByteArray := prog_3_method_4_code
def yX1_use : MethodName := ⟨RX1, "use", "(I)V"⟩
def RX2 : String := "WoodenMains$IronSearch"
def TX2 : u_T := fun k => match k with
  | 0 => ("WoodenMains$IronSearch", "costs", "[I", true)
  | _ => ("WoodenMains$IronSearch", "worths", "[I", true)
def tyX2 : Nat → FieldType := fun k => match k with
  | 0 => .array .int
  | _ => .array .int
abbrev wsX20 : List Cond := u_ws RX2 TX2 2
theorem nmX2 : ∀ a, a < 2 → ∀ b, b < 2 → a ≠ b → (TX2 a).2.1 ≠ (TX2 b).2.1 := by decide +kernel
theorem tyX2_ok : ∀ k, k < 2 → parseFieldDescriptor (TX2 k).2.2.1 = some (tyX2 k) := by decide +kernel
abbrev cX2_init : ByteArray := prog_4_method_1_code
def yX2_init : MethodName := ⟨RX2, "<init>", "()V"⟩
abbrev cX2_tell : ByteArray := prog_4_method_2_code
def yX2_tell : MethodName := ⟨RX2, "tell", "(III)V"⟩
abbrev cX2_worthOf : ByteArray := prog_4_method_3_code
def yX2_worthOf : MethodName := ⟨RX2, "worthOf", "(I)I"⟩
abbrev cX2_bestSet : ByteArray := prog_4_method_4_code
def yX2_bestSet : MethodName := ⟨RX2, "bestSet", "(II)I"⟩
abbrev cX2_isBetter : ByteArray := prog_4_method_5_code
def yX2_isBetter : MethodName := ⟨RX2, "isBetter", "(II)Z"⟩
def RX3 : String := "WoodenMains$Law"
def TX3 : u_T := fun k => match k with
  | 0 => ("WoodenMains$Law", "forHouse", "I", true)
  | 1 => ("WoodenMains$Law", "forFloor", "I", true)
  | 2 => ("WoodenMains$Law", "forTen", "I", true)
  | _ => ("WoodenMains$Law", "day", "I", true)
def tyX3 : Nat → FieldType := fun k => match k with
  | 0 => .int
  | 1 => .int
  | 2 => .int
  | _ => .int
abbrev wsX30 : List Cond := u_ws RX3 TX3 4
theorem nmX3 : ∀ a, a < 4 → ∀ b, b < 4 → a ≠ b → (TX3 a).2.1 ≠ (TX3 b).2.1 := by decide +kernel
theorem tyX3_ok : ∀ k, k < 4 → parseFieldDescriptor (TX3 k).2.2.1 = some (tyX3 k) := by decide +kernel
abbrev cX3_init : ByteArray := prog_5_method_1_code
def yX3_init : MethodName := ⟨RX3, "<init>", "(IIII)V"⟩
abbrev cX3_rateFor : ByteArray := prog_5_method_2_code
def yX3_rateFor : MethodName := ⟨RX3, "rateFor", "(LWoodenMains$House;)I"⟩
def RX4 : String := "WoodenMains$Row"
def TX4 : u_T := fun k => match k with
  | 0 => ("WoodenMains$Row", "numbers", "[I", true)
  | _ => ("WoodenMains$Row", "length", "I", false)
def tyX4 : Nat → FieldType := fun k => match k with
  | 0 => .array .int
  | _ => .int
abbrev wsX40 : List Cond := u_ws RX4 TX4 2
theorem nmX4 : ∀ a, a < 2 → ∀ b, b < 2 → a ≠ b → (TX4 a).2.1 ≠ (TX4 b).2.1 := by decide +kernel
theorem tyX4_ok : ∀ k, k < 2 → parseFieldDescriptor (TX4 k).2.2.1 = some (tyX4 k) := by decide +kernel
abbrev cX4_init : ByteArray := prog_6_method_1_code
def yX4_init : MethodName := ⟨RX4, "<init>", "()V"⟩
abbrev cX4_isMissing : ByteArray := prog_6_method_2_code
def yX4_isMissing : MethodName := ⟨RX4, "isMissing", "()Z"⟩
abbrev cX4_forget : ByteArray := prog_6_method_3_code
def yX4_forget : MethodName := ⟨RX4, "forget", "()V"⟩
abbrev cX4_makeAnew : ByteArray := prog_6_method_4_code
def yX4_makeAnew : MethodName := ⟨RX4, "makeAnew", "(I)V"⟩
abbrev cX4_hasPlaces : ByteArray := prog_6_method_5_code
def yX4_hasPlaces : MethodName := ⟨RX4, "hasPlaces", "(II)Z"⟩
def RX5 : String := "WoodenMains$Street"
def TX5 : u_T := fun k => match k with
  | 0 => ("WoodenMains$Street", "ahead", "I", true)
  | 1 => ("WoodenMains$Street", "length", "I", true)
  | 2 => ("WoodenMains$Street", "weekLaid", "I", false)
  | 3 => ("WoodenMains$Street", "ofIron", "Z", false)
  | 4 => ("WoodenMains$Street", "atEnd", "I", false)
  | 5 => ("WoodenMains$Street", "tunSize", "I", false)
  | 6 => ("WoodenMains$Street", "tunWater", "I", false)
  | 7 => ("WoodenMains$Street", "plugDrawn", "Z", false)
  | 8 => ("WoodenMains$Street", "leastLeak", "I", false)
  | 9 => ("WoodenMains$Street", "greatestLeak", "I", false)
  | _ => ("WoodenMains$Street", "firstServed", "LWoodenMains$House;", false)
def tyX5 : Nat → FieldType := fun k => match k with
  | 0 => .int
  | 1 => .int
  | 2 => .int
  | 3 => .boolean
  | 4 => .int
  | 5 => .int
  | 6 => .int
  | 7 => .boolean
  | 8 => .int
  | 9 => .int
  | _ => .object "WoodenMains$House"
abbrev wsX50 : List Cond := u_ws RX5 TX5 11
theorem nmX5 : ∀ a, a < 11 → ∀ b, b < 11 → a ≠ b → (TX5 a).2.1 ≠ (TX5 b).2.1 := by decide +kernel
theorem tyX5_ok : ∀ k, k < 11 → parseFieldDescriptor (TX5 k).2.2.1 = some (tyX5 k) := by decide +kernel
abbrev cX5_init : ByteArray := prog_7_method_1_code
def yX5_init : MethodName := ⟨RX5, "<init>", "(III)V"⟩
abbrev cX5_dripIn : ByteArray := prog_7_method_2_code
def yX5_dripIn : MethodName := ⟨RX5, "dripIn", "(I)I"⟩
abbrev cX5_layAnew : ByteArray := prog_7_method_3_code
def yX5_layAnew : MethodName := ⟨RX5, "layAnew", "(I)I"⟩
abbrev cX5_setAtEnd : ByteArray := prog_7_method_4_code
def yX5_setAtEnd : MethodName := ⟨RX5, "setAtEnd", "(II)V"⟩
abbrev cX5_hemIn : ByteArray := prog_7_method_5_code
def yX5_hemIn : MethodName := ⟨RX5, "hemIn", "(II)V"⟩
abbrev cX5_admit : ByteArray := prog_7_method_6_code
def yX5_admit : MethodName := ⟨RX5, "admit", "(LWoodenMains$House;)V"⟩
abbrev cX5_takeFrom : ByteArray := prog_7_method_7_code
def yX5_takeFrom : MethodName := ⟨RX5, "takeFrom", "(ILWoodenMains$Tally;)I"⟩
abbrev cX5_takeByPlug : ByteArray := prog_7_method_8_code
def yX5_takeByPlug : MethodName := ⟨RX5, "takeByPlug", "(ILWoodenMains$Tally;)I"⟩
abbrev cX5_takeByTun : ByteArray := prog_7_method_9_code
def yX5_takeByTun : MethodName := ⟨RX5, "takeByTun", "(ILWoodenMains$Tally;)I"⟩
abbrev cX5_roomNow : ByteArray := prog_7_method_10_code
def yX5_roomNow : MethodName := ⟨RX5, "roomNow", "()I"⟩
def RX6 : String := "WoodenMains$Tally"
def TX6 : u_T := fun k => match k with
  | 0 => ("WoodenMains$Tally", "leaked", "I", false)
  | 1 => ("WoodenMains$Tally", "drawn", "I", false)
  | 2 => ("WoodenMains$Tally", "wasted", "I", false)
  | 3 => ("WoodenMains$Tally", "spilled", "I", false)
  | 4 => ("WoodenMains$Tally", "tunsTook", "I", false)
  | _ => ("WoodenMains$Tally", "hoursWorked", "I", false)
def tyX6 : Nat → FieldType := fun k => match k with
  | 0 => .int
  | 1 => .int
  | 2 => .int
  | 3 => .int
  | 4 => .int
  | _ => .int
abbrev wsX60 : List Cond := u_ws RX6 TX6 6
theorem nmX6 : ∀ a, a < 6 → ∀ b, b < 6 → a ≠ b → (TX6 a).2.1 ≠ (TX6 b).2.1 := by decide +kernel
theorem tyX6_ok : ∀ k, k < 6 → parseFieldDescriptor (TX6 k).2.2.1 = some (tyX6 k) := by decide +kernel
abbrev cX6_init : ByteArray := prog_8_method_1_code
def yX6_init : MethodName := ⟨RX6, "<init>", "()V"⟩
def RX7 : String := "WoodenMains$Turn"
def TX7 : u_T := fun k => match k with
  | 0 => ("WoodenMains$Turn", "street", "I", true)
  | 1 => ("WoodenMains$Turn", "cock", "I", true)
  | 2 => ("WoodenMains$Turn", "firstHour", "I", true)
  | _ => ("WoodenMains$Turn", "hoursLong", "I", true)
def tyX7 : Nat → FieldType := fun k => match k with
  | 0 => .int
  | 1 => .int
  | 2 => .int
  | _ => .int
abbrev wsX70 : List Cond := u_ws RX7 TX7 4
theorem nmX7 : ∀ a, a < 4 → ∀ b, b < 4 → a ≠ b → (TX7 a).2.1 ≠ (TX7 b).2.1 := by decide +kernel
theorem tyX7_ok : ∀ k, k < 4 → parseFieldDescriptor (TX7 k).2.2.1 = some (tyX7 k) := by decide +kernel
abbrev cX7_init : ByteArray := prog_9_method_1_code
def yX7_init : MethodName := ⟨RX7, "<init>", "(IIII)V"⟩
abbrev cX7_hoursUntil : ByteArray := prog_9_method_2_code
def yX7_hoursUntil : MethodName := ⟨RX7, "hoursUntil", "(LWoodenMains$Turn;)I"⟩
abbrev cX7_sharesHourWith : ByteArray := prog_9_method_3_code
def yX7_sharesHourWith : MethodName := ⟨RX7, "sharesHourWith", "(LWoodenMains$Turn;)Z"⟩
def RX8 : String := "WoodenMains$Week"
def TX8 : u_T := fun k => match k with
  | 0 => ("WoodenMains$Week", "let", "[I", true)
  | _ => ("WoodenMains$Week", "open", "[I", true)
def tyX8 : Nat → FieldType := fun k => match k with
  | 0 => .array .int
  | _ => .array .int
abbrev wsX80 : List Cond := u_ws RX8 TX8 2
theorem nmX8 : ∀ a, a < 2 → ∀ b, b < 2 → a ≠ b → (TX8 a).2.1 ≠ (TX8 b).2.1 := by decide +kernel
theorem tyX8_ok : ∀ k, k < 2 → parseFieldDescriptor (TX8 k).2.2.1 = some (tyX8 k) := by decide +kernel
abbrev cX8_init : ByteArray := prog_10_method_1_code
def yX8_init : MethodName := ⟨RX8, "<init>", "()V"⟩
abbrev cX8_letStreets : ByteArray := prog_10_method_2_code
def yX8_letStreets : MethodName := ⟨RX8, "letStreets", "(I)I"⟩
abbrev cX8_openStreets : ByteArray := prog_10_method_3_code
def yX8_openStreets : MethodName := ⟨RX8, "openStreets", "(I)I"⟩
abbrev cX8_hoursOpen : ByteArray := prog_10_method_4_code
def yX8_hoursOpen : MethodName := ⟨RX8, "hoursOpen", "(I)I"⟩
abbrev cX8_add : ByteArray := prog_10_method_5_code
def yX8_add : MethodName := ⟨RX8, "add", "(LWoodenMains$Turn;Ljava/util/ArrayList;)V"⟩
abbrev cX8_openOf : ByteArray := prog_10_method_6_code
def yX8_openOf : MethodName := ⟨RX8, "openOf", "(ILjava/util/ArrayList;)I"⟩
def RX9 : String := "WoodenMains"
def TX9 : u_T := fun k => match k with
  | 0 => ("WoodenMains", "streets", "Ljava/util/ArrayList;", true)
  | 1 => ("WoodenMains", "houses", "Ljava/util/ArrayList;", true)
  | 2 => ("WoodenMains", "turns", "Ljava/util/ArrayList;", true)
  | 3 => ("WoodenMains", "laws", "Ljava/util/ArrayList;", true)
  | 4 => ("WoodenMains", "rows", "[LWoodenMains$Row;", true)
  | 5 => ("WoodenMains", "cockPlaces", "[I", true)
  | 6 => ("WoodenMains", "settings", "[I", true)
  | 7 => ("WoodenMains", "refusals", "[I", true)
  | 8 => ("WoodenMains", "week", "LWoodenMains$Week;", true)
  | 9 => ("WoodenMains", "tally", "LWoodenMains$Tally;", true)
  | 10 => ("WoodenMains", "ironSearch", "LWoodenMains$IronSearch;", true)
  | 11 => ("WoodenMains", "daySearch", "LWoodenMains$DaySearch;", true)
  | 12 => ("WoodenMains", "hour", "I", false)
  | 13 => ("WoodenMains", "coalThere", "I", false)
  | _ => ("WoodenMains", "readingsTold", "I", false)
def tyX9 : Nat → FieldType := fun k => match k with
  | 0 => .object "java/util/ArrayList"
  | 1 => .object "java/util/ArrayList"
  | 2 => .object "java/util/ArrayList"
  | 3 => .object "java/util/ArrayList"
  | 4 => .array (.object "WoodenMains$Row")
  | 5 => .array .int
  | 6 => .array .int
  | 7 => .array .int
  | 8 => .object "WoodenMains$Week"
  | 9 => .object "WoodenMains$Tally"
  | 10 => .object "WoodenMains$IronSearch"
  | 11 => .object "WoodenMains$DaySearch"
  | 12 => .int
  | 13 => .int
  | _ => .int
abbrev wsX90 : List Cond := u_ws RX9 TX9 15
theorem nmX9 : ∀ a, a < 15 → ∀ b, b < 15 → a ≠ b → (TX9 a).2.1 ≠ (TX9 b).2.1 := by decide +kernel
theorem tyX9_ok : ∀ k, k < 15 → parseFieldDescriptor (TX9 k).2.2.1 = some (tyX9 k) := by decide +kernel
abbrev cX9_init : ByteArray := prog_1_method_1_code
def yX9_init : MethodName := ⟨RX9, "<init>", "()V"⟩
abbrev cX9_street : ByteArray := prog_1_method_2_code
def yX9_street : MethodName := ⟨RX9, "street", "(II)I"⟩
abbrev cX9_set : ByteArray := prog_1_method_3_code
def yX9_set : MethodName := ⟨RX9, "set", "(II)I"⟩
abbrev cX9_coal : ByteArray := prog_1_method_4_code
def yX9_coal : MethodName := ⟨RX9, "coal", "(I)I"⟩
abbrev cX9_house : ByteArray := prog_1_method_5_code
def yX9_house : MethodName := ⟨RX9, "house", "(IIIIZ)I"⟩
abbrev cX9_row : ByteArray := prog_1_method_6_code
def yX9_row : MethodName := ⟨RX9, "row", "(II)I"⟩
abbrev cX9_lose : ByteArray := prog_1_method_7_code
def yX9_lose : MethodName := ⟨RX9, "lose", "(I)I"⟩
abbrev cX9_put : ByteArray := prog_1_method_8_code
def yX9_put : MethodName := ⟨RX9, "put", "(III)I"⟩
abbrev cX9_copy : ByteArray := prog_1_method_9_code
def yX9_copy : MethodName := ⟨RX9, "copy", "(IIIII)I"⟩
abbrev cX9_lead : ByteArray := prog_1_method_10_code
def yX9_lead : MethodName := ⟨RX9, "lead", "(II)I"⟩
abbrev cX9_end : ByteArray := prog_1_method_11_code
def yX9_end : MethodName := ⟨RX9, "end", "(II)I"⟩
abbrev cX9_clear : ByteArray := prog_1_method_12_code
def yX9_clear : MethodName := ⟨RX9, "clear", "(I)I"⟩
abbrev cX9_draw : ByteArray := prog_1_method_13_code
def yX9_draw : MethodName := ⟨RX9, "draw", "(IZ)I"⟩
abbrev cX9_brew : ByteArray := prog_1_method_14_code
def yX9_brew : MethodName := ⟨RX9, "brew", "(II)I"⟩
abbrev cX9_turn : ByteArray := prog_1_method_15_code
def yX9_turn : MethodName := ⟨RX9, "turn", "(IIIII)I"⟩
abbrev cX9_let : ByteArray := prog_1_method_16_code
def yX9_let : MethodName := ⟨RX9, "let", "(III)I"⟩
abbrev cX9_clashes : ByteArray := prog_1_method_17_code
def yX9_clashes : MethodName := ⟨RX9, "clashes", "(I)I"⟩
abbrev cX9_hours : ByteArray := prog_1_method_18_code
def yX9_hours : MethodName := ⟨RX9, "hours", "(I)I"⟩
abbrev cX9_iron : ByteArray := prog_1_method_19_code
def yX9_iron : MethodName := ⟨RX9, "iron", "(I)I"⟩
abbrev cX9_renew : ByteArray := prog_1_method_20_code
def yX9_renew : MethodName := ⟨RX9, "renew", "(I)I"⟩
abbrev cX9_stand : ByteArray := prog_1_method_21_code
def yX9_stand : MethodName := ⟨RX9, "stand", "(II)I"⟩
abbrev cX9_way : ByteArray := prog_1_method_22_code
def yX9_way : MethodName := ⟨RX9, "way", "(II)I"⟩
abbrev cX9_fire : ByteArray := prog_1_method_23_code
def yX9_fire : MethodName := ⟨RX9, "fire", "(II)I"⟩
abbrev cX9_reading : ByteArray := prog_1_method_24_code
def yX9_reading : MethodName := ⟨RX9, "reading", "(IIII)I"⟩
abbrev cX9_span : ByteArray := prog_1_method_25_code
def yX9_span : MethodName := ⟨RX9, "span", "(II)I"⟩
abbrev cX9_best : ByteArray := prog_1_method_26_code
def yX9_best : MethodName := ⟨RX9, "best", "(I)I"⟩
abbrev cX9_bestWorth : ByteArray := prog_1_method_27_code
def yX9_bestWorth : MethodName := ⟨RX9, "bestWorth", "(I)I"⟩
abbrev cX9_days : ByteArray := prog_1_method_28_code
def yX9_days : MethodName := ⟨RX9, "days", "(II)I"⟩
abbrev cX9_dayOf : ByteArray := prog_1_method_29_code
def yX9_dayOf : MethodName := ⟨RX9, "dayOf", "(III)I"⟩
abbrev cX9_law : ByteArray := prog_1_method_30_code
def yX9_law : MethodName := ⟨RX9, "law", "(IIII)I"⟩
abbrev cX9_rate : ByteArray := prog_1_method_31_code
def yX9_rate : MethodName := ⟨RX9, "rate", "(II)I"⟩
abbrev cX9_houseOf : ByteArray := prog_1_method_32_code
def yX9_houseOf : MethodName := ⟨RX9, "houseOf", "(II)I"⟩
abbrev cX9_streetOf : ByteArray := prog_1_method_33_code
def yX9_streetOf : MethodName := ⟨RX9, "streetOf", "(II)I"⟩
abbrev cX9_count : ByteArray := prog_1_method_34_code
def yX9_count : MethodName := ⟨RX9, "count", "(I)I"⟩
abbrev cX9_refuse : ByteArray := prog_1_method_35_code
def yX9_refuse : MethodName := ⟨RX9, "refuse", "(I)I"⟩
abbrev cX9_refuseAside : ByteArray := prog_1_method_36_code
def yX9_refuseAside : MethodName := ⟨RX9, "refuseAside", "(I)I"⟩
abbrev cX9_streetAt : ByteArray := prog_1_method_37_code
def yX9_streetAt : MethodName := ⟨RX9, "streetAt", "(I)LWoodenMains$Street;"⟩
abbrev cX9_houseAt : ByteArray := prog_1_method_38_code
def yX9_houseAt : MethodName := ⟨RX9, "houseAt", "(I)LWoodenMains$House;"⟩
abbrev cX9_rowAt : ByteArray := prog_1_method_39_code
def yX9_rowAt : MethodName := ⟨RX9, "rowAt", "(I)LWoodenMains$Row;"⟩
abbrev cX9_isCock : ByteArray := prog_1_method_40_code
def yX9_isCock : MethodName := ⟨RX9, "isCock", "(I)Z"⟩
abbrev cX9_isPlace : ByteArray := prog_1_method_41_code
def yX9_isPlace : MethodName := ⟨RX9, "isPlace", "(I)Z"⟩
abbrev cX9_weekNow : ByteArray := prog_1_method_42_code
def yX9_weekNow : MethodName := ⟨RX9, "weekNow", "()I"⟩
abbrev cX9_hasStreet : ByteArray := prog_1_method_43_code
def yX9_hasStreet : MethodName := ⟨RX9, "hasStreet", "(II)Z"⟩
abbrev cX9_passHour : ByteArray := prog_1_method_44_code
def yX9_passHour : MethodName := ⟨RX9, "passHour", "()V"⟩
abbrev cX9_pump : ByteArray := prog_1_method_45_code
def yX9_pump : MethodName := ⟨RX9, "pump", "()I"⟩
abbrev cX9_leak : ByteArray := prog_1_method_46_code
def yX9_leak : MethodName := ⟨RX9, "leak", "(II)I"⟩
abbrev cX9_serve : ByteArray := prog_1_method_47_code
def yX9_serve : MethodName := ⟨RX9, "serve", "(II)I"⟩
abbrev cX9_drink : ByteArray := prog_1_method_48_code
def yX9_drink : MethodName := ⟨RX9, "drink", "()V"⟩
abbrev cX9_useNow : ByteArray := prog_1_method_49_code
def yX9_useNow : MethodName := ⟨RX9, "useNow", "(LWoodenMains$House;)I"⟩
abbrev cX9_stepsBetween : ByteArray := prog_1_method_50_code
def yX9_stepsBetween : MethodName := ⟨RX9, "stepsBetween", "(II)I"⟩
abbrev cX9_placeAheadOf : ByteArray := prog_1_method_51_code
def yX9_placeAheadOf : MethodName := ⟨RX9, "placeAheadOf", "(I)I"⟩
abbrev cX9_isClash : ByteArray := prog_1_method_52_code
def yX9_isClash : MethodName := ⟨RX9, "isClash", "(LWoodenMains$Turn;LWoodenMains$Turn;)Z"⟩
abbrev cX9_shutUpTo : ByteArray := prog_1_method_53_code
def yX9_shutUpTo : MethodName := ⟨RX9, "shutUpTo", "(I)I"⟩
abbrev cX9_quickestCock : ByteArray := prog_1_method_54_code
def yX9_quickestCock : MethodName := ⟨RX9, "quickestCock", "(I)I"⟩
abbrev cX9_walkLength : ByteArray := prog_1_method_55_code
def yX9_walkLength : MethodName := ⟨RX9, "walkLength", "(II)I"⟩
abbrev cX9_refusalOfIronSum : ByteArray := prog_1_method_56_code
def yX9_refusalOfIronSum : MethodName := ⟨RX9, "refusalOfIronSum", "(I)I"⟩
abbrev cX9_findIron : ByteArray := prog_1_method_57_code
def yX9_findIron : MethodName := ⟨RX9, "findIron", "(I)I"⟩
abbrev cX9_refusalOfDays : ByteArray := prog_1_method_58_code
def yX9_refusalOfDays : MethodName := ⟨RX9, "refusalOfDays", "(II)I"⟩
abbrev cX9_findDays : ByteArray := prog_1_method_59_code
def yX9_findDays : MethodName := ⟨RX9, "findDays", "(II)V"⟩
abbrev cX9_lawOn : ByteArray := prog_1_method_60_code
def yX9_lawOn : MethodName := ⟨RX9, "lawOn", "(I)LWoodenMains$Law;"⟩
def RX10 : String := "WoodenMainsModel"
def TX10 : u_T := fun k => match k with
  | 0 => ("WoodenMainsModel", "hour", "I", false)
  | 1 => ("WoodenMainsModel", "output", "I", false)
  | 2 => ("WoodenMainsModel", "burn", "I", false)
  | 3 => ("WoodenMainsModel", "price", "I", false)
  | 4 => ("WoodenMainsModel", "coal", "I", false)
  | 5 => ("WoodenMainsModel", "leaked", "I", false)
  | 6 => ("WoodenMainsModel", "drawn", "I", false)
  | 7 => ("WoodenMainsModel", "wasted", "I", false)
  | 8 => ("WoodenMainsModel", "spilled", "I", false)
  | 9 => ("WoodenMainsModel", "worked", "I", false)
  | 10 => ("WoodenMainsModel", "tunned", "I", false)
  | 11 => ("WoodenMainsModel", "streets", "I", false)
  | 12 => ("WoodenMainsModel", "ahead", "[I", true)
  | 13 => ("WoodenMainsModel", "length", "[I", true)
  | 14 => ("WoodenMainsModel", "laid", "[I", true)
  | 15 => ("WoodenMainsModel", "isIron", "[Z", true)
  | 16 => ("WoodenMainsModel", "atEnd", "[I", true)
  | 17 => ("WoodenMainsModel", "tunSize", "[I", true)
  | 18 => ("WoodenMainsModel", "tunWater", "[I", true)
  | 19 => ("WoodenMainsModel", "isDrawn", "[Z", true)
  | 20 => ("WoodenMainsModel", "houses", "I", false)
  | 21 => ("WoodenMainsModel", "street", "[I", true)
  | 22 => ("WoodenMainsModel", "cistern", "[I", true)
  | 23 => ("WoodenMainsModel", "floor", "[I", true)
  | 24 => ("WoodenMainsModel", "use", "[I", true)
  | 25 => ("WoodenMainsModel", "ball", "[Z", true)
  | 26 => ("WoodenMainsModel", "led", "[I", true)
  | 27 => ("WoodenMainsModel", "water", "[I", true)
  | 28 => ("WoodenMainsModel", "dry", "[I", true)
  | 29 => ("WoodenMainsModel", "rowSize", "[I", true)
  | 30 => ("WoodenMainsModel", "row", "[I", true)
  | 31 => ("WoodenMainsModel", "turns", "I", false)
  | 32 => ("WoodenMainsModel", "turnStreet", "[I", true)
  | 33 => ("WoodenMainsModel", "turnCock", "[I", true)
  | 34 => ("WoodenMainsModel", "turnFrom", "[I", true)
  | 35 => ("WoodenMainsModel", "turnHours", "[I", true)
  | 36 => ("WoodenMainsModel", "stands", "[I", true)
  | 37 => ("WoodenMainsModel", "readings", "I", false)
  | 38 => ("WoodenMainsModel", "readStreet", "[I", true)
  | 39 => ("WoodenMainsModel", "readLeak", "[I", true)
  | 40 => ("WoodenMainsModel", "readDoubt", "[I", true)
  | 41 => ("WoodenMainsModel", "laws", "I", false)
  | 42 => ("WoodenMainsModel", "lawHouse", "[I", true)
  | 43 => ("WoodenMainsModel", "lawFloor", "[I", true)
  | 44 => ("WoodenMainsModel", "lawTens", "[I", true)
  | 45 => ("WoodenMainsModel", "lawDay", "[I", true)
  | 46 => ("WoodenMainsModel", "refused", "[I", true)
  | 47 => ("WoodenMainsModel", "between", "[I", true)
  | 48 => ("WoodenMainsModel", "left", "I", false)
  | 49 => ("WoodenMainsModel", "worths", "[I", true)
  | 50 => ("WoodenMainsModel", "bestSet", "I", false)
  | 51 => ("WoodenMainsModel", "bestSum", "I", false)
  | 52 => ("WoodenMainsModel", "asked", "[I", true)
  | 53 => ("WoodenMainsModel", "needs", "[I", true)
  | 54 => ("WoodenMainsModel", "askedMany", "I", false)
  | 55 => ("WoodenMainsModel", "day", "[I", true)
  | 56 => ("WoodenMainsModel", "bestDay", "[I", true)
  | _ => ("WoodenMainsModel", "onDay", "[I", true)
def tyX10 : Nat → FieldType := fun k => match k with
  | 0 => .int
  | 1 => .int
  | 2 => .int
  | 3 => .int
  | 4 => .int
  | 5 => .int
  | 6 => .int
  | 7 => .int
  | 8 => .int
  | 9 => .int
  | 10 => .int
  | 11 => .int
  | 12 => .array .int
  | 13 => .array .int
  | 14 => .array .int
  | 15 => .array .boolean
  | 16 => .array .int
  | 17 => .array .int
  | 18 => .array .int
  | 19 => .array .boolean
  | 20 => .int
  | 21 => .array .int
  | 22 => .array .int
  | 23 => .array .int
  | 24 => .array .int
  | 25 => .array .boolean
  | 26 => .array .int
  | 27 => .array .int
  | 28 => .array .int
  | 29 => .array .int
  | 30 => .array .int
  | 31 => .int
  | 32 => .array .int
  | 33 => .array .int
  | 34 => .array .int
  | 35 => .array .int
  | 36 => .array .int
  | 37 => .int
  | 38 => .array .int
  | 39 => .array .int
  | 40 => .array .int
  | 41 => .int
  | 42 => .array .int
  | 43 => .array .int
  | 44 => .array .int
  | 45 => .array .int
  | 46 => .array .int
  | 47 => .array .int
  | 48 => .int
  | 49 => .array .int
  | 50 => .int
  | 51 => .int
  | 52 => .array .int
  | 53 => .array .int
  | 54 => .int
  | 55 => .array .int
  | 56 => .array .int
  | _ => .array .int
abbrev wsX100 : List Cond := u_ws RX10 TX10 58
theorem nmX10 : ∀ a, a < 58 → ∀ b, b < 58 → a ≠ b → (TX10 a).2.1 ≠ (TX10 b).2.1 := by decide +kernel
theorem tyX10_ok : ∀ k, k < 58 → parseFieldDescriptor (TX10 k).2.2.1 = some (tyX10 k) := by decide +kernel
abbrev cX10_init : ByteArray := prog_12_method_1_code
def yX10_init : MethodName := ⟨RX10, "<init>", "()V"⟩
abbrev cX10_in : ByteArray := prog_12_method_3_code
def yX10_in : MethodName := ⟨RX10, "in", "(III)Z"⟩
abbrev cX10_refuse : ByteArray := prog_12_method_4_code
def yX10_refuse : MethodName := ⟨RX10, "refuse", "(I)I"⟩
abbrev cX10_least : ByteArray := prog_12_method_5_code
def yX10_least : MethodName := ⟨RX10, "least", "(II)I"⟩
abbrev cX10_isStreet : ByteArray := prog_12_method_6_code
def yX10_isStreet : MethodName := ⟨RX10, "isStreet", "(I)Z"⟩
abbrev cX10_isHouse : ByteArray := prog_12_method_7_code
def yX10_isHouse : MethodName := ⟨RX10, "isHouse", "(I)Z"⟩
abbrev cX10_street : ByteArray := prog_12_method_8_code
def yX10_street : MethodName := ⟨RX10, "street", "(II)I"⟩
abbrev cX10_set : ByteArray := prog_12_method_9_code
def yX10_set : MethodName := ⟨RX10, "set", "(II)I"⟩
abbrev cX10_coal : ByteArray := prog_12_method_10_code
def yX10_coal : MethodName := ⟨RX10, "coal", "(I)I"⟩
abbrev cX10_house : ByteArray := prog_12_method_11_code
def yX10_house : MethodName := ⟨RX10, "house", "(IIIIZ)I"⟩
abbrev cX10_row : ByteArray := prog_12_method_12_code
def yX10_row : MethodName := ⟨RX10, "row", "(II)I"⟩
abbrev cX10_lose : ByteArray := prog_12_method_13_code
def yX10_lose : MethodName := ⟨RX10, "lose", "(I)I"⟩
abbrev cX10_put : ByteArray := prog_12_method_14_code
def yX10_put : MethodName := ⟨RX10, "put", "(III)I"⟩
abbrev cX10_copy : ByteArray := prog_12_method_15_code
def yX10_copy : MethodName := ⟨RX10, "copy", "(IIIII)I"⟩
abbrev cX10_lead : ByteArray := prog_12_method_16_code
def yX10_lead : MethodName := ⟨RX10, "lead", "(II)I"⟩
abbrev cX10_useOf : ByteArray := prog_12_method_17_code
def yX10_useOf : MethodName := ⟨RX10, "useOf", "(I)I"⟩
abbrev cX10_end : ByteArray := prog_12_method_18_code
def yX10_end : MethodName := ⟨RX10, "end", "(II)I"⟩
abbrev cX10_clear : ByteArray := prog_12_method_19_code
def yX10_clear : MethodName := ⟨RX10, "clear", "(I)I"⟩
abbrev cX10_draw : ByteArray := prog_12_method_20_code
def yX10_draw : MethodName := ⟨RX10, "draw", "(IZ)I"⟩
abbrev cX10_brew : ByteArray := prog_12_method_21_code
def yX10_brew : MethodName := ⟨RX10, "brew", "(II)I"⟩
abbrev cX10_turn : ByteArray := prog_12_method_22_code
def yX10_turn : MethodName := ⟨RX10, "turn", "(IIIII)I"⟩
abbrev cX10_isLet : ByteArray := prog_12_method_23_code
def yX10_isLet : MethodName := ⟨RX10, "isLet", "(II)Z"⟩
abbrev cX10_isOpen : ByteArray := prog_12_method_24_code
def yX10_isOpen : MethodName := ⟨RX10, "isOpen", "(II)Z"⟩
abbrev cX10_let : ByteArray := prog_12_method_25_code
def yX10_let : MethodName := ⟨RX10, "let", "(III)I"⟩
abbrev cX10_isOnWay : ByteArray := prog_12_method_26_code
def yX10_isOnWay : MethodName := ⟨RX10, "isOnWay", "(II)Z"⟩
abbrev cX10_wayOf : ByteArray := prog_12_method_27_code
def yX10_wayOf : MethodName := ⟨RX10, "wayOf", "(II)I"⟩
abbrev cX10_way : ByteArray := prog_12_method_28_code
def yX10_way : MethodName := ⟨RX10, "way", "(II)I"⟩
abbrev cX10_clash : ByteArray := prog_12_method_29_code
def yX10_clash : MethodName := ⟨RX10, "clash", "(II)Z"⟩
abbrev cX10_clashes : ByteArray := prog_12_method_30_code
def yX10_clashes : MethodName := ⟨RX10, "clashes", "(I)I"⟩
abbrev cX10_dripOf : ByteArray := prog_12_method_31_code
def yX10_dripOf : MethodName := ⟨RX10, "dripOf", "(I)I"⟩
abbrev cX10_take : ByteArray := prog_12_method_32_code
def yX10_take : MethodName := ⟨RX10, "take", "(I)I"⟩
abbrev cX10_fillHouse : ByteArray := prog_12_method_33_code
def yX10_fillHouse : MethodName := ⟨RX10, "fillHouse", "(I)V"⟩
abbrev cX10_serve : ByteArray := prog_12_method_34_code
def yX10_serve : MethodName := ⟨RX10, "serve", "(I)V"⟩
abbrev cX10_pass : ByteArray := prog_12_method_35_code
def yX10_pass : MethodName := ⟨RX10, "pass", "()V"⟩
abbrev cX10_hours : ByteArray := prog_12_method_36_code
def yX10_hours : MethodName := ⟨RX10, "hours", "(I)I"⟩
abbrev cX10_iron : ByteArray := prog_12_method_37_code
def yX10_iron : MethodName := ⟨RX10, "iron", "(I)I"⟩
abbrev cX10_renew : ByteArray := prog_12_method_38_code
def yX10_renew : MethodName := ⟨RX10, "renew", "(I)I"⟩
abbrev cX10_stand : ByteArray := prog_12_method_39_code
def yX10_stand : MethodName := ⟨RX10, "stand", "(II)I"⟩
abbrev cX10_fire : ByteArray := prog_12_method_40_code
def yX10_fire : MethodName := ⟨RX10, "fire", "(II)I"⟩
abbrev cX10_reading : ByteArray := prog_12_method_41_code
def yX10_reading : MethodName := ⟨RX10, "reading", "(IIII)I"⟩
abbrev cX10_span : ByteArray := prog_12_method_42_code
def yX10_span : MethodName := ⟨RX10, "span", "(II)I"⟩
abbrev cX10_worthOf : ByteArray := prog_12_method_43_code
def yX10_worthOf : MethodName := ⟨RX10, "worthOf", "(I)I"⟩
abbrev cX10_ones : ByteArray := prog_12_method_44_code
def yX10_ones : MethodName := ⟨RX10, "ones", "(I)I"⟩
abbrev cX10_findBest : ByteArray := prog_12_method_45_code
def yX10_findBest : MethodName := ⟨RX10, "findBest", "(I)V"⟩
abbrev cX10_best : ByteArray := prog_12_method_46_code
def yX10_best : MethodName := ⟨RX10, "best", "(I)I"⟩
abbrev cX10_bestWorth : ByteArray := prog_12_method_47_code
def yX10_bestWorth : MethodName := ⟨RX10, "bestWorth", "(I)I"⟩
abbrev cX10_needOf : ByteArray := prog_12_method_48_code
def yX10_needOf : MethodName := ⟨RX10, "needOf", "(I)I"⟩
abbrev cX10_wrongDays : ByteArray := prog_12_method_49_code
def yX10_wrongDays : MethodName := ⟨RX10, "wrongDays", "(II)I"⟩
abbrev cX10_findDays : ByteArray := prog_12_method_50_code
def yX10_findDays : MethodName := ⟨RX10, "findDays", "(II)I"⟩
abbrev cX10_days : ByteArray := prog_12_method_51_code
def yX10_days : MethodName := ⟨RX10, "days", "(II)I"⟩
abbrev cX10_dayOf : ByteArray := prog_12_method_52_code
def yX10_dayOf : MethodName := ⟨RX10, "dayOf", "(III)I"⟩
abbrev cX10_law : ByteArray := prog_12_method_53_code
def yX10_law : MethodName := ⟨RX10, "law", "(IIII)I"⟩
abbrev cX10_rate : ByteArray := prog_12_method_54_code
def yX10_rate : MethodName := ⟨RX10, "rate", "(II)I"⟩
abbrev cX10_houseOf : ByteArray := prog_12_method_55_code
def yX10_houseOf : MethodName := ⟨RX10, "houseOf", "(II)I"⟩
abbrev cX10_streetOf : ByteArray := prog_12_method_56_code
def yX10_streetOf : MethodName := ⟨RX10, "streetOf", "(II)I"⟩
abbrev cX10_count : ByteArray := prog_12_method_57_code
def yX10_count : MethodName := ⟨RX10, "count", "(I)I"⟩
def RJx145de : String := "java/io/Serializable"
def TJx145de : u_T := fun k => match k with
  | _ => ("", "", "", false)
def tyJx145de : Nat → FieldType := fun k => match k with
  | _ => .int
abbrev wsJx145de0 : List Cond := u_ws RJx145de TJx145de 0
theorem nmJx145de : ∀ a, a < 0 → ∀ b, b < 0 → a ≠ b → (TJx145de a).2.1 ≠ (TJx145de b).2.1 := by decide +kernel
theorem tyJx145de_ok : ∀ k, k < 0 → parseFieldDescriptor (TJx145de k).2.2.1 = some (tyJx145de k) := by decide +kernel
def RJx8e188 : String := "java/lang/Cloneable"
def TJx8e188 : u_T := fun k => match k with
  | _ => ("", "", "", false)
def tyJx8e188 : Nat → FieldType := fun k => match k with
  | _ => .int
abbrev wsJx8e1880 : List Cond := u_ws RJx8e188 TJx8e188 0
theorem nmJx8e188 : ∀ a, a < 0 → ∀ b, b < 0 → a ≠ b → (TJx8e188 a).2.1 ≠ (TJx8e188 b).2.1 := by decide +kernel
theorem tyJx8e188_ok : ∀ k, k < 0 → parseFieldDescriptor (TJx8e188 k).2.2.1 = some (tyJx8e188 k) := by decide +kernel
def RJ6 : String := "java/lang/Integer"
def TJ6 : u_T := fun k => match k with
  | _ => ("", "", "", false)
def tyJ6 : Nat → FieldType := fun k => match k with
  | _ => .int
abbrev wsJ60 : List Cond := u_ws RJ6 TJ6 0
theorem nmJ6 : ∀ a, a < 0 → ∀ b, b < 0 → a ≠ b → (TJ6 a).2.1 ≠ (TJ6 b).2.1 := by decide +kernel
theorem tyJ6_ok : ∀ k, k < 0 → parseFieldDescriptor (TJ6 k).2.2.1 = some (tyJ6 k) := by decide +kernel
abbrev cJ6_numberOfLeadingZeros_0f7a4 : ByteArray := prog_15_method_47_code
def yJ6_numberOfLeadingZeros_0f7a4 : MethodName := ⟨RJ6, "numberOfLeadingZeros", "(I)I"⟩
abbrev cJ6_numberOfTrailingZeros_0f7a4 : ByteArray := prog_15_method_48_code
def yJ6_numberOfTrailingZeros_0f7a4 : MethodName := ⟨RJ6, "numberOfTrailingZeros", "(I)I"⟩
abbrev cJ6_bitCount_0f7a4 : ByteArray := prog_15_method_49_code
def yJ6_bitCount_0f7a4 : MethodName := ⟨RJ6, "bitCount", "(I)I"⟩
def RJxab1ab : String := "java/lang/Iterable"
def TJxab1ab : u_T := fun k => match k with
  | _ => ("", "", "", false)
def tyJxab1ab : Nat → FieldType := fun k => match k with
  | _ => .int
abbrev wsJxab1ab0 : List Cond := u_ws RJxab1ab TJxab1ab 0
theorem nmJxab1ab : ∀ a, a < 0 → ∀ b, b < 0 → a ≠ b → (TJxab1ab a).2.1 ≠ (TJxab1ab b).2.1 := by decide +kernel
theorem tyJxab1ab_ok : ∀ k, k < 0 → parseFieldDescriptor (TJxab1ab k).2.2.1 = some (tyJxab1ab k) := by decide +kernel
def RJ9 : String := "java/lang/Math"
def TJ9 : u_T := fun k => match k with
  | _ => ("", "", "", false)
def tyJ9 : Nat → FieldType := fun k => match k with
  | _ => .int
abbrev wsJ90 : List Cond := u_ws RJ9 TJ9 0
theorem nmJ9 : ∀ a, a < 0 → ∀ b, b < 0 → a ≠ b → (TJ9 a).2.1 ≠ (TJ9 b).2.1 := by decide +kernel
theorem tyJ9_ok : ∀ k, k < 0 → parseFieldDescriptor (TJ9 k).2.2.1 = some (tyJ9 k) := by decide +kernel
abbrev cJ9_floorMod_7cf53 : ByteArray := prog_17_method_50_code
def yJ9_floorMod_7cf53 : MethodName := ⟨RJ9, "floorMod", "(II)I"⟩
abbrev cJ9_max_7cf53 : ByteArray := prog_17_method_65_code
def yJ9_max_7cf53 : MethodName := ⟨RJ9, "max", "(II)I"⟩
abbrev cJ9_min_7cf53 : ByteArray := prog_17_method_69_code
def yJ9_min_7cf53 : MethodName := ⟨RJ9, "min", "(II)I"⟩
def RJ10 : String := "java/lang/System"
def TJ10 : u_T := fun k => match k with
  | _ => ("", "", "", false)
def tyJ10 : Nat → FieldType := fun k => match k with
  | _ => .int
abbrev wsJ100 : List Cond := u_ws RJ10 TJ10 0
theorem nmJ10 : ∀ a, a < 0 → ∀ b, b < 0 → a ≠ b → (TJ10 a).2.1 ≠ (TJ10 b).2.1 := by decide +kernel
theorem tyJ10_ok : ∀ k, k < 0 → parseFieldDescriptor (TJ10 k).2.2.1 = some (tyJ10 k) := by decide +kernel
def RJxa1e45 : String := "java/util/AbstractCollection"
def TJxa1e45 : u_T := fun k => match k with
  | _ => ("", "", "", false)
def tyJxa1e45 : Nat → FieldType := fun k => match k with
  | _ => .int
abbrev wsJxa1e450 : List Cond := u_ws RJxa1e45 TJxa1e45 0
theorem nmJxa1e45 : ∀ a, a < 0 → ∀ b, b < 0 → a ≠ b → (TJxa1e45 a).2.1 ≠ (TJxa1e45 b).2.1 := by decide +kernel
theorem tyJxa1e45_ok : ∀ k, k < 0 → parseFieldDescriptor (TJxa1e45 k).2.2.1 = some (tyJxa1e45 k) := by decide +kernel
abbrev cJxa1e45_init_da8c8 : ByteArray := prog_19_method_1_code
def yJxa1e45_init_da8c8 : MethodName := ⟨RJxa1e45, "<init>", "()V"⟩
def RJxc12de : String := "java/util/AbstractList"
def TJxc12de : u_T := fun k => match k with
  | _ => ("", "", "", false)
def tyJxc12de : Nat → FieldType := fun k => match k with
  | _ => .int
abbrev wsJxc12de0 : List Cond := u_ws RJxc12de TJxc12de 0
theorem nmJxc12de : ∀ a, a < 0 → ∀ b, b < 0 → a ≠ b → (TJxc12de a).2.1 ≠ (TJxc12de b).2.1 := by decide +kernel
theorem tyJxc12de_ok : ∀ k, k < 0 → parseFieldDescriptor (TJxc12de k).2.2.1 = some (tyJxc12de k) := by decide +kernel
abbrev cJxc12de_init_da8c8 : ByteArray := prog_20_method_1_code
def yJxc12de_init_da8c8 : MethodName := ⟨RJxc12de, "<init>", "()V"⟩
def RJx4a65c : String := "java/util/ArrayList"
def TJx4a65c : u_T := fun k => match k with
  | 0 => ("java/util/AbstractList", "modCount", "I", false)
  | 1 => ("java/util/ArrayList", "elementData", "[Ljava/lang/Object;", false)
  | _ => ("java/util/ArrayList", "size", "I", false)
def tyJx4a65c : Nat → FieldType := fun k => match k with
  | 0 => .int
  | 1 => .array (.object "java/lang/Object")
  | _ => .int
abbrev wsJx4a65c0 : List Cond := u_ws RJx4a65c TJx4a65c 3
theorem nmJx4a65c : ∀ a, a < 3 → ∀ b, b < 3 → a ≠ b → (TJx4a65c a).2.1 ≠ (TJx4a65c b).2.1 := by decide +kernel
theorem tyJx4a65c_ok : ∀ k, k < 3 → parseFieldDescriptor (TJx4a65c k).2.2.1 = some (tyJx4a65c k) := by decide +kernel
abbrev cJx4a65c_init_da8c8 : ByteArray := prog_21_method_2_code
def yJx4a65c_init_da8c8 : MethodName := ⟨RJx4a65c, "<init>", "()V"⟩
abbrev cJx4a65c_grow_92f84 : ByteArray := prog_21_method_6_code
def yJx4a65c_grow_92f84 : MethodName := ⟨RJx4a65c, "grow", "(I)[Ljava/lang/Object;"⟩
abbrev cJx4a65c_grow_d5877 : ByteArray := prog_21_method_7_code
def yJx4a65c_grow_d5877 : MethodName := ⟨RJx4a65c, "grow", "()[Ljava/lang/Object;"⟩
abbrev cJx4a65c_size_8abf5 : ByteArray := prog_21_method_8_code
def yJx4a65c_size_8abf5 : MethodName := ⟨RJx4a65c, "size", "()I"⟩
abbrev cJx4a65c_elementData_915e3 : ByteArray := prog_21_method_18_code
def yJx4a65c_elementData_915e3 : MethodName := ⟨RJx4a65c, "elementData", "(I)Ljava/lang/Object;"⟩
abbrev cJx4a65c_get_915e3 : ByteArray := prog_21_method_20_code
def yJx4a65c_get_915e3 : MethodName := ⟨RJx4a65c, "get", "(I)Ljava/lang/Object;"⟩
abbrev cJx4a65c_add_72be8 : ByteArray := prog_21_method_24_code
def yJx4a65c_add_72be8 : MethodName := ⟨RJx4a65c, "add", "(Ljava/lang/Object;[Ljava/lang/Object;I)V"⟩
abbrev cJx4a65c_add_9ea2d : ByteArray := prog_21_method_25_code
def yJx4a65c_add_9ea2d : MethodName := ⟨RJx4a65c, "add", "(Ljava/lang/Object;)Z"⟩
def RJ7 : String := "java/util/Arrays"
def TJ7 : u_T := fun k => match k with
  | _ => ("", "", "", false)
def tyJ7 : Nat → FieldType := fun k => match k with
  | _ => .int
abbrev wsJ70 : List Cond := u_ws RJ7 TJ7 0
theorem nmJ7 : ∀ a, a < 0 → ∀ b, b < 0 → a ≠ b → (TJ7 a).2.1 ≠ (TJ7 b).2.1 := by decide +kernel
theorem tyJ7_ok : ∀ k, k < 0 → parseFieldDescriptor (TJ7 k).2.2.1 = some (tyJ7 k) := by decide +kernel
abbrev cJ7_fill_53178 : ByteArray := prog_22_method_103_code
def yJ7_fill_53178 : MethodName := ⟨RJ7, "fill", "([II)V"⟩
abbrev cJ7_copyOf_1904c : ByteArray := prog_22_method_119_code
def yJ7_copyOf_1904c : MethodName := ⟨RJ7, "copyOf", "([Ljava/lang/Object;I)[Ljava/lang/Object;"⟩
abbrev cJ7_copyOf_6403c : ByteArray := prog_22_method_120_code
def yJ7_copyOf_6403c : MethodName := ⟨RJ7, "copyOf", "([Ljava/lang/Object;ILjava/lang/Class;)[Ljava/lang/Object;"⟩
def RJx5ef63 : String := "java/util/Collection"
def TJx5ef63 : u_T := fun k => match k with
  | _ => ("", "", "", false)
def tyJx5ef63 : Nat → FieldType := fun k => match k with
  | _ => .int
abbrev wsJx5ef630 : List Cond := u_ws RJx5ef63 TJx5ef63 0
theorem nmJx5ef63 : ∀ a, a < 0 → ∀ b, b < 0 → a ≠ b → (TJx5ef63 a).2.1 ≠ (TJx5ef63 b).2.1 := by decide +kernel
theorem tyJx5ef63_ok : ∀ k, k < 0 → parseFieldDescriptor (TJx5ef63 k).2.2.1 = some (tyJx5ef63 k) := by decide +kernel
def RJxbd725 : String := "java/util/List"
def TJxbd725 : u_T := fun k => match k with
  | _ => ("", "", "", false)
def tyJxbd725 : Nat → FieldType := fun k => match k with
  | _ => .int
abbrev wsJxbd7250 : List Cond := u_ws RJxbd725 TJxbd725 0
theorem nmJxbd725 : ∀ a, a < 0 → ∀ b, b < 0 → a ≠ b → (TJxbd725 a).2.1 ≠ (TJxbd725 b).2.1 := by decide +kernel
theorem tyJxbd725_ok : ∀ k, k < 0 → parseFieldDescriptor (TJxbd725 k).2.2.1 = some (tyJxbd725 k) := by decide +kernel
def RJ15 : String := "java/util/Objects"
def TJ15 : u_T := fun k => match k with
  | _ => ("", "", "", false)
def tyJ15 : Nat → FieldType := fun k => match k with
  | _ => .int
abbrev wsJ150 : List Cond := u_ws RJ15 TJ15 0
theorem nmJ15 : ∀ a, a < 0 → ∀ b, b < 0 → a ≠ b → (TJ15 a).2.1 ≠ (TJ15 b).2.1 := by decide +kernel
theorem tyJ15_ok : ∀ k, k < 0 → parseFieldDescriptor (TJ15 k).2.2.1 = some (tyJ15 k) := by decide +kernel
abbrev cJ15_checkIndex_7cf53 : ByteArray := prog_25_method_17_code
def yJ15_checkIndex_7cf53 : MethodName := ⟨RJ15, "checkIndex", "(II)I"⟩
def RJxf0a74 : String := "java/util/RandomAccess"
def TJxf0a74 : u_T := fun k => match k with
  | _ => ("", "", "", false)
def tyJxf0a74 : Nat → FieldType := fun k => match k with
  | _ => .int
abbrev wsJxf0a740 : List Cond := u_ws RJxf0a74 TJxf0a74 0
theorem nmJxf0a74 : ∀ a, a < 0 → ∀ b, b < 0 → a ≠ b → (TJxf0a74 a).2.1 ≠ (TJxf0a74 b).2.1 := by decide +kernel
theorem tyJxf0a74_ok : ∀ k, k < 0 → parseFieldDescriptor (TJxf0a74 k).2.2.1 = some (tyJxf0a74 k) := by decide +kernel
def RJxa66e6 : String := "java/util/SequencedCollection"
def TJxa66e6 : u_T := fun k => match k with
  | _ => ("", "", "", false)
def tyJxa66e6 : Nat → FieldType := fun k => match k with
  | _ => .int
abbrev wsJxa66e60 : List Cond := u_ws RJxa66e6 TJxa66e6 0
theorem nmJxa66e6 : ∀ a, a < 0 → ∀ b, b < 0 → a ≠ b → (TJxa66e6 a).2.1 ≠ (TJxa66e6 b).2.1 := by decide +kernel
theorem tyJxa66e6_ok : ∀ k, k < 0 → parseFieldDescriptor (TJxa66e6 k).2.2.1 = some (tyJxa66e6 k) := by decide +kernel
def RJ8 : String := "jdk/internal/util/ArraysSupport"
def TJ8 : u_T := fun k => match k with
  | _ => ("", "", "", false)
def tyJ8 : Nat → FieldType := fun k => match k with
  | _ => .int
abbrev wsJ80 : List Cond := u_ws RJ8 TJ8 0
theorem nmJ8 : ∀ a, a < 0 → ∀ b, b < 0 → a ≠ b → (TJ8 a).2.1 ≠ (TJ8 b).2.1 := by decide +kernel
theorem tyJ8_ok : ∀ k, k < 0 → parseFieldDescriptor (TJ8 k).2.2.1 = some (tyJ8 k) := by decide +kernel
abbrev cJ8_newLength_cabcc : ByteArray := prog_28_method_27_code
def yJ8_newLength_cabcc : MethodName := ⟨RJ8, "newLength", "(III)I"⟩
abbrev cJ8_hugeLength_7cf53 : ByteArray := prog_28_method_28_code
def yJ8_hugeLength_7cf53 : MethodName := ⟨RJ8, "hugeLength", "(II)I"⟩
def RJ3 : String := "jdk/internal/util/Preconditions"
def TJ3 : u_T := fun k => match k with
  | _ => ("", "", "", false)
def tyJ3 : Nat → FieldType := fun k => match k with
  | _ => .int
abbrev wsJ30 : List Cond := u_ws RJ3 TJ3 0
theorem nmJ3 : ∀ a, a < 0 → ∀ b, b < 0 → a ≠ b → (TJ3 a).2.1 ≠ (TJ3 b).2.1 := by decide +kernel
theorem tyJ3_ok : ∀ k, k < 0 → parseFieldDescriptor (TJ3 k).2.2.1 = some (tyJ3 k) := by decide +kernel
abbrev cJ3_checkIndex_8e157 : ByteArray := prog_29_method_11_code
def yJ3_checkIndex_8e157 : MethodName := ⟨RJ3, "checkIndex", "(IILjava/util/function/BiFunction;)I"⟩
def RL : String := "WoodenMainsLaw"
abbrev cL_law : ByteArray := code
def yL_law : MethodName := ⟨RL, "law", "([I)Z"⟩
abbrev vwCl : List vw_C := [(RJx4a65c, TJx4a65c, 3), (RX0, TX0, 8), (RX1, TX1, 9), (RX2, TX2, 2), (RX3, TX3, 4), (RX4, TX4, 2), (RX5, TX5, 11), (RX6, TX6, 6), (RX7, TX7, 4), (RX8, TX8, 2), (RX9, TX9, 15), (RX10, TX10, 58)]
/-- the chunks of the tables, by number; those of their words that stand on every call -/
def tbC : Nat → List Cond := fun k => match k with
  | 0 => k2_sels lw_privs
  | 1 => tables_1_1
  | 2 => tables_1_2
  | 3 => tables_1_3
  | 4 => tables_1_4
  | 5 => tables_1_5
  | _ => tables_1_6
def tbG : List Cond := lw_tbl.filter goodWord
theorem tbC_in : ∀ (k : Nat) {w : Cond}, w ∈ tbC k → w ∈ lw_tbl := by
  intro k w h
  match k, h with
  | 0, h => exact List.mem_append_left _ h
  | 1, h => exact List.mem_append_right _ (List.mem_append_left _ h)
  | 2, h => exact List.mem_append_right _ (List.mem_append_right _ (List.mem_append_left _ h))
  | 3, h => exact List.mem_append_right _ (List.mem_append_right _ (List.mem_append_right _ (List.mem_append_left _ h)))
  | 4, h => exact List.mem_append_right _ (List.mem_append_right _ (List.mem_append_right _ (List.mem_append_right _ (List.mem_append_left _ h))))
  | 5, h => exact List.mem_append_right _ (List.mem_append_right _ (List.mem_append_right _ (List.mem_append_right _ (List.mem_append_right _ (List.mem_append_left _ h)))))
  | _ + 6, h => exact List.mem_append_right _ (List.mem_append_right _ (List.mem_append_right _ (List.mem_append_right _ (List.mem_append_right _ (List.mem_append_right _ h)))))
theorem tbA (k i : Nat) {w : Cond} (h : (tbC k)[i]? = some w) : w ∈ lw_tbl := tbC_in k (List.mem_of_getElem? h)
theorem tbW (k i : Nat) {w : Cond} (h : (tbC k)[i]? = some w) (hg : goodWord w = true) : w ∈ tbG := List.mem_filter.mpr ⟨tbA k i h, hg⟩
theorem tbG_good {w : Cond} (h : w ∈ tbG) : goodWord w = true := (List.mem_filter.mp h).2
theorem tbG_tbl {w : Cond} (h : w ∈ tbG) : w ∈ lw_tbl := (List.mem_filter.mp h).1
theorem tbL {C : String} {T : u_T} {N : Nat} (ps : List (Nat × Nat)) (h : (List.range N).all (fun k => decide ((tbC (ps.getD k (0, 0)).1)[(ps.getD k (0, 0)).2]? = some (u_lay C T k)) && goodWord (u_lay C T k)) = true) : ∀ w ∈ u_ws C T N, w ∈ tbG := by
  intro w hw
  obtain ⟨k, hk, rfl⟩ := List.mem_map.mp hw
  have h1 := List.all_eq_true.mp h k hk
  rw [Bool.and_eq_true] at h1
  exact tbW _ _ (of_decide_eq_true h1.1) h1.2
set_option maxRecDepth 20000 in
theorem inJx4a65c : ∀ w ∈ u_ws RJx4a65c TJx4a65c 3, w ∈ tbG := tbL [(1, 53), (1, 49), (1, 51)] (by decide +kernel)
set_option maxRecDepth 20000 in
theorem inX0 : ∀ w ∈ u_ws RX0 TX0 8, w ∈ tbG := tbL [(1, 128), (1, 130), (1, 132), (1, 134), (1, 136), (1, 138), (1, 140), (1, 142)] (by decide +kernel)
set_option maxRecDepth 20000 in
theorem inX1 : ∀ w ∈ u_ws RX1 TX1 9, w ∈ tbG := tbL [(2, 151), (2, 153), (2, 155), (2, 157), (2, 159), (2, 161), (2, 163), (2, 165), (2, 167)] (by decide +kernel)
set_option maxRecDepth 20000 in
theorem inX2 : ∀ w ∈ u_ws RX2 TX2 2, w ∈ tbG := tbL [(1, 108), (1, 110)] (by decide +kernel)
set_option maxRecDepth 20000 in
theorem inX3 : ∀ w ∈ u_ws RX3 TX3 4, w ∈ tbG := tbL [(4, 73), (4, 75), (4, 77), (4, 79)] (by decide +kernel)
set_option maxRecDepth 20000 in
theorem inX4 : ∀ w ∈ u_ws RX4 TX4 2, w ∈ tbG := tbL [(1, 154), (1, 156)] (by decide +kernel)
set_option maxRecDepth 20000 in
theorem inX5 : ∀ w ∈ u_ws RX5 TX5 11, w ∈ tbG := tbL [(2, 29), (2, 31), (2, 33), (2, 35), (2, 37), (2, 39), (2, 41), (2, 43), (2, 45), (2, 47), (2, 49)] (by decide +kernel)
set_option maxRecDepth 20000 in
theorem inX6 : ∀ w ∈ u_ws RX6 TX6 6, w ∈ tbG := tbL [(1, 87), (1, 89), (1, 91), (1, 93), (1, 95), (1, 97)] (by decide +kernel)
set_option maxRecDepth 20000 in
theorem inX7 : ∀ w ∈ u_ws RX7 TX7 4, w ∈ tbG := tbL [(3, 29), (3, 31), (3, 33), (3, 35)] (by decide +kernel)
set_option maxRecDepth 20000 in
theorem inX8 : ∀ w ∈ u_ws RX8 TX8 2, w ∈ tbG := tbL [(1, 66), (1, 68)] (by decide +kernel)
set_option maxRecDepth 20000 in
theorem inX9 : ∀ w ∈ u_ws RX9 TX9 15, w ∈ tbG := tbL [(1, 174), (1, 176), (1, 178), (1, 180), (1, 182), (1, 184), (1, 186), (1, 188), (1, 190), (1, 192), (1, 194), (1, 196), (1, 198), (1, 200), (1, 202)] (by decide +kernel)
set_option maxRecDepth 20000 in
theorem inX10 : ∀ w ∈ u_ws RX10 TX10 58, w ∈ tbG := tbL [(4, 170), (4, 172), (4, 174), (4, 176), (4, 178), (4, 180), (4, 182), (4, 184), (4, 186), (4, 188), (4, 190), (4, 192), (4, 194), (4, 196), (4, 198), (4, 200), (4, 202), (4, 204), (4, 206), (4, 208), (4, 210), (4, 212), (4, 214), (4, 216), (4, 218), (4, 220), (4, 222), (4, 224), (4, 226), (4, 228), (4, 230), (4, 232), (4, 234), (4, 236), (4, 238), (5, 0), (5, 2), (5, 4), (5, 6), (5, 8), (5, 10), (5, 12), (5, 14), (5, 16), (5, 18), (5, 20), (5, 22), (5, 24), (5, 26), (5, 28), (5, 30), (5, 32), (5, 34), (5, 36), (5, 38), (5, 40), (5, 42), (5, 44)] (by decide +kernel)
end
section
theorem dX0_init_0 : decode cX0_init 0 = .ok (.aload_n 0, 1) := by decide +kernel
theorem dX0_init_1 : decode cX0_init 1 = .ok (.invokespecial 3, 3) := by decide +kernel
theorem dX0_init_4 : decode cX0_init 4 = .ok (.aload_n 0, 1) := by decide +kernel
theorem dX0_init_5 : decode cX0_init 5 = .ok (.bipush 6, 2) := by decide +kernel
theorem dX0_init_7 : decode cX0_init 7 = .ok (.newarray .int, 2) := by decide +kernel
theorem dX0_init_9 : decode cX0_init 9 = .ok (.putfield 9, 3) := by decide +kernel
theorem dX0_init_12 : decode cX0_init 12 = .ok (.aload_n 0, 1) := by decide +kernel
theorem dX0_init_13 : decode cX0_init 13 = .ok (.bipush 6, 2) := by decide +kernel
theorem dX0_init_15 : decode cX0_init 15 = .ok (.newarray .int, 2) := by decide +kernel
theorem dX0_init_17 : decode cX0_init 17 = .ok (.putfield 15, 3) := by decide +kernel
theorem dX0_init_20 : decode cX0_init 20 = .ok (.aload_n 0, 1) := by decide +kernel
theorem dX0_init_21 : decode cX0_init 21 = .ok (.bipush 6, 2) := by decide +kernel
theorem dX0_init_23 : decode cX0_init 23 = .ok (.newarray .int, 2) := by decide +kernel
theorem dX0_init_25 : decode cX0_init 25 = .ok (.putfield 18, 3) := by decide +kernel
theorem dX0_init_28 : decode cX0_init 28 = .ok (.aload_n 0, 1) := by decide +kernel
theorem dX0_init_29 : decode cX0_init 29 = .ok (.bipush 7, 2) := by decide +kernel
theorem dX0_init_31 : decode cX0_init 31 = .ok (.newarray .int, 2) := by decide +kernel
theorem dX0_init_33 : decode cX0_init 33 = .ok (.putfield 21, 3) := by decide +kernel
theorem dX0_init_36 : decode cX0_init 36 = .ok (.return_, 1) := by decide +kernel
theorem dX0_begin_0 : decode cX0_begin 0 = .ok (.aload_n 0, 1) := by decide +kernel
theorem dX0_begin_1 : decode cX0_begin 1 = .ok (.iconst 0, 1) := by decide +kernel
theorem dX0_begin_2 : decode cX0_begin 2 = .ok (.putfield 24, 3) := by decide +kernel
theorem dX0_begin_5 : decode cX0_begin 5 = .ok (.aload_n 0, 1) := by decide +kernel
theorem dX0_begin_6 : decode cX0_begin 6 = .ok (.iload_n 1, 1) := by decide +kernel
theorem dX0_begin_7 : decode cX0_begin 7 = .ok (.putfield 28, 3) := by decide +kernel
theorem dX0_begin_10 : decode cX0_begin 10 = .ok (.return_, 1) := by decide +kernel
theorem dX0_tell_0 : decode cX0_tell 0 = .ok (.aload_n 0, 1) := by decide +kernel
theorem dX0_tell_1 : decode cX0_tell 1 = .ok (.getfield 24, 3) := by decide +kernel
theorem dX0_tell_4 : decode cX0_tell 4 = .ok (.bipush 6, 2) := by decide +kernel
theorem dX0_tell_6 : decode cX0_tell 6 = .ok (.if_icmp .lt 4, 3) := by decide +kernel
theorem dX0_tell_9 : decode cX0_tell 9 = .ok (.return_, 1) := by decide +kernel
theorem dX0_tell_10 : decode cX0_tell 10 = .ok (.aload_n 0, 1) := by decide +kernel
theorem dX0_tell_11 : decode cX0_tell 11 = .ok (.getfield 9, 3) := by decide +kernel
theorem dX0_tell_14 : decode cX0_tell 14 = .ok (.aload_n 0, 1) := by decide +kernel
theorem dX0_tell_15 : decode cX0_tell 15 = .ok (.getfield 24, 3) := by decide +kernel
theorem dX0_tell_18 : decode cX0_tell 18 = .ok (.iload_n 1, 1) := by decide +kernel
theorem dX0_tell_19 : decode cX0_tell 19 = .ok (.iastore, 1) := by decide +kernel
theorem dX0_tell_20 : decode cX0_tell 20 = .ok (.aload_n 0, 1) := by decide +kernel
theorem dX0_tell_21 : decode cX0_tell 21 = .ok (.dup, 1) := by decide +kernel
theorem dX0_tell_22 : decode cX0_tell 22 = .ok (.getfield 24, 3) := by decide +kernel
theorem dX0_tell_25 : decode cX0_tell 25 = .ok (.iconst 1, 1) := by decide +kernel
theorem dX0_tell_26 : decode cX0_tell 26 = .ok (.iadd, 1) := by decide +kernel
theorem dX0_tell_27 : decode cX0_tell 27 = .ok (.putfield 24, 3) := by decide +kernel
theorem dX0_tell_30 : decode cX0_tell 30 = .ok (.return_, 1) := by decide +kernel
theorem dX0_bestDay_0 : decode cX0_bestDay 0 = .ok (.iload_n 1, 1) := by decide +kernel
theorem dX0_bestDay_1 : decode cX0_bestDay 1 = .ok (.ifCond .lt 20, 3) := by decide +kernel
theorem dX0_bestDay_4 : decode cX0_bestDay 4 = .ok (.iload_n 1, 1) := by decide +kernel
theorem dX0_bestDay_5 : decode cX0_bestDay 5 = .ok (.aload_n 0, 1) := by decide +kernel
theorem dX0_bestDay_6 : decode cX0_bestDay 6 = .ok (.getfield 24, 3) := by decide +kernel
theorem dX0_bestDay_9 : decode cX0_bestDay 9 = .ok (.if_icmp .ge 12, 3) := by decide +kernel
theorem dX0_bestDay_12 : decode cX0_bestDay 12 = .ok (.aload_n 0, 1) := by decide +kernel
theorem dX0_bestDay_13 : decode cX0_bestDay 13 = .ok (.getfield 18, 3) := by decide +kernel
theorem dX0_bestDay_16 : decode cX0_bestDay 16 = .ok (.iload_n 1, 1) := by decide +kernel
theorem dX0_bestDay_17 : decode cX0_bestDay 17 = .ok (.iaload, 1) := by decide +kernel
theorem dX0_bestDay_18 : decode cX0_bestDay 18 = .ok (.goto 5, 3) := by decide +kernel
theorem dX0_bestDay_21 : decode cX0_bestDay 21 = .ok (.bipush (-9), 2) := by decide +kernel
theorem dX0_bestDay_23 : decode cX0_bestDay 23 = .ok (.ireturn, 1) := by decide +kernel
theorem dX0_search_0 : decode cX0_search 0 = .ok (.aload_n 0, 1) := by decide +kernel
theorem dX0_search_1 : decode cX0_search 1 = .ok (.ldc 33, 2) := by decide +kernel
theorem dX0_search_3 : decode cX0_search 3 = .ok (.putfield 34, 3) := by decide +kernel
theorem dX0_search_6 : decode cX0_search 6 = .ok (.aload_n 0, 1) := by decide +kernel
theorem dX0_search_7 : decode cX0_search 7 = .ok (.ldc 33, 2) := by decide +kernel
theorem dX0_search_9 : decode cX0_search 9 = .ok (.putfield 37, 3) := by decide +kernel
theorem dX0_search_12 : decode cX0_search 12 = .ok (.aload_n 0, 1) := by decide +kernel
theorem dX0_search_13 : decode cX0_search 13 = .ok (.iconst 0, 1) := by decide +kernel
theorem dX0_search_14 : decode cX0_search 14 = .ok (.iconst 0, 1) := by decide +kernel
theorem dX0_search_15 : decode cX0_search 15 = .ok (.invokevirtual 40, 3) := by decide +kernel
theorem dX0_search_18 : decode cX0_search 18 = .ok (.return_, 1) := by decide +kernel
theorem dX0_tryFrom_0 : decode cX0_tryFrom 0 = .ok (.iload_n 1, 1) := by decide +kernel
theorem dX0_tryFrom_1 : decode cX0_tryFrom 1 = .ok (.aload_n 0, 1) := by decide +kernel
theorem dX0_tryFrom_2 : decode cX0_tryFrom 2 = .ok (.getfield 24, 3) := by decide +kernel
theorem dX0_tryFrom_5 : decode cX0_tryFrom 5 = .ok (.if_icmp .lt 8, 3) := by decide +kernel
theorem dX0_tryFrom_8 : decode cX0_tryFrom 8 = .ok (.aload_n 0, 1) := by decide +kernel
theorem dX0_tryFrom_9 : decode cX0_tryFrom 9 = .ok (.invokevirtual 44, 3) := by decide +kernel
theorem dX0_tryFrom_12 : decode cX0_tryFrom 12 = .ok (.return_, 1) := by decide +kernel
theorem dX0_tryFrom_13 : decode cX0_tryFrom 13 = .ok (.iconst 0, 1) := by decide +kernel
theorem dX0_tryFrom_14 : decode cX0_tryFrom 14 = .ok (.istore_n 3, 1) := by decide +kernel
theorem dX0_tryFrom_15 : decode cX0_tryFrom 15 = .ok (.iload_n 3, 1) := by decide +kernel
theorem dX0_tryFrom_16 : decode cX0_tryFrom 16 = .ok (.iload_n 2, 1) := by decide +kernel
theorem dX0_tryFrom_17 : decode cX0_tryFrom 17 = .ok (.if_icmp .gt 66, 3) := by decide +kernel
theorem dX0_tryFrom_20 : decode cX0_tryFrom 20 = .ok (.iload_n 3, 1) := by decide +kernel
theorem dX0_tryFrom_21 : decode cX0_tryFrom 21 = .ok (.bipush 7, 2) := by decide +kernel
theorem dX0_tryFrom_23 : decode cX0_tryFrom 23 = .ok (.if_icmp .ge 60, 3) := by decide +kernel
theorem dX0_tryFrom_26 : decode cX0_tryFrom 26 = .ok (.aload_n 0, 1) := by decide +kernel
theorem dX0_tryFrom_27 : decode cX0_tryFrom 27 = .ok (.getfield 15, 3) := by decide +kernel
theorem dX0_tryFrom_30 : decode cX0_tryFrom 30 = .ok (.iload_n 1, 1) := by decide +kernel
theorem dX0_tryFrom_31 : decode cX0_tryFrom 31 = .ok (.iload_n 3, 1) := by decide +kernel
theorem dX0_tryFrom_32 : decode cX0_tryFrom 32 = .ok (.iastore, 1) := by decide +kernel
theorem dX0_tryFrom_33 : decode cX0_tryFrom 33 = .ok (.aload_n 0, 1) := by decide +kernel
theorem dX0_tryFrom_34 : decode cX0_tryFrom 34 = .ok (.getfield 21, 3) := by decide +kernel
theorem dX0_tryFrom_37 : decode cX0_tryFrom 37 = .ok (.iload_n 3, 1) := by decide +kernel
theorem dX0_tryFrom_38 : decode cX0_tryFrom 38 = .ok (.dup2, 1) := by decide +kernel
theorem dX0_tryFrom_39 : decode cX0_tryFrom 39 = .ok (.iaload, 1) := by decide +kernel
theorem dX0_tryFrom_40 : decode cX0_tryFrom 40 = .ok (.aload_n 0, 1) := by decide +kernel
theorem dX0_tryFrom_41 : decode cX0_tryFrom 41 = .ok (.getfield 9, 3) := by decide +kernel
theorem dX0_tryFrom_44 : decode cX0_tryFrom 44 = .ok (.iload_n 1, 1) := by decide +kernel
theorem dX0_tryFrom_45 : decode cX0_tryFrom 45 = .ok (.iaload, 1) := by decide +kernel
theorem dX0_tryFrom_46 : decode cX0_tryFrom 46 = .ok (.iadd, 1) := by decide +kernel
theorem dX0_tryFrom_47 : decode cX0_tryFrom 47 = .ok (.iastore, 1) := by decide +kernel
theorem dX0_tryFrom_48 : decode cX0_tryFrom 48 = .ok (.aload_n 0, 1) := by decide +kernel
theorem dX0_tryFrom_49 : decode cX0_tryFrom 49 = .ok (.iload_n 1, 1) := by decide +kernel
theorem dX0_tryFrom_50 : decode cX0_tryFrom 50 = .ok (.iconst 1, 1) := by decide +kernel
theorem dX0_tryFrom_51 : decode cX0_tryFrom 51 = .ok (.iadd, 1) := by decide +kernel
theorem dX0_tryFrom_52 : decode cX0_tryFrom 52 = .ok (.iload_n 2, 1) := by decide +kernel
theorem dX0_tryFrom_53 : decode cX0_tryFrom 53 = .ok (.iload_n 3, 1) := by decide +kernel
theorem dX0_tryFrom_54 : decode cX0_tryFrom 54 = .ok (.iconst 1, 1) := by decide +kernel
theorem dX0_tryFrom_55 : decode cX0_tryFrom 55 = .ok (.iadd, 1) := by decide +kernel
theorem dX0_tryFrom_56 : decode cX0_tryFrom 56 = .ok (.invokestatic 47, 3) := by decide +kernel
theorem dX0_tryFrom_59 : decode cX0_tryFrom 59 = .ok (.invokevirtual 40, 3) := by decide +kernel
theorem dX0_tryFrom_62 : decode cX0_tryFrom 62 = .ok (.aload_n 0, 1) := by decide +kernel
theorem dX0_tryFrom_63 : decode cX0_tryFrom 63 = .ok (.getfield 21, 3) := by decide +kernel
theorem dX0_tryFrom_66 : decode cX0_tryFrom 66 = .ok (.iload_n 3, 1) := by decide +kernel
theorem dX0_tryFrom_67 : decode cX0_tryFrom 67 = .ok (.dup2, 1) := by decide +kernel
theorem dX0_tryFrom_68 : decode cX0_tryFrom 68 = .ok (.iaload, 1) := by decide +kernel
theorem dX0_tryFrom_69 : decode cX0_tryFrom 69 = .ok (.aload_n 0, 1) := by decide +kernel
theorem dX0_tryFrom_70 : decode cX0_tryFrom 70 = .ok (.getfield 9, 3) := by decide +kernel
theorem dX0_tryFrom_73 : decode cX0_tryFrom 73 = .ok (.iload_n 1, 1) := by decide +kernel
theorem dX0_tryFrom_74 : decode cX0_tryFrom 74 = .ok (.iaload, 1) := by decide +kernel
theorem dX0_tryFrom_75 : decode cX0_tryFrom 75 = .ok (.isub, 1) := by decide +kernel
theorem dX0_tryFrom_76 : decode cX0_tryFrom 76 = .ok (.iastore, 1) := by decide +kernel
theorem dX0_tryFrom_77 : decode cX0_tryFrom 77 = .ok (.iinc 3 1, 3) := by decide +kernel
theorem dX0_tryFrom_80 : decode cX0_tryFrom 80 = .ok (.goto (-65), 3) := by decide +kernel
theorem dX0_tryFrom_83 : decode cX0_tryFrom 83 = .ok (.return_, 1) := by decide +kernel
theorem dX0_weigh_0 : decode cX0_weigh 0 = .ok (.iconst 0, 1) := by decide +kernel
theorem dX0_weigh_1 : decode cX0_weigh 1 = .ok (.istore_n 1, 1) := by decide +kernel
theorem dX0_weigh_2 : decode cX0_weigh 2 = .ok (.iconst 0, 1) := by decide +kernel
theorem dX0_weigh_3 : decode cX0_weigh 3 = .ok (.istore_n 2, 1) := by decide +kernel
theorem dX0_weigh_4 : decode cX0_weigh 4 = .ok (.iconst 0, 1) := by decide +kernel
theorem dX0_weigh_5 : decode cX0_weigh 5 = .ok (.istore_n 3, 1) := by decide +kernel
theorem dX0_weigh_6 : decode cX0_weigh 6 = .ok (.iload_n 3, 1) := by decide +kernel
theorem dX0_weigh_7 : decode cX0_weigh 7 = .ok (.bipush 7, 2) := by decide +kernel
theorem dX0_weigh_9 : decode cX0_weigh 9 = .ok (.if_icmp .ge 38, 3) := by decide +kernel
theorem dX0_weigh_12 : decode cX0_weigh 12 = .ok (.iload_n 1, 1) := by decide +kernel
theorem dX0_weigh_13 : decode cX0_weigh 13 = .ok (.iconst 0, 1) := by decide +kernel
theorem dX0_weigh_14 : decode cX0_weigh 14 = .ok (.aload_n 0, 1) := by decide +kernel
theorem dX0_weigh_15 : decode cX0_weigh 15 = .ok (.getfield 21, 3) := by decide +kernel
theorem dX0_weigh_18 : decode cX0_weigh 18 = .ok (.iload_n 3, 1) := by decide +kernel
theorem dX0_weigh_19 : decode cX0_weigh 19 = .ok (.iaload, 1) := by decide +kernel
theorem dX0_weigh_20 : decode cX0_weigh 20 = .ok (.aload_n 0, 1) := by decide +kernel
theorem dX0_weigh_21 : decode cX0_weigh 21 = .ok (.getfield 28, 3) := by decide +kernel
theorem dX0_weigh_24 : decode cX0_weigh 24 = .ok (.isub, 1) := by decide +kernel
theorem dX0_weigh_25 : decode cX0_weigh 25 = .ok (.invokestatic 47, 3) := by decide +kernel
theorem dX0_weigh_28 : decode cX0_weigh 28 = .ok (.iadd, 1) := by decide +kernel
theorem dX0_weigh_29 : decode cX0_weigh 29 = .ok (.istore_n 1, 1) := by decide +kernel
theorem dX0_weigh_30 : decode cX0_weigh 30 = .ok (.iload_n 2, 1) := by decide +kernel
theorem dX0_weigh_31 : decode cX0_weigh 31 = .ok (.aload_n 0, 1) := by decide +kernel
theorem dX0_weigh_32 : decode cX0_weigh 32 = .ok (.getfield 21, 3) := by decide +kernel
theorem dX0_weigh_35 : decode cX0_weigh 35 = .ok (.iload_n 3, 1) := by decide +kernel
theorem dX0_weigh_36 : decode cX0_weigh 36 = .ok (.iaload, 1) := by decide +kernel
theorem dX0_weigh_37 : decode cX0_weigh 37 = .ok (.invokestatic 47, 3) := by decide +kernel
theorem dX0_weigh_40 : decode cX0_weigh 40 = .ok (.istore_n 2, 1) := by decide +kernel
theorem dX0_weigh_41 : decode cX0_weigh 41 = .ok (.iinc 3 1, 3) := by decide +kernel
theorem dX0_weigh_44 : decode cX0_weigh 44 = .ok (.goto (-38), 3) := by decide +kernel
theorem dX0_weigh_47 : decode cX0_weigh 47 = .ok (.iload_n 1, 1) := by decide +kernel
theorem dX0_weigh_48 : decode cX0_weigh 48 = .ok (.aload_n 0, 1) := by decide +kernel
theorem dX0_weigh_49 : decode cX0_weigh 49 = .ok (.getfield 34, 3) := by decide +kernel
theorem dX0_weigh_52 : decode cX0_weigh 52 = .ok (.if_icmp .gt 19, 3) := by decide +kernel
theorem dX0_weigh_55 : decode cX0_weigh 55 = .ok (.iload_n 1, 1) := by decide +kernel
theorem dX0_weigh_56 : decode cX0_weigh 56 = .ok (.aload_n 0, 1) := by decide +kernel
theorem dX0_weigh_57 : decode cX0_weigh 57 = .ok (.getfield 34, 3) := by decide +kernel
theorem dX0_weigh_60 : decode cX0_weigh 60 = .ok (.if_icmp .ne 12, 3) := by decide +kernel
theorem dX0_weigh_63 : decode cX0_weigh 63 = .ok (.iload_n 2, 1) := by decide +kernel
theorem dX0_weigh_64 : decode cX0_weigh 64 = .ok (.aload_n 0, 1) := by decide +kernel
theorem dX0_weigh_65 : decode cX0_weigh 65 = .ok (.getfield 37, 3) := by decide +kernel
theorem dX0_weigh_68 : decode cX0_weigh 68 = .ok (.if_icmp .lt 4, 3) := by decide +kernel
theorem dX0_weigh_71 : decode cX0_weigh 71 = .ok (.return_, 1) := by decide +kernel
theorem dX0_weigh_72 : decode cX0_weigh 72 = .ok (.aload_n 0, 1) := by decide +kernel
theorem dX0_weigh_73 : decode cX0_weigh 73 = .ok (.iload_n 1, 1) := by decide +kernel
theorem dX0_weigh_74 : decode cX0_weigh 74 = .ok (.putfield 34, 3) := by decide +kernel
theorem dX0_weigh_77 : decode cX0_weigh 77 = .ok (.aload_n 0, 1) := by decide +kernel
theorem dX0_weigh_78 : decode cX0_weigh 78 = .ok (.iload_n 2, 1) := by decide +kernel
theorem dX0_weigh_79 : decode cX0_weigh 79 = .ok (.putfield 37, 3) := by decide +kernel
theorem dX0_weigh_82 : decode cX0_weigh 82 = .ok (.aload_n 0, 1) := by decide +kernel
theorem dX0_weigh_83 : decode cX0_weigh 83 = .ok (.getfield 15, 3) := by decide +kernel
theorem dX0_weigh_86 : decode cX0_weigh 86 = .ok (.iconst 0, 1) := by decide +kernel
theorem dX0_weigh_87 : decode cX0_weigh 87 = .ok (.aload_n 0, 1) := by decide +kernel
theorem dX0_weigh_88 : decode cX0_weigh 88 = .ok (.getfield 18, 3) := by decide +kernel
theorem dX0_weigh_91 : decode cX0_weigh 91 = .ok (.iconst 0, 1) := by decide +kernel
theorem dX0_weigh_92 : decode cX0_weigh 92 = .ok (.aload_n 0, 1) := by decide +kernel
theorem dX0_weigh_93 : decode cX0_weigh 93 = .ok (.getfield 24, 3) := by decide +kernel
theorem dX0_weigh_96 : decode cX0_weigh 96 = .ok (.invokestatic 53, 3) := by decide +kernel
theorem dX0_weigh_99 : decode cX0_weigh 99 = .ok (.return_, 1) := by decide +kernel
theorem dX1_init_0 : decode cX1_init 0 = .ok (.aload_n 0, 1) := by decide +kernel
theorem dX1_init_1 : decode cX1_init 1 = .ok (.invokespecial 3, 3) := by decide +kernel
theorem dX1_init_4 : decode cX1_init 4 = .ok (.aload_n 0, 1) := by decide +kernel
theorem dX1_init_5 : decode cX1_init 5 = .ok (.iconst (-1), 1) := by decide +kernel
theorem dX1_init_6 : decode cX1_init 6 = .ok (.putfield 9, 3) := by decide +kernel
theorem dX1_init_9 : decode cX1_init 9 = .ok (.aload_n 0, 1) := by decide +kernel
theorem dX1_init_10 : decode cX1_init 10 = .ok (.iload_n 1, 1) := by decide +kernel
theorem dX1_init_11 : decode cX1_init 11 = .ok (.putfield 15, 3) := by decide +kernel
theorem dX1_init_14 : decode cX1_init 14 = .ok (.aload_n 0, 1) := by decide +kernel
theorem dX1_init_15 : decode cX1_init 15 = .ok (.iload_n 2, 1) := by decide +kernel
theorem dX1_init_16 : decode cX1_init 16 = .ok (.putfield 18, 3) := by decide +kernel
theorem dX1_init_19 : decode cX1_init 19 = .ok (.aload_n 0, 1) := by decide +kernel
theorem dX1_init_20 : decode cX1_init 20 = .ok (.iload_n 3, 1) := by decide +kernel
theorem dX1_init_21 : decode cX1_init 21 = .ok (.putfield 21, 3) := by decide +kernel
theorem dX1_init_24 : decode cX1_init 24 = .ok (.aload_n 0, 1) := by decide +kernel
theorem dX1_init_25 : decode cX1_init 25 = .ok (.iload 4, 2) := by decide +kernel
theorem dX1_init_27 : decode cX1_init 27 = .ok (.putfield 24, 3) := by decide +kernel
theorem dX1_init_30 : decode cX1_init 30 = .ok (.aload_n 0, 1) := by decide +kernel
theorem dX1_init_31 : decode cX1_init 31 = .ok (.iload 5, 2) := by decide +kernel
theorem dX1_init_33 : decode cX1_init 33 = .ok (.putfield 27, 3) := by decide +kernel
theorem dX1_init_36 : decode cX1_init 36 = .ok (.return_, 1) := by decide +kernel
theorem dX1_roomInCistern_0 : decode cX1_roomInCistern 0 = .ok (.aload_n 0, 1) := by decide +kernel
theorem dX1_roomInCistern_1 : decode cX1_roomInCistern 1 = .ok (.getfield 18, 3) := by decide +kernel
theorem dX1_roomInCistern_4 : decode cX1_roomInCistern 4 = .ok (.aload_n 0, 1) := by decide +kernel
theorem dX1_roomInCistern_5 : decode cX1_roomInCistern 5 = .ok (.getfield 31, 3) := by decide +kernel
theorem dX1_roomInCistern_8 : decode cX1_roomInCistern 8 = .ok (.isub, 1) := by decide +kernel
theorem dX1_roomInCistern_9 : decode cX1_roomInCistern 9 = .ok (.ireturn, 1) := by decide +kernel
theorem dX1_takeFrom_0 : decode cX1_takeFrom 0 = .ok (.bipush 30, 2) := by decide +kernel
theorem dX1_takeFrom_2 : decode cX1_takeFrom 2 = .ok (.iload_n 1, 1) := by decide +kernel
theorem dX1_takeFrom_3 : decode cX1_takeFrom 3 = .ok (.invokestatic 34, 3) := by decide +kernel
theorem dX1_takeFrom_6 : decode cX1_takeFrom 6 = .ok (.istore_n 3, 1) := by decide +kernel
theorem dX1_takeFrom_7 : decode cX1_takeFrom 7 = .ok (.iload_n 3, 1) := by decide +kernel
theorem dX1_takeFrom_8 : decode cX1_takeFrom 8 = .ok (.aload_n 0, 1) := by decide +kernel
theorem dX1_takeFrom_9 : decode cX1_takeFrom 9 = .ok (.invokevirtual 40, 3) := by decide +kernel
theorem dX1_takeFrom_12 : decode cX1_takeFrom 12 = .ok (.invokestatic 34, 3) := by decide +kernel
theorem dX1_takeFrom_15 : decode cX1_takeFrom 15 = .ok (.istore 4, 2) := by decide +kernel
theorem dX1_takeFrom_17 : decode cX1_takeFrom 17 = .ok (.aload_n 0, 1) := by decide +kernel
theorem dX1_takeFrom_18 : decode cX1_takeFrom 18 = .ok (.dup, 1) := by decide +kernel
theorem dX1_takeFrom_19 : decode cX1_takeFrom 19 = .ok (.getfield 31, 3) := by decide +kernel
theorem dX1_takeFrom_22 : decode cX1_takeFrom 22 = .ok (.iload 4, 2) := by decide +kernel
theorem dX1_takeFrom_24 : decode cX1_takeFrom 24 = .ok (.iadd, 1) := by decide +kernel
theorem dX1_takeFrom_25 : decode cX1_takeFrom 25 = .ok (.putfield 31, 3) := by decide +kernel
theorem dX1_takeFrom_28 : decode cX1_takeFrom 28 = .ok (.aload_n 0, 1) := by decide +kernel
theorem dX1_takeFrom_29 : decode cX1_takeFrom 29 = .ok (.getfield 27, 3) := by decide +kernel
theorem dX1_takeFrom_32 : decode cX1_takeFrom 32 = .ok (.ifCond .eq 6, 3) := by decide +kernel
theorem dX1_takeFrom_35 : decode cX1_takeFrom 35 = .ok (.iload 4, 2) := by decide +kernel
theorem dX1_takeFrom_37 : decode cX1_takeFrom 37 = .ok (.ireturn, 1) := by decide +kernel
theorem dX1_takeFrom_38 : decode cX1_takeFrom 38 = .ok (.aload_n 2, 1) := by decide +kernel
theorem dX1_takeFrom_39 : decode cX1_takeFrom 39 = .ok (.dup, 1) := by decide +kernel
theorem dX1_takeFrom_40 : decode cX1_takeFrom 40 = .ok (.getfield 44, 3) := by decide +kernel
theorem dX1_takeFrom_43 : decode cX1_takeFrom 43 = .ok (.iload_n 3, 1) := by decide +kernel
theorem dX1_takeFrom_44 : decode cX1_takeFrom 44 = .ok (.iload 4, 2) := by decide +kernel
theorem dX1_takeFrom_46 : decode cX1_takeFrom 46 = .ok (.isub, 1) := by decide +kernel
theorem dX1_takeFrom_47 : decode cX1_takeFrom 47 = .ok (.iadd, 1) := by decide +kernel
theorem dX1_takeFrom_48 : decode cX1_takeFrom 48 = .ok (.putfield 44, 3) := by decide +kernel
theorem dX1_takeFrom_51 : decode cX1_takeFrom 51 = .ok (.iload_n 3, 1) := by decide +kernel
theorem dX1_takeFrom_52 : decode cX1_takeFrom 52 = .ok (.ireturn, 1) := by decide +kernel
theorem dX1_use_0 : decode cX1_use 0 = .ok (.aload_n 0, 1) := by decide +kernel
theorem dX1_use_1 : decode cX1_use 1 = .ok (.getfield 31, 3) := by decide +kernel
theorem dX1_use_4 : decode cX1_use 4 = .ok (.iload_n 1, 1) := by decide +kernel
theorem dX1_use_5 : decode cX1_use 5 = .ok (.if_icmp .ge 21, 3) := by decide +kernel
theorem dX1_use_8 : decode cX1_use 8 = .ok (.aload_n 0, 1) := by decide +kernel
theorem dX1_use_9 : decode cX1_use 9 = .ok (.iconst 0, 1) := by decide +kernel
theorem dX1_use_10 : decode cX1_use 10 = .ok (.putfield 31, 3) := by decide +kernel
theorem dX1_use_13 : decode cX1_use 13 = .ok (.aload_n 0, 1) := by decide +kernel
theorem dX1_use_14 : decode cX1_use 14 = .ok (.dup, 1) := by decide +kernel
theorem dX1_use_15 : decode cX1_use 15 = .ok (.getfield 49, 3) := by decide +kernel
theorem dX1_use_18 : decode cX1_use 18 = .ok (.iconst 1, 1) := by decide +kernel
theorem dX1_use_19 : decode cX1_use 19 = .ok (.iadd, 1) := by decide +kernel
theorem dX1_use_20 : decode cX1_use 20 = .ok (.putfield 49, 3) := by decide +kernel
theorem dX1_use_23 : decode cX1_use 23 = .ok (.goto 13, 3) := by decide +kernel
theorem dX1_use_26 : decode cX1_use 26 = .ok (.aload_n 0, 1) := by decide +kernel
theorem dX1_use_27 : decode cX1_use 27 = .ok (.dup, 1) := by decide +kernel
theorem dX1_use_28 : decode cX1_use 28 = .ok (.getfield 31, 3) := by decide +kernel
theorem dX1_use_31 : decode cX1_use 31 = .ok (.iload_n 1, 1) := by decide +kernel
theorem dX1_use_32 : decode cX1_use 32 = .ok (.isub, 1) := by decide +kernel
theorem dX1_use_33 : decode cX1_use 33 = .ok (.putfield 31, 3) := by decide +kernel
theorem dX1_use_36 : decode cX1_use 36 = .ok (.return_, 1) := by decide +kernel
theorem dX2_init_0 : decode cX2_init 0 = .ok (.aload_n 0, 1) := by decide +kernel
theorem dX2_init_1 : decode cX2_init 1 = .ok (.invokespecial 3, 3) := by decide +kernel
theorem dX2_init_4 : decode cX2_init 4 = .ok (.aload_n 0, 1) := by decide +kernel
theorem dX2_init_5 : decode cX2_init 5 = .ok (.sipush 1024, 3) := by decide +kernel
theorem dX2_init_8 : decode cX2_init 8 = .ok (.newarray .int, 2) := by decide +kernel
theorem dX2_init_10 : decode cX2_init 10 = .ok (.putfield 9, 3) := by decide +kernel
theorem dX2_init_13 : decode cX2_init 13 = .ok (.aload_n 0, 1) := by decide +kernel
theorem dX2_init_14 : decode cX2_init 14 = .ok (.sipush 1024, 3) := by decide +kernel
theorem dX2_init_17 : decode cX2_init 17 = .ok (.newarray .int, 2) := by decide +kernel
theorem dX2_init_19 : decode cX2_init 19 = .ok (.putfield 15, 3) := by decide +kernel
theorem dX2_init_22 : decode cX2_init 22 = .ok (.return_, 1) := by decide +kernel
theorem dX2_tell_0 : decode cX2_tell 0 = .ok (.aload_n 0, 1) := by decide +kernel
theorem dX2_tell_1 : decode cX2_tell 1 = .ok (.getfield 9, 3) := by decide +kernel
theorem dX2_tell_4 : decode cX2_tell 4 = .ok (.iconst 1, 1) := by decide +kernel
theorem dX2_tell_5 : decode cX2_tell 5 = .ok (.iload_n 1, 1) := by decide +kernel
theorem dX2_tell_6 : decode cX2_tell 6 = .ok (.ishl, 1) := by decide +kernel
theorem dX2_tell_7 : decode cX2_tell 7 = .ok (.iload_n 2, 1) := by decide +kernel
theorem dX2_tell_8 : decode cX2_tell 8 = .ok (.iastore, 1) := by decide +kernel
theorem dX2_tell_9 : decode cX2_tell 9 = .ok (.aload_n 0, 1) := by decide +kernel
theorem dX2_tell_10 : decode cX2_tell 10 = .ok (.getfield 15, 3) := by decide +kernel
theorem dX2_tell_13 : decode cX2_tell 13 = .ok (.iconst 1, 1) := by decide +kernel
theorem dX2_tell_14 : decode cX2_tell 14 = .ok (.iload_n 1, 1) := by decide +kernel
theorem dX2_tell_15 : decode cX2_tell 15 = .ok (.ishl, 1) := by decide +kernel
theorem dX2_tell_16 : decode cX2_tell 16 = .ok (.iload_n 3, 1) := by decide +kernel
theorem dX2_tell_17 : decode cX2_tell 17 = .ok (.iastore, 1) := by decide +kernel
theorem dX2_tell_18 : decode cX2_tell 18 = .ok (.return_, 1) := by decide +kernel
theorem dX2_worthOf_0 : decode cX2_worthOf 0 = .ok (.aload_n 0, 1) := by decide +kernel
theorem dX2_worthOf_1 : decode cX2_worthOf 1 = .ok (.getfield 15, 3) := by decide +kernel
theorem dX2_worthOf_4 : decode cX2_worthOf 4 = .ok (.iload_n 1, 1) := by decide +kernel
theorem dX2_worthOf_5 : decode cX2_worthOf 5 = .ok (.iaload, 1) := by decide +kernel
theorem dX2_worthOf_6 : decode cX2_worthOf 6 = .ok (.ireturn, 1) := by decide +kernel
theorem dX2_bestSet_0 : decode cX2_bestSet 0 = .ok (.iconst 0, 1) := by decide +kernel
theorem dX2_bestSet_1 : decode cX2_bestSet 1 = .ok (.istore_n 3, 1) := by decide +kernel
theorem dX2_bestSet_2 : decode cX2_bestSet 2 = .ok (.iconst 1, 1) := by decide +kernel
theorem dX2_bestSet_3 : decode cX2_bestSet 3 = .ok (.istore 4, 2) := by decide +kernel
theorem dX2_bestSet_5 : decode cX2_bestSet 5 = .ok (.iload 4, 2) := by decide +kernel
theorem dX2_bestSet_7 : decode cX2_bestSet 7 = .ok (.iconst 1, 1) := by decide +kernel
theorem dX2_bestSet_8 : decode cX2_bestSet 8 = .ok (.iload_n 1, 1) := by decide +kernel
theorem dX2_bestSet_9 : decode cX2_bestSet 9 = .ok (.ishl, 1) := by decide +kernel
theorem dX2_bestSet_10 : decode cX2_bestSet 10 = .ok (.if_icmp .ge 98, 3) := by decide +kernel
theorem dX2_bestSet_13 : decode cX2_bestSet 13 = .ok (.iload 4, 2) := by decide +kernel
theorem dX2_bestSet_15 : decode cX2_bestSet 15 = .ok (.iload 4, 2) := by decide +kernel
theorem dX2_bestSet_17 : decode cX2_bestSet 17 = .ok (.ineg, 1) := by decide +kernel
theorem dX2_bestSet_18 : decode cX2_bestSet 18 = .ok (.iand, 1) := by decide +kernel
theorem dX2_bestSet_19 : decode cX2_bestSet 19 = .ok (.istore 5, 2) := by decide +kernel
theorem dX2_bestSet_21 : decode cX2_bestSet 21 = .ok (.iload 4, 2) := by decide +kernel
theorem dX2_bestSet_23 : decode cX2_bestSet 23 = .ok (.iload 5, 2) := by decide +kernel
theorem dX2_bestSet_25 : decode cX2_bestSet 25 = .ok (.if_icmp .eq 53, 3) := by decide +kernel
theorem dX2_bestSet_28 : decode cX2_bestSet 28 = .ok (.aload_n 0, 1) := by decide +kernel
theorem dX2_bestSet_29 : decode cX2_bestSet 29 = .ok (.getfield 9, 3) := by decide +kernel
theorem dX2_bestSet_32 : decode cX2_bestSet 32 = .ok (.iload 4, 2) := by decide +kernel
theorem dX2_bestSet_34 : decode cX2_bestSet 34 = .ok (.aload_n 0, 1) := by decide +kernel
theorem dX2_bestSet_35 : decode cX2_bestSet 35 = .ok (.getfield 9, 3) := by decide +kernel
theorem dX2_bestSet_38 : decode cX2_bestSet 38 = .ok (.iload 4, 2) := by decide +kernel
theorem dX2_bestSet_40 : decode cX2_bestSet 40 = .ok (.iload 5, 2) := by decide +kernel
theorem dX2_bestSet_42 : decode cX2_bestSet 42 = .ok (.isub, 1) := by decide +kernel
theorem dX2_bestSet_43 : decode cX2_bestSet 43 = .ok (.iaload, 1) := by decide +kernel
theorem dX2_bestSet_44 : decode cX2_bestSet 44 = .ok (.aload_n 0, 1) := by decide +kernel
theorem dX2_bestSet_45 : decode cX2_bestSet 45 = .ok (.getfield 9, 3) := by decide +kernel
theorem dX2_bestSet_48 : decode cX2_bestSet 48 = .ok (.iload 5, 2) := by decide +kernel
theorem dX2_bestSet_50 : decode cX2_bestSet 50 = .ok (.iaload, 1) := by decide +kernel
theorem dX2_bestSet_51 : decode cX2_bestSet 51 = .ok (.iadd, 1) := by decide +kernel
theorem dX2_bestSet_52 : decode cX2_bestSet 52 = .ok (.iastore, 1) := by decide +kernel
theorem dX2_bestSet_53 : decode cX2_bestSet 53 = .ok (.aload_n 0, 1) := by decide +kernel
theorem dX2_bestSet_54 : decode cX2_bestSet 54 = .ok (.getfield 15, 3) := by decide +kernel
theorem dX2_bestSet_57 : decode cX2_bestSet 57 = .ok (.iload 4, 2) := by decide +kernel
theorem dX2_bestSet_59 : decode cX2_bestSet 59 = .ok (.aload_n 0, 1) := by decide +kernel
theorem dX2_bestSet_60 : decode cX2_bestSet 60 = .ok (.getfield 15, 3) := by decide +kernel
theorem dX2_bestSet_63 : decode cX2_bestSet 63 = .ok (.iload 4, 2) := by decide +kernel
theorem dX2_bestSet_65 : decode cX2_bestSet 65 = .ok (.iload 5, 2) := by decide +kernel
theorem dX2_bestSet_67 : decode cX2_bestSet 67 = .ok (.isub, 1) := by decide +kernel
theorem dX2_bestSet_68 : decode cX2_bestSet 68 = .ok (.iaload, 1) := by decide +kernel
theorem dX2_bestSet_69 : decode cX2_bestSet 69 = .ok (.aload_n 0, 1) := by decide +kernel
theorem dX2_bestSet_70 : decode cX2_bestSet 70 = .ok (.getfield 15, 3) := by decide +kernel
theorem dX2_bestSet_73 : decode cX2_bestSet 73 = .ok (.iload 5, 2) := by decide +kernel
theorem dX2_bestSet_75 : decode cX2_bestSet 75 = .ok (.iaload, 1) := by decide +kernel
theorem dX2_bestSet_76 : decode cX2_bestSet 76 = .ok (.iadd, 1) := by decide +kernel
theorem dX2_bestSet_77 : decode cX2_bestSet 77 = .ok (.iastore, 1) := by decide +kernel
theorem dX2_bestSet_78 : decode cX2_bestSet 78 = .ok (.aload_n 0, 1) := by decide +kernel
theorem dX2_bestSet_79 : decode cX2_bestSet 79 = .ok (.getfield 9, 3) := by decide +kernel
theorem dX2_bestSet_82 : decode cX2_bestSet 82 = .ok (.iload 4, 2) := by decide +kernel
theorem dX2_bestSet_84 : decode cX2_bestSet 84 = .ok (.iaload, 1) := by decide +kernel
theorem dX2_bestSet_85 : decode cX2_bestSet 85 = .ok (.iload_n 2, 1) := by decide +kernel
theorem dX2_bestSet_86 : decode cX2_bestSet 86 = .ok (.if_icmp .gt 16, 3) := by decide +kernel
theorem dX2_bestSet_89 : decode cX2_bestSet 89 = .ok (.aload_n 0, 1) := by decide +kernel
theorem dX2_bestSet_90 : decode cX2_bestSet 90 = .ok (.iload 4, 2) := by decide +kernel
theorem dX2_bestSet_92 : decode cX2_bestSet 92 = .ok (.iload_n 3, 1) := by decide +kernel
theorem dX2_bestSet_93 : decode cX2_bestSet 93 = .ok (.invokevirtual 18, 3) := by decide +kernel
theorem dX2_bestSet_96 : decode cX2_bestSet 96 = .ok (.ifCond .eq 6, 3) := by decide +kernel
theorem dX2_bestSet_99 : decode cX2_bestSet 99 = .ok (.iload 4, 2) := by decide +kernel
theorem dX2_bestSet_101 : decode cX2_bestSet 101 = .ok (.istore_n 3, 1) := by decide +kernel
theorem dX2_bestSet_102 : decode cX2_bestSet 102 = .ok (.iinc 4 1, 3) := by decide +kernel
theorem dX2_bestSet_105 : decode cX2_bestSet 105 = .ok (.goto (-100), 3) := by decide +kernel
theorem dX2_bestSet_108 : decode cX2_bestSet 108 = .ok (.iload_n 3, 1) := by decide +kernel
theorem dX2_bestSet_109 : decode cX2_bestSet 109 = .ok (.ireturn, 1) := by decide +kernel
theorem dX2_isBetter_0 : decode cX2_isBetter 0 = .ok (.aload_n 0, 1) := by decide +kernel
theorem dX2_isBetter_1 : decode cX2_isBetter 1 = .ok (.getfield 15, 3) := by decide +kernel
theorem dX2_isBetter_4 : decode cX2_isBetter 4 = .ok (.iload_n 1, 1) := by decide +kernel
theorem dX2_isBetter_5 : decode cX2_isBetter 5 = .ok (.iaload, 1) := by decide +kernel
theorem dX2_isBetter_6 : decode cX2_isBetter 6 = .ok (.aload_n 0, 1) := by decide +kernel
theorem dX2_isBetter_7 : decode cX2_isBetter 7 = .ok (.getfield 15, 3) := by decide +kernel
theorem dX2_isBetter_10 : decode cX2_isBetter 10 = .ok (.iload_n 2, 1) := by decide +kernel
theorem dX2_isBetter_11 : decode cX2_isBetter 11 = .ok (.iaload, 1) := by decide +kernel
theorem dX2_isBetter_12 : decode cX2_isBetter 12 = .ok (.if_icmp .eq 24, 3) := by decide +kernel
theorem dX2_isBetter_15 : decode cX2_isBetter 15 = .ok (.aload_n 0, 1) := by decide +kernel
theorem dX2_isBetter_16 : decode cX2_isBetter 16 = .ok (.getfield 15, 3) := by decide +kernel
theorem dX2_isBetter_19 : decode cX2_isBetter 19 = .ok (.iload_n 1, 1) := by decide +kernel
theorem dX2_isBetter_20 : decode cX2_isBetter 20 = .ok (.iaload, 1) := by decide +kernel
theorem dX2_isBetter_21 : decode cX2_isBetter 21 = .ok (.aload_n 0, 1) := by decide +kernel
theorem dX2_isBetter_22 : decode cX2_isBetter 22 = .ok (.getfield 15, 3) := by decide +kernel
theorem dX2_isBetter_25 : decode cX2_isBetter 25 = .ok (.iload_n 2, 1) := by decide +kernel
theorem dX2_isBetter_26 : decode cX2_isBetter 26 = .ok (.iaload, 1) := by decide +kernel
theorem dX2_isBetter_27 : decode cX2_isBetter 27 = .ok (.if_icmp .le 7, 3) := by decide +kernel
theorem dX2_isBetter_30 : decode cX2_isBetter 30 = .ok (.iconst 1, 1) := by decide +kernel
theorem dX2_isBetter_31 : decode cX2_isBetter 31 = .ok (.goto 4, 3) := by decide +kernel
theorem dX2_isBetter_34 : decode cX2_isBetter 34 = .ok (.iconst 0, 1) := by decide +kernel
theorem dX2_isBetter_35 : decode cX2_isBetter 35 = .ok (.ireturn, 1) := by decide +kernel
theorem dX2_isBetter_36 : decode cX2_isBetter 36 = .ok (.iload_n 1, 1) := by decide +kernel
theorem dX2_isBetter_37 : decode cX2_isBetter 37 = .ok (.invokestatic 22, 3) := by decide +kernel
theorem dX2_isBetter_40 : decode cX2_isBetter 40 = .ok (.iload_n 2, 1) := by decide +kernel
theorem dX2_isBetter_41 : decode cX2_isBetter 41 = .ok (.invokestatic 22, 3) := by decide +kernel
theorem dX2_isBetter_44 : decode cX2_isBetter 44 = .ok (.if_icmp .ge 7, 3) := by decide +kernel
theorem dX2_isBetter_47 : decode cX2_isBetter 47 = .ok (.iconst 1, 1) := by decide +kernel
theorem dX2_isBetter_48 : decode cX2_isBetter 48 = .ok (.goto 4, 3) := by decide +kernel
theorem dX2_isBetter_51 : decode cX2_isBetter 51 = .ok (.iconst 0, 1) := by decide +kernel
theorem dX2_isBetter_52 : decode cX2_isBetter 52 = .ok (.ireturn, 1) := by decide +kernel
theorem dX3_init_0 : decode cX3_init 0 = .ok (.aload_n 0, 1) := by decide +kernel
theorem dX3_init_1 : decode cX3_init 1 = .ok (.invokespecial 1, 3) := by decide +kernel
theorem dX3_init_4 : decode cX3_init 4 = .ok (.aload_n 0, 1) := by decide +kernel
theorem dX3_init_5 : decode cX3_init 5 = .ok (.iload_n 1, 1) := by decide +kernel
theorem dX3_init_6 : decode cX3_init 6 = .ok (.putfield 7, 3) := by decide +kernel
theorem dX3_init_9 : decode cX3_init 9 = .ok (.aload_n 0, 1) := by decide +kernel
theorem dX3_init_10 : decode cX3_init 10 = .ok (.iload_n 2, 1) := by decide +kernel
theorem dX3_init_11 : decode cX3_init 11 = .ok (.putfield 13, 3) := by decide +kernel
theorem dX3_init_14 : decode cX3_init 14 = .ok (.aload_n 0, 1) := by decide +kernel
theorem dX3_init_15 : decode cX3_init 15 = .ok (.iload_n 3, 1) := by decide +kernel
theorem dX3_init_16 : decode cX3_init 16 = .ok (.putfield 16, 3) := by decide +kernel
theorem dX3_init_19 : decode cX3_init 19 = .ok (.aload_n 0, 1) := by decide +kernel
theorem dX3_init_20 : decode cX3_init 20 = .ok (.iload 4, 2) := by decide +kernel
theorem dX3_init_22 : decode cX3_init 22 = .ok (.putfield 19, 3) := by decide +kernel
theorem dX3_init_25 : decode cX3_init 25 = .ok (.return_, 1) := by decide +kernel
theorem dX3_rateFor_0 : decode cX3_rateFor 0 = .ok (.aload_n 0, 1) := by decide +kernel
theorem dX3_rateFor_1 : decode cX3_rateFor 1 = .ok (.getfield 7, 3) := by decide +kernel
theorem dX3_rateFor_4 : decode cX3_rateFor 4 = .ok (.aload_n 0, 1) := by decide +kernel
theorem dX3_rateFor_5 : decode cX3_rateFor 5 = .ok (.getfield 13, 3) := by decide +kernel
theorem dX3_rateFor_8 : decode cX3_rateFor 8 = .ok (.aload_n 1, 1) := by decide +kernel
theorem dX3_rateFor_9 : decode cX3_rateFor 9 = .ok (.getfield 22, 3) := by decide +kernel
theorem dX3_rateFor_12 : decode cX3_rateFor 12 = .ok (.imul, 1) := by decide +kernel
theorem dX3_rateFor_13 : decode cX3_rateFor 13 = .ok (.iadd, 1) := by decide +kernel
theorem dX3_rateFor_14 : decode cX3_rateFor 14 = .ok (.aload_n 0, 1) := by decide +kernel
theorem dX3_rateFor_15 : decode cX3_rateFor 15 = .ok (.getfield 16, 3) := by decide +kernel
theorem dX3_rateFor_18 : decode cX3_rateFor 18 = .ok (.aload_n 1, 1) := by decide +kernel
theorem dX3_rateFor_19 : decode cX3_rateFor 19 = .ok (.getfield 27, 3) := by decide +kernel
theorem dX3_rateFor_22 : decode cX3_rateFor 22 = .ok (.bipush 10, 2) := by decide +kernel
theorem dX3_rateFor_24 : decode cX3_rateFor 24 = .ok (.idiv, 1) := by decide +kernel
theorem dX3_rateFor_25 : decode cX3_rateFor 25 = .ok (.imul, 1) := by decide +kernel
theorem dX3_rateFor_26 : decode cX3_rateFor 26 = .ok (.iadd, 1) := by decide +kernel
theorem dX3_rateFor_27 : decode cX3_rateFor 27 = .ok (.ireturn, 1) := by decide +kernel
theorem dX4_init_0 : decode cX4_init 0 = .ok (.aload_n 0, 1) := by decide +kernel
theorem dX4_init_1 : decode cX4_init 1 = .ok (.invokespecial 3, 3) := by decide +kernel
theorem dX4_init_4 : decode cX4_init 4 = .ok (.aload_n 0, 1) := by decide +kernel
theorem dX4_init_5 : decode cX4_init 5 = .ok (.bipush 24, 2) := by decide +kernel
theorem dX4_init_7 : decode cX4_init 7 = .ok (.newarray .int, 2) := by decide +kernel
theorem dX4_init_9 : decode cX4_init 9 = .ok (.putfield 9, 3) := by decide +kernel
theorem dX4_init_12 : decode cX4_init 12 = .ok (.aload_n 0, 1) := by decide +kernel
theorem dX4_init_13 : decode cX4_init 13 = .ok (.iconst (-1), 1) := by decide +kernel
theorem dX4_init_14 : decode cX4_init 14 = .ok (.putfield 15, 3) := by decide +kernel
theorem dX4_init_17 : decode cX4_init 17 = .ok (.return_, 1) := by decide +kernel
theorem dX4_isMissing_0 : decode cX4_isMissing 0 = .ok (.aload_n 0, 1) := by decide +kernel
theorem dX4_isMissing_1 : decode cX4_isMissing 1 = .ok (.getfield 15, 3) := by decide +kernel
theorem dX4_isMissing_4 : decode cX4_isMissing 4 = .ok (.ifCond .ge 7, 3) := by decide +kernel
theorem dX4_isMissing_7 : decode cX4_isMissing 7 = .ok (.iconst 1, 1) := by decide +kernel
theorem dX4_isMissing_8 : decode cX4_isMissing 8 = .ok (.goto 4, 3) := by decide +kernel
theorem dX4_isMissing_11 : decode cX4_isMissing 11 = .ok (.iconst 0, 1) := by decide +kernel
theorem dX4_isMissing_12 : decode cX4_isMissing 12 = .ok (.ireturn, 1) := by decide +kernel
theorem dX4_forget_0 : decode cX4_forget 0 = .ok (.aload_n 0, 1) := by decide +kernel
theorem dX4_forget_1 : decode cX4_forget 1 = .ok (.iconst (-1), 1) := by decide +kernel
theorem dX4_forget_2 : decode cX4_forget 2 = .ok (.putfield 15, 3) := by decide +kernel
theorem dX4_forget_5 : decode cX4_forget 5 = .ok (.return_, 1) := by decide +kernel
theorem dX4_makeAnew_0 : decode cX4_makeAnew 0 = .ok (.aload_n 0, 1) := by decide +kernel
theorem dX4_makeAnew_1 : decode cX4_makeAnew 1 = .ok (.getfield 9, 3) := by decide +kernel
theorem dX4_makeAnew_4 : decode cX4_makeAnew 4 = .ok (.iconst 0, 1) := by decide +kernel
theorem dX4_makeAnew_5 : decode cX4_makeAnew 5 = .ok (.invokestatic 19, 3) := by decide +kernel
theorem dX4_makeAnew_8 : decode cX4_makeAnew 8 = .ok (.aload_n 0, 1) := by decide +kernel
theorem dX4_makeAnew_9 : decode cX4_makeAnew 9 = .ok (.iload_n 1, 1) := by decide +kernel
theorem dX4_makeAnew_10 : decode cX4_makeAnew 10 = .ok (.putfield 15, 3) := by decide +kernel
theorem dX4_makeAnew_13 : decode cX4_makeAnew 13 = .ok (.return_, 1) := by decide +kernel
theorem dX4_hasPlaces_0 : decode cX4_hasPlaces 0 = .ok (.iload_n 1, 1) := by decide +kernel
theorem dX4_hasPlaces_1 : decode cX4_hasPlaces 1 = .ok (.ifCond .lt 21, 3) := by decide +kernel
theorem dX4_hasPlaces_4 : decode cX4_hasPlaces 4 = .ok (.iload_n 2, 1) := by decide +kernel
theorem dX4_hasPlaces_5 : decode cX4_hasPlaces 5 = .ok (.ifCond .lt 17, 3) := by decide +kernel
theorem dX4_hasPlaces_8 : decode cX4_hasPlaces 8 = .ok (.iload_n 2, 1) := by decide +kernel
theorem dX4_hasPlaces_9 : decode cX4_hasPlaces 9 = .ok (.aload_n 0, 1) := by decide +kernel
theorem dX4_hasPlaces_10 : decode cX4_hasPlaces 10 = .ok (.getfield 15, 3) := by decide +kernel
theorem dX4_hasPlaces_13 : decode cX4_hasPlaces 13 = .ok (.iload_n 1, 1) := by decide +kernel
theorem dX4_hasPlaces_14 : decode cX4_hasPlaces 14 = .ok (.isub, 1) := by decide +kernel
theorem dX4_hasPlaces_15 : decode cX4_hasPlaces 15 = .ok (.if_icmp .gt 7, 3) := by decide +kernel
theorem dX4_hasPlaces_18 : decode cX4_hasPlaces 18 = .ok (.iconst 1, 1) := by decide +kernel
theorem dX4_hasPlaces_19 : decode cX4_hasPlaces 19 = .ok (.goto 4, 3) := by decide +kernel
theorem dX4_hasPlaces_22 : decode cX4_hasPlaces 22 = .ok (.iconst 0, 1) := by decide +kernel
theorem dX4_hasPlaces_23 : decode cX4_hasPlaces 23 = .ok (.ireturn, 1) := by decide +kernel
theorem dX5_init_0 : decode cX5_init 0 = .ok (.aload_n 0, 1) := by decide +kernel
theorem dX5_init_1 : decode cX5_init 1 = .ok (.invokespecial 3, 3) := by decide +kernel
theorem dX5_init_4 : decode cX5_init 4 = .ok (.aload_n 0, 1) := by decide +kernel
theorem dX5_init_5 : decode cX5_init 5 = .ok (.iconst 0, 1) := by decide +kernel
theorem dX5_init_6 : decode cX5_init 6 = .ok (.putfield 9, 3) := by decide +kernel
theorem dX5_init_9 : decode cX5_init 9 = .ok (.aload_n 0, 1) := by decide +kernel
theorem dX5_init_10 : decode cX5_init 10 = .ok (.iconst 0, 1) := by decide +kernel
theorem dX5_init_11 : decode cX5_init 11 = .ok (.putfield 15, 3) := by decide +kernel
theorem dX5_init_14 : decode cX5_init 14 = .ok (.aload_n 0, 1) := by decide +kernel
theorem dX5_init_15 : decode cX5_init 15 = .ok (.sipush 5000, 3) := by decide +kernel
theorem dX5_init_18 : decode cX5_init 18 = .ok (.putfield 18, 3) := by decide +kernel
theorem dX5_init_21 : decode cX5_init 21 = .ok (.aload_n 0, 1) := by decide +kernel
theorem dX5_init_22 : decode cX5_init 22 = .ok (.iload_n 1, 1) := by decide +kernel
theorem dX5_init_23 : decode cX5_init 23 = .ok (.putfield 21, 3) := by decide +kernel
theorem dX5_init_26 : decode cX5_init 26 = .ok (.aload_n 0, 1) := by decide +kernel
theorem dX5_init_27 : decode cX5_init 27 = .ok (.iload_n 2, 1) := by decide +kernel
theorem dX5_init_28 : decode cX5_init 28 = .ok (.putfield 24, 3) := by decide +kernel
theorem dX5_init_31 : decode cX5_init 31 = .ok (.aload_n 0, 1) := by decide +kernel
theorem dX5_init_32 : decode cX5_init 32 = .ok (.iload_n 3, 1) := by decide +kernel
theorem dX5_init_33 : decode cX5_init 33 = .ok (.putfield 27, 3) := by decide +kernel
theorem dX5_init_36 : decode cX5_init 36 = .ok (.return_, 1) := by decide +kernel
theorem dX5_dripIn_0 : decode cX5_dripIn 0 = .ok (.aload_n 0, 1) := by decide +kernel
theorem dX5_dripIn_1 : decode cX5_dripIn 1 = .ok (.getfield 30, 3) := by decide +kernel
theorem dX5_dripIn_4 : decode cX5_dripIn 4 = .ok (.ifCond .eq 7, 3) := by decide +kernel
theorem dX5_dripIn_7 : decode cX5_dripIn 7 = .ok (.iconst 0, 1) := by decide +kernel
theorem dX5_dripIn_8 : decode cX5_dripIn 8 = .ok (.goto 21, 3) := by decide +kernel
theorem dX5_dripIn_11 : decode cX5_dripIn 11 = .ok (.aload_n 0, 1) := by decide +kernel
theorem dX5_dripIn_12 : decode cX5_dripIn 12 = .ok (.getfield 24, 3) := by decide +kernel
theorem dX5_dripIn_15 : decode cX5_dripIn 15 = .ok (.iconst 1, 1) := by decide +kernel
theorem dX5_dripIn_16 : decode cX5_dripIn 16 = .ok (.iload_n 1, 1) := by decide +kernel
theorem dX5_dripIn_17 : decode cX5_dripIn 17 = .ok (.aload_n 0, 1) := by decide +kernel
theorem dX5_dripIn_18 : decode cX5_dripIn 18 = .ok (.getfield 27, 3) := by decide +kernel
theorem dX5_dripIn_21 : decode cX5_dripIn 21 = .ok (.isub, 1) := by decide +kernel
theorem dX5_dripIn_22 : decode cX5_dripIn 22 = .ok (.iconst 4, 1) := by decide +kernel
theorem dX5_dripIn_23 : decode cX5_dripIn 23 = .ok (.idiv, 1) := by decide +kernel
theorem dX5_dripIn_24 : decode cX5_dripIn 24 = .ok (.iadd, 1) := by decide +kernel
theorem dX5_dripIn_25 : decode cX5_dripIn 25 = .ok (.imul, 1) := by decide +kernel
theorem dX5_dripIn_26 : decode cX5_dripIn 26 = .ok (.bipush 10, 2) := by decide +kernel
theorem dX5_dripIn_28 : decode cX5_dripIn 28 = .ok (.idiv, 1) := by decide +kernel
theorem dX5_dripIn_29 : decode cX5_dripIn 29 = .ok (.ireturn, 1) := by decide +kernel
theorem dX5_layAnew_0 : decode cX5_layAnew 0 = .ok (.iload_n 1, 1) := by decide +kernel
theorem dX5_layAnew_1 : decode cX5_layAnew 1 = .ok (.aload_n 0, 1) := by decide +kernel
theorem dX5_layAnew_2 : decode cX5_layAnew 2 = .ok (.getfield 27, 3) := by decide +kernel
theorem dX5_layAnew_5 : decode cX5_layAnew 5 = .ok (.isub, 1) := by decide +kernel
theorem dX5_layAnew_6 : decode cX5_layAnew 6 = .ok (.istore_n 2, 1) := by decide +kernel
theorem dX5_layAnew_7 : decode cX5_layAnew 7 = .ok (.aload_n 0, 1) := by decide +kernel
theorem dX5_layAnew_8 : decode cX5_layAnew 8 = .ok (.iload_n 1, 1) := by decide +kernel
theorem dX5_layAnew_9 : decode cX5_layAnew 9 = .ok (.putfield 27, 3) := by decide +kernel
theorem dX5_layAnew_12 : decode cX5_layAnew 12 = .ok (.iload_n 2, 1) := by decide +kernel
theorem dX5_layAnew_13 : decode cX5_layAnew 13 = .ok (.ireturn, 1) := by decide +kernel
theorem dX5_setAtEnd_0 : decode cX5_setAtEnd 0 = .ok (.aload_n 0, 1) := by decide +kernel
theorem dX5_setAtEnd_1 : decode cX5_setAtEnd 1 = .ok (.iload_n 1, 1) := by decide +kernel
theorem dX5_setAtEnd_2 : decode cX5_setAtEnd 2 = .ok (.putfield 9, 3) := by decide +kernel
theorem dX5_setAtEnd_5 : decode cX5_setAtEnd 5 = .ok (.aload_n 0, 1) := by decide +kernel
theorem dX5_setAtEnd_6 : decode cX5_setAtEnd 6 = .ok (.iload_n 2, 1) := by decide +kernel
theorem dX5_setAtEnd_7 : decode cX5_setAtEnd 7 = .ok (.putfield 34, 3) := by decide +kernel
theorem dX5_setAtEnd_10 : decode cX5_setAtEnd 10 = .ok (.aload_n 0, 1) := by decide +kernel
theorem dX5_setAtEnd_11 : decode cX5_setAtEnd 11 = .ok (.iconst 0, 1) := by decide +kernel
theorem dX5_setAtEnd_12 : decode cX5_setAtEnd 12 = .ok (.putfield 37, 3) := by decide +kernel
theorem dX5_setAtEnd_15 : decode cX5_setAtEnd 15 = .ok (.aload_n 0, 1) := by decide +kernel
theorem dX5_setAtEnd_16 : decode cX5_setAtEnd 16 = .ok (.iconst 0, 1) := by decide +kernel
theorem dX5_setAtEnd_17 : decode cX5_setAtEnd 17 = .ok (.putfield 40, 3) := by decide +kernel
theorem dX5_setAtEnd_20 : decode cX5_setAtEnd 20 = .ok (.return_, 1) := by decide +kernel
theorem dX5_hemIn_0 : decode cX5_hemIn 0 = .ok (.aload_n 0, 1) := by decide +kernel
theorem dX5_hemIn_1 : decode cX5_hemIn 1 = .ok (.aload_n 0, 1) := by decide +kernel
theorem dX5_hemIn_2 : decode cX5_hemIn 2 = .ok (.getfield 15, 3) := by decide +kernel
theorem dX5_hemIn_5 : decode cX5_hemIn 5 = .ok (.iload_n 1, 1) := by decide +kernel
theorem dX5_hemIn_6 : decode cX5_hemIn 6 = .ok (.invokestatic 43, 3) := by decide +kernel
theorem dX5_hemIn_9 : decode cX5_hemIn 9 = .ok (.putfield 15, 3) := by decide +kernel
theorem dX5_hemIn_12 : decode cX5_hemIn 12 = .ok (.aload_n 0, 1) := by decide +kernel
theorem dX5_hemIn_13 : decode cX5_hemIn 13 = .ok (.aload_n 0, 1) := by decide +kernel
theorem dX5_hemIn_14 : decode cX5_hemIn 14 = .ok (.getfield 18, 3) := by decide +kernel
theorem dX5_hemIn_17 : decode cX5_hemIn 17 = .ok (.iload_n 2, 1) := by decide +kernel
theorem dX5_hemIn_18 : decode cX5_hemIn 18 = .ok (.invokestatic 49, 3) := by decide +kernel
theorem dX5_hemIn_21 : decode cX5_hemIn 21 = .ok (.putfield 18, 3) := by decide +kernel
theorem dX5_hemIn_24 : decode cX5_hemIn 24 = .ok (.return_, 1) := by decide +kernel
theorem dX5_admit_0 : decode cX5_admit 0 = .ok (.aconst_null, 1) := by decide +kernel
theorem dX5_admit_1 : decode cX5_admit 1 = .ok (.astore_n 2, 1) := by decide +kernel
theorem dX5_admit_2 : decode cX5_admit 2 = .ok (.aload_n 0, 1) := by decide +kernel
theorem dX5_admit_3 : decode cX5_admit 3 = .ok (.getfield 52, 3) := by decide +kernel
theorem dX5_admit_6 : decode cX5_admit 6 = .ok (.astore_n 3, 1) := by decide +kernel
theorem dX5_admit_7 : decode cX5_admit 7 = .ok (.aload_n 3, 1) := by decide +kernel
theorem dX5_admit_8 : decode cX5_admit 8 = .ok (.ifnull 24, 3) := by decide +kernel
theorem dX5_admit_11 : decode cX5_admit 11 = .ok (.aload_n 3, 1) := by decide +kernel
theorem dX5_admit_12 : decode cX5_admit 12 = .ok (.getfield 56, 3) := by decide +kernel
theorem dX5_admit_15 : decode cX5_admit 15 = .ok (.aload_n 1, 1) := by decide +kernel
theorem dX5_admit_16 : decode cX5_admit 16 = .ok (.getfield 56, 3) := by decide +kernel
theorem dX5_admit_19 : decode cX5_admit 19 = .ok (.if_icmp .gt 13, 3) := by decide +kernel
theorem dX5_admit_22 : decode cX5_admit 22 = .ok (.aload_n 3, 1) := by decide +kernel
theorem dX5_admit_23 : decode cX5_admit 23 = .ok (.astore_n 2, 1) := by decide +kernel
theorem dX5_admit_24 : decode cX5_admit 24 = .ok (.aload_n 3, 1) := by decide +kernel
theorem dX5_admit_25 : decode cX5_admit 25 = .ok (.getfield 61, 3) := by decide +kernel
theorem dX5_admit_28 : decode cX5_admit 28 = .ok (.astore_n 3, 1) := by decide +kernel
theorem dX5_admit_29 : decode cX5_admit 29 = .ok (.goto (-22), 3) := by decide +kernel
theorem dX5_admit_32 : decode cX5_admit 32 = .ok (.aload_n 2, 1) := by decide +kernel
theorem dX5_admit_33 : decode cX5_admit 33 = .ok (.ifnonnull 19, 3) := by decide +kernel
theorem dX5_admit_36 : decode cX5_admit 36 = .ok (.aload_n 1, 1) := by decide +kernel
theorem dX5_admit_37 : decode cX5_admit 37 = .ok (.aload_n 0, 1) := by decide +kernel
theorem dX5_admit_38 : decode cX5_admit 38 = .ok (.getfield 52, 3) := by decide +kernel
theorem dX5_admit_41 : decode cX5_admit 41 = .ok (.putfield 61, 3) := by decide +kernel
theorem dX5_admit_44 : decode cX5_admit 44 = .ok (.aload_n 0, 1) := by decide +kernel
theorem dX5_admit_45 : decode cX5_admit 45 = .ok (.aload_n 1, 1) := by decide +kernel
theorem dX5_admit_46 : decode cX5_admit 46 = .ok (.putfield 52, 3) := by decide +kernel
theorem dX5_admit_49 : decode cX5_admit 49 = .ok (.goto 16, 3) := by decide +kernel
theorem dX5_admit_52 : decode cX5_admit 52 = .ok (.aload_n 1, 1) := by decide +kernel
theorem dX5_admit_53 : decode cX5_admit 53 = .ok (.aload_n 2, 1) := by decide +kernel
theorem dX5_admit_54 : decode cX5_admit 54 = .ok (.getfield 61, 3) := by decide +kernel
theorem dX5_admit_57 : decode cX5_admit 57 = .ok (.putfield 61, 3) := by decide +kernel
theorem dX5_admit_60 : decode cX5_admit 60 = .ok (.aload_n 2, 1) := by decide +kernel
theorem dX5_admit_61 : decode cX5_admit 61 = .ok (.aload_n 1, 1) := by decide +kernel
theorem dX5_admit_62 : decode cX5_admit 62 = .ok (.putfield 61, 3) := by decide +kernel
theorem dX5_admit_65 : decode cX5_admit 65 = .ok (.return_, 1) := by decide +kernel
theorem dX5_takeFrom_0 : decode cX5_takeFrom 0 = .ok (.iload_n 1, 1) := by decide +kernel
theorem dX5_takeFrom_1 : decode cX5_takeFrom 1 = .ok (.aload_n 0, 1) := by decide +kernel
theorem dX5_takeFrom_2 : decode cX5_takeFrom 2 = .ok (.iload_n 1, 1) := by decide +kernel
theorem dX5_takeFrom_3 : decode cX5_takeFrom 3 = .ok (.aload_n 2, 1) := by decide +kernel
theorem dX5_takeFrom_4 : decode cX5_takeFrom 4 = .ok (.invokevirtual 64, 3) := by decide +kernel
theorem dX5_takeFrom_7 : decode cX5_takeFrom 7 = .ok (.isub, 1) := by decide +kernel
theorem dX5_takeFrom_8 : decode cX5_takeFrom 8 = .ok (.istore_n 3, 1) := by decide +kernel
theorem dX5_takeFrom_9 : decode cX5_takeFrom 9 = .ok (.iload_n 3, 1) := by decide +kernel
theorem dX5_takeFrom_10 : decode cX5_takeFrom 10 = .ok (.aload_n 0, 1) := by decide +kernel
theorem dX5_takeFrom_11 : decode cX5_takeFrom 11 = .ok (.iload_n 3, 1) := by decide +kernel
theorem dX5_takeFrom_12 : decode cX5_takeFrom 12 = .ok (.aload_n 2, 1) := by decide +kernel
theorem dX5_takeFrom_13 : decode cX5_takeFrom 13 = .ok (.invokevirtual 68, 3) := by decide +kernel
theorem dX5_takeFrom_16 : decode cX5_takeFrom 16 = .ok (.isub, 1) := by decide +kernel
theorem dX5_takeFrom_17 : decode cX5_takeFrom 17 = .ok (.istore_n 3, 1) := by decide +kernel
theorem dX5_takeFrom_18 : decode cX5_takeFrom 18 = .ok (.aload_n 0, 1) := by decide +kernel
theorem dX5_takeFrom_19 : decode cX5_takeFrom 19 = .ok (.getfield 52, 3) := by decide +kernel
theorem dX5_takeFrom_22 : decode cX5_takeFrom 22 = .ok (.astore 4, 2) := by decide +kernel
theorem dX5_takeFrom_24 : decode cX5_takeFrom 24 = .ok (.aload 4, 2) := by decide +kernel
theorem dX5_takeFrom_26 : decode cX5_takeFrom 26 = .ok (.ifnull 23, 3) := by decide +kernel
theorem dX5_takeFrom_29 : decode cX5_takeFrom 29 = .ok (.iload_n 3, 1) := by decide +kernel
theorem dX5_takeFrom_30 : decode cX5_takeFrom 30 = .ok (.aload 4, 2) := by decide +kernel
theorem dX5_takeFrom_32 : decode cX5_takeFrom 32 = .ok (.iload_n 3, 1) := by decide +kernel
theorem dX5_takeFrom_33 : decode cX5_takeFrom 33 = .ok (.aload_n 2, 1) := by decide +kernel
theorem dX5_takeFrom_34 : decode cX5_takeFrom 34 = .ok (.invokevirtual 71, 3) := by decide +kernel
theorem dX5_takeFrom_37 : decode cX5_takeFrom 37 = .ok (.isub, 1) := by decide +kernel
theorem dX5_takeFrom_38 : decode cX5_takeFrom 38 = .ok (.istore_n 3, 1) := by decide +kernel
theorem dX5_takeFrom_39 : decode cX5_takeFrom 39 = .ok (.aload 4, 2) := by decide +kernel
theorem dX5_takeFrom_41 : decode cX5_takeFrom 41 = .ok (.getfield 61, 3) := by decide +kernel
theorem dX5_takeFrom_44 : decode cX5_takeFrom 44 = .ok (.astore 4, 2) := by decide +kernel
theorem dX5_takeFrom_46 : decode cX5_takeFrom 46 = .ok (.goto (-22), 3) := by decide +kernel
theorem dX5_takeFrom_49 : decode cX5_takeFrom 49 = .ok (.iload_n 1, 1) := by decide +kernel
theorem dX5_takeFrom_50 : decode cX5_takeFrom 50 = .ok (.iload_n 3, 1) := by decide +kernel
theorem dX5_takeFrom_51 : decode cX5_takeFrom 51 = .ok (.isub, 1) := by decide +kernel
theorem dX5_takeFrom_52 : decode cX5_takeFrom 52 = .ok (.ireturn, 1) := by decide +kernel
theorem dX5_takeByPlug_0 : decode cX5_takeByPlug 0 = .ok (.aload_n 0, 1) := by decide +kernel
theorem dX5_takeByPlug_1 : decode cX5_takeByPlug 1 = .ok (.getfield 40, 3) := by decide +kernel
theorem dX5_takeByPlug_4 : decode cX5_takeByPlug 4 = .ok (.ifCond .ne 5, 3) := by decide +kernel
theorem dX5_takeByPlug_7 : decode cX5_takeByPlug 7 = .ok (.iconst 0, 1) := by decide +kernel
theorem dX5_takeByPlug_8 : decode cX5_takeByPlug 8 = .ok (.ireturn, 1) := by decide +kernel
theorem dX5_takeByPlug_9 : decode cX5_takeByPlug 9 = .ok (.bipush 60, 2) := by decide +kernel
theorem dX5_takeByPlug_11 : decode cX5_takeByPlug 11 = .ok (.iload_n 1, 1) := by decide +kernel
theorem dX5_takeByPlug_12 : decode cX5_takeByPlug 12 = .ok (.invokestatic 49, 3) := by decide +kernel
theorem dX5_takeByPlug_15 : decode cX5_takeByPlug 15 = .ok (.istore_n 3, 1) := by decide +kernel
theorem dX5_takeByPlug_16 : decode cX5_takeByPlug 16 = .ok (.aload_n 2, 1) := by decide +kernel
theorem dX5_takeByPlug_17 : decode cX5_takeByPlug 17 = .ok (.dup, 1) := by decide +kernel
theorem dX5_takeByPlug_18 : decode cX5_takeByPlug 18 = .ok (.getfield 74, 3) := by decide +kernel
theorem dX5_takeByPlug_21 : decode cX5_takeByPlug 21 = .ok (.iload_n 3, 1) := by decide +kernel
theorem dX5_takeByPlug_22 : decode cX5_takeByPlug 22 = .ok (.iadd, 1) := by decide +kernel
theorem dX5_takeByPlug_23 : decode cX5_takeByPlug 23 = .ok (.putfield 74, 3) := by decide +kernel
theorem dX5_takeByPlug_26 : decode cX5_takeByPlug 26 = .ok (.iload_n 3, 1) := by decide +kernel
theorem dX5_takeByPlug_27 : decode cX5_takeByPlug 27 = .ok (.ireturn, 1) := by decide +kernel
theorem dX5_takeByTun_0 : decode cX5_takeByTun 0 = .ok (.iload_n 1, 1) := by decide +kernel
theorem dX5_takeByTun_1 : decode cX5_takeByTun 1 = .ok (.bipush 40, 2) := by decide +kernel
theorem dX5_takeByTun_3 : decode cX5_takeByTun 3 = .ok (.aload_n 0, 1) := by decide +kernel
theorem dX5_takeByTun_4 : decode cX5_takeByTun 4 = .ok (.getfield 34, 3) := by decide +kernel
theorem dX5_takeByTun_7 : decode cX5_takeByTun 7 = .ok (.aload_n 0, 1) := by decide +kernel
theorem dX5_takeByTun_8 : decode cX5_takeByTun 8 = .ok (.getfield 37, 3) := by decide +kernel
theorem dX5_takeByTun_11 : decode cX5_takeByTun 11 = .ok (.isub, 1) := by decide +kernel
theorem dX5_takeByTun_12 : decode cX5_takeByTun 12 = .ok (.invokestatic 49, 3) := by decide +kernel
theorem dX5_takeByTun_15 : decode cX5_takeByTun 15 = .ok (.invokestatic 49, 3) := by decide +kernel
theorem dX5_takeByTun_18 : decode cX5_takeByTun 18 = .ok (.istore_n 3, 1) := by decide +kernel
theorem dX5_takeByTun_19 : decode cX5_takeByTun 19 = .ok (.aload_n 0, 1) := by decide +kernel
theorem dX5_takeByTun_20 : decode cX5_takeByTun 20 = .ok (.dup, 1) := by decide +kernel
theorem dX5_takeByTun_21 : decode cX5_takeByTun 21 = .ok (.getfield 37, 3) := by decide +kernel
theorem dX5_takeByTun_24 : decode cX5_takeByTun 24 = .ok (.iload_n 3, 1) := by decide +kernel
theorem dX5_takeByTun_25 : decode cX5_takeByTun 25 = .ok (.iadd, 1) := by decide +kernel
theorem dX5_takeByTun_26 : decode cX5_takeByTun 26 = .ok (.putfield 37, 3) := by decide +kernel
theorem dX5_takeByTun_29 : decode cX5_takeByTun 29 = .ok (.aload_n 2, 1) := by decide +kernel
theorem dX5_takeByTun_30 : decode cX5_takeByTun 30 = .ok (.dup, 1) := by decide +kernel
theorem dX5_takeByTun_31 : decode cX5_takeByTun 31 = .ok (.getfield 79, 3) := by decide +kernel
theorem dX5_takeByTun_34 : decode cX5_takeByTun 34 = .ok (.iload_n 3, 1) := by decide +kernel
theorem dX5_takeByTun_35 : decode cX5_takeByTun 35 = .ok (.iadd, 1) := by decide +kernel
theorem dX5_takeByTun_36 : decode cX5_takeByTun 36 = .ok (.putfield 79, 3) := by decide +kernel
theorem dX5_takeByTun_39 : decode cX5_takeByTun 39 = .ok (.iload_n 3, 1) := by decide +kernel
theorem dX5_takeByTun_40 : decode cX5_takeByTun 40 = .ok (.ireturn, 1) := by decide +kernel
theorem dX5_roomNow_0 : decode cX5_roomNow 0 = .ok (.aload_n 0, 1) := by decide +kernel
theorem dX5_roomNow_1 : decode cX5_roomNow 1 = .ok (.getfield 34, 3) := by decide +kernel
theorem dX5_roomNow_4 : decode cX5_roomNow 4 = .ok (.aload_n 0, 1) := by decide +kernel
theorem dX5_roomNow_5 : decode cX5_roomNow 5 = .ok (.getfield 37, 3) := by decide +kernel
theorem dX5_roomNow_8 : decode cX5_roomNow 8 = .ok (.isub, 1) := by decide +kernel
theorem dX5_roomNow_9 : decode cX5_roomNow 9 = .ok (.istore_n 1, 1) := by decide +kernel
theorem dX5_roomNow_10 : decode cX5_roomNow 10 = .ok (.aload_n 0, 1) := by decide +kernel
theorem dX5_roomNow_11 : decode cX5_roomNow 11 = .ok (.getfield 52, 3) := by decide +kernel
theorem dX5_roomNow_14 : decode cX5_roomNow 14 = .ok (.astore_n 2, 1) := by decide +kernel
theorem dX5_roomNow_15 : decode cX5_roomNow 15 = .ok (.aload_n 2, 1) := by decide +kernel
theorem dX5_roomNow_16 : decode cX5_roomNow 16 = .ok (.ifnull 18, 3) := by decide +kernel
theorem dX5_roomNow_19 : decode cX5_roomNow 19 = .ok (.iload_n 1, 1) := by decide +kernel
theorem dX5_roomNow_20 : decode cX5_roomNow 20 = .ok (.aload_n 2, 1) := by decide +kernel
theorem dX5_roomNow_21 : decode cX5_roomNow 21 = .ok (.invokevirtual 82, 3) := by decide +kernel
theorem dX5_roomNow_24 : decode cX5_roomNow 24 = .ok (.iadd, 1) := by decide +kernel
theorem dX5_roomNow_25 : decode cX5_roomNow 25 = .ok (.istore_n 1, 1) := by decide +kernel
theorem dX5_roomNow_26 : decode cX5_roomNow 26 = .ok (.aload_n 2, 1) := by decide +kernel
theorem dX5_roomNow_27 : decode cX5_roomNow 27 = .ok (.getfield 61, 3) := by decide +kernel
theorem dX5_roomNow_30 : decode cX5_roomNow 30 = .ok (.astore_n 2, 1) := by decide +kernel
theorem dX5_roomNow_31 : decode cX5_roomNow 31 = .ok (.goto (-16), 3) := by decide +kernel
theorem dX5_roomNow_34 : decode cX5_roomNow 34 = .ok (.iload_n 1, 1) := by decide +kernel
theorem dX5_roomNow_35 : decode cX5_roomNow 35 = .ok (.ireturn, 1) := by decide +kernel
theorem dX6_init_0 : decode cX6_init 0 = .ok (.aload_n 0, 1) := by decide +kernel
theorem dX6_init_1 : decode cX6_init 1 = .ok (.invokespecial 1, 3) := by decide +kernel
theorem dX6_init_4 : decode cX6_init 4 = .ok (.return_, 1) := by decide +kernel
theorem dX7_init_0 : decode cX7_init 0 = .ok (.aload_n 0, 1) := by decide +kernel
theorem dX7_init_1 : decode cX7_init 1 = .ok (.invokespecial 3, 3) := by decide +kernel
theorem dX7_init_4 : decode cX7_init 4 = .ok (.aload_n 0, 1) := by decide +kernel
theorem dX7_init_5 : decode cX7_init 5 = .ok (.iload_n 1, 1) := by decide +kernel
theorem dX7_init_6 : decode cX7_init 6 = .ok (.putfield 9, 3) := by decide +kernel
theorem dX7_init_9 : decode cX7_init 9 = .ok (.aload_n 0, 1) := by decide +kernel
theorem dX7_init_10 : decode cX7_init 10 = .ok (.iload_n 2, 1) := by decide +kernel
theorem dX7_init_11 : decode cX7_init 11 = .ok (.putfield 15, 3) := by decide +kernel
theorem dX7_init_14 : decode cX7_init 14 = .ok (.aload_n 0, 1) := by decide +kernel
theorem dX7_init_15 : decode cX7_init 15 = .ok (.iload_n 3, 1) := by decide +kernel
theorem dX7_init_16 : decode cX7_init 16 = .ok (.putfield 18, 3) := by decide +kernel
theorem dX7_init_19 : decode cX7_init 19 = .ok (.aload_n 0, 1) := by decide +kernel
theorem dX7_init_20 : decode cX7_init 20 = .ok (.iload 4, 2) := by decide +kernel
theorem dX7_init_22 : decode cX7_init 22 = .ok (.putfield 21, 3) := by decide +kernel
theorem dX7_init_25 : decode cX7_init 25 = .ok (.return_, 1) := by decide +kernel
theorem dX7_hoursUntil_0 : decode cX7_hoursUntil 0 = .ok (.aload_n 1, 1) := by decide +kernel
theorem dX7_hoursUntil_1 : decode cX7_hoursUntil 1 = .ok (.getfield 18, 3) := by decide +kernel
theorem dX7_hoursUntil_4 : decode cX7_hoursUntil 4 = .ok (.aload_n 0, 1) := by decide +kernel
theorem dX7_hoursUntil_5 : decode cX7_hoursUntil 5 = .ok (.getfield 18, 3) := by decide +kernel
theorem dX7_hoursUntil_8 : decode cX7_hoursUntil 8 = .ok (.isub, 1) := by decide +kernel
theorem dX7_hoursUntil_9 : decode cX7_hoursUntil 9 = .ok (.sipush 168, 3) := by decide +kernel
theorem dX7_hoursUntil_12 : decode cX7_hoursUntil 12 = .ok (.invokestatic 24, 3) := by decide +kernel
theorem dX7_hoursUntil_15 : decode cX7_hoursUntil 15 = .ok (.ireturn, 1) := by decide +kernel
theorem dX7_sharesHourWith_0 : decode cX7_sharesHourWith 0 = .ok (.aload_n 0, 1) := by decide +kernel
theorem dX7_sharesHourWith_1 : decode cX7_sharesHourWith 1 = .ok (.aload_n 1, 1) := by decide +kernel
theorem dX7_sharesHourWith_2 : decode cX7_sharesHourWith 2 = .ok (.invokevirtual 30, 3) := by decide +kernel
theorem dX7_sharesHourWith_5 : decode cX7_sharesHourWith 5 = .ok (.aload_n 0, 1) := by decide +kernel
theorem dX7_sharesHourWith_6 : decode cX7_sharesHourWith 6 = .ok (.getfield 21, 3) := by decide +kernel
theorem dX7_sharesHourWith_9 : decode cX7_sharesHourWith 9 = .ok (.if_icmp .lt 15, 3) := by decide +kernel
theorem dX7_sharesHourWith_12 : decode cX7_sharesHourWith 12 = .ok (.aload_n 1, 1) := by decide +kernel
theorem dX7_sharesHourWith_13 : decode cX7_sharesHourWith 13 = .ok (.aload_n 0, 1) := by decide +kernel
theorem dX7_sharesHourWith_14 : decode cX7_sharesHourWith 14 = .ok (.invokevirtual 30, 3) := by decide +kernel
theorem dX7_sharesHourWith_17 : decode cX7_sharesHourWith 17 = .ok (.aload_n 1, 1) := by decide +kernel
theorem dX7_sharesHourWith_18 : decode cX7_sharesHourWith 18 = .ok (.getfield 21, 3) := by decide +kernel
theorem dX7_sharesHourWith_21 : decode cX7_sharesHourWith 21 = .ok (.if_icmp .ge 7, 3) := by decide +kernel
theorem dX7_sharesHourWith_24 : decode cX7_sharesHourWith 24 = .ok (.iconst 1, 1) := by decide +kernel
theorem dX7_sharesHourWith_25 : decode cX7_sharesHourWith 25 = .ok (.goto 4, 3) := by decide +kernel
theorem dX7_sharesHourWith_28 : decode cX7_sharesHourWith 28 = .ok (.iconst 0, 1) := by decide +kernel
theorem dX7_sharesHourWith_29 : decode cX7_sharesHourWith 29 = .ok (.ireturn, 1) := by decide +kernel
theorem dX8_init_0 : decode cX8_init 0 = .ok (.aload_n 0, 1) := by decide +kernel
theorem dX8_init_1 : decode cX8_init 1 = .ok (.invokespecial 3, 3) := by decide +kernel
theorem dX8_init_4 : decode cX8_init 4 = .ok (.aload_n 0, 1) := by decide +kernel
theorem dX8_init_5 : decode cX8_init 5 = .ok (.sipush 168, 3) := by decide +kernel
theorem dX8_init_8 : decode cX8_init 8 = .ok (.newarray .int, 2) := by decide +kernel
theorem dX8_init_10 : decode cX8_init 10 = .ok (.putfield 9, 3) := by decide +kernel
theorem dX8_init_13 : decode cX8_init 13 = .ok (.aload_n 0, 1) := by decide +kernel
theorem dX8_init_14 : decode cX8_init 14 = .ok (.sipush 168, 3) := by decide +kernel
theorem dX8_init_17 : decode cX8_init 17 = .ok (.newarray .int, 2) := by decide +kernel
theorem dX8_init_19 : decode cX8_init 19 = .ok (.putfield 15, 3) := by decide +kernel
theorem dX8_init_22 : decode cX8_init 22 = .ok (.return_, 1) := by decide +kernel
theorem dX8_letStreets_0 : decode cX8_letStreets 0 = .ok (.aload_n 0, 1) := by decide +kernel
theorem dX8_letStreets_1 : decode cX8_letStreets 1 = .ok (.getfield 9, 3) := by decide +kernel
theorem dX8_letStreets_4 : decode cX8_letStreets 4 = .ok (.iload_n 1, 1) := by decide +kernel
theorem dX8_letStreets_5 : decode cX8_letStreets 5 = .ok (.sipush 168, 3) := by decide +kernel
theorem dX8_letStreets_8 : decode cX8_letStreets 8 = .ok (.invokestatic 18, 3) := by decide +kernel
theorem dX8_letStreets_11 : decode cX8_letStreets 11 = .ok (.iaload, 1) := by decide +kernel
theorem dX8_letStreets_12 : decode cX8_letStreets 12 = .ok (.ireturn, 1) := by decide +kernel
theorem dX8_openStreets_0 : decode cX8_openStreets 0 = .ok (.aload_n 0, 1) := by decide +kernel
theorem dX8_openStreets_1 : decode cX8_openStreets 1 = .ok (.getfield 15, 3) := by decide +kernel
theorem dX8_openStreets_4 : decode cX8_openStreets 4 = .ok (.iload_n 1, 1) := by decide +kernel
theorem dX8_openStreets_5 : decode cX8_openStreets 5 = .ok (.sipush 168, 3) := by decide +kernel
theorem dX8_openStreets_8 : decode cX8_openStreets 8 = .ok (.invokestatic 18, 3) := by decide +kernel
theorem dX8_openStreets_11 : decode cX8_openStreets 11 = .ok (.iaload, 1) := by decide +kernel
theorem dX8_openStreets_12 : decode cX8_openStreets 12 = .ok (.ireturn, 1) := by decide +kernel
theorem dX8_hoursOpen_0 : decode cX8_hoursOpen 0 = .ok (.iconst 0, 1) := by decide +kernel
theorem dX8_hoursOpen_1 : decode cX8_hoursOpen 1 = .ok (.istore_n 2, 1) := by decide +kernel
theorem dX8_hoursOpen_2 : decode cX8_hoursOpen 2 = .ok (.iconst 0, 1) := by decide +kernel
theorem dX8_hoursOpen_3 : decode cX8_hoursOpen 3 = .ok (.istore_n 3, 1) := by decide +kernel
theorem dX8_hoursOpen_4 : decode cX8_hoursOpen 4 = .ok (.iload_n 3, 1) := by decide +kernel
theorem dX8_hoursOpen_5 : decode cX8_hoursOpen 5 = .ok (.sipush 168, 3) := by decide +kernel
theorem dX8_hoursOpen_8 : decode cX8_hoursOpen 8 = .ok (.if_icmp .ge 22, 3) := by decide +kernel
theorem dX8_hoursOpen_11 : decode cX8_hoursOpen 11 = .ok (.iload_n 2, 1) := by decide +kernel
theorem dX8_hoursOpen_12 : decode cX8_hoursOpen 12 = .ok (.aload_n 0, 1) := by decide +kernel
theorem dX8_hoursOpen_13 : decode cX8_hoursOpen 13 = .ok (.getfield 15, 3) := by decide +kernel
theorem dX8_hoursOpen_16 : decode cX8_hoursOpen 16 = .ok (.iload_n 3, 1) := by decide +kernel
theorem dX8_hoursOpen_17 : decode cX8_hoursOpen 17 = .ok (.iaload, 1) := by decide +kernel
theorem dX8_hoursOpen_18 : decode cX8_hoursOpen 18 = .ok (.iload_n 1, 1) := by decide +kernel
theorem dX8_hoursOpen_19 : decode cX8_hoursOpen 19 = .ok (.ishr, 1) := by decide +kernel
theorem dX8_hoursOpen_20 : decode cX8_hoursOpen 20 = .ok (.iconst 1, 1) := by decide +kernel
theorem dX8_hoursOpen_21 : decode cX8_hoursOpen 21 = .ok (.iand, 1) := by decide +kernel
theorem dX8_hoursOpen_22 : decode cX8_hoursOpen 22 = .ok (.iadd, 1) := by decide +kernel
theorem dX8_hoursOpen_23 : decode cX8_hoursOpen 23 = .ok (.istore_n 2, 1) := by decide +kernel
theorem dX8_hoursOpen_24 : decode cX8_hoursOpen 24 = .ok (.iinc 3 1, 3) := by decide +kernel
theorem dX8_hoursOpen_27 : decode cX8_hoursOpen 27 = .ok (.goto (-23), 3) := by decide +kernel
theorem dX8_hoursOpen_30 : decode cX8_hoursOpen 30 = .ok (.iload_n 2, 1) := by decide +kernel
theorem dX8_hoursOpen_31 : decode cX8_hoursOpen 31 = .ok (.ireturn, 1) := by decide +kernel
theorem dX8_add_0 : decode cX8_add 0 = .ok (.iconst 0, 1) := by decide +kernel
theorem dX8_add_1 : decode cX8_add 1 = .ok (.istore_n 3, 1) := by decide +kernel
theorem dX8_add_2 : decode cX8_add 2 = .ok (.iload_n 3, 1) := by decide +kernel
theorem dX8_add_3 : decode cX8_add 3 = .ok (.aload_n 1, 1) := by decide +kernel
theorem dX8_add_4 : decode cX8_add 4 = .ok (.getfield 24, 3) := by decide +kernel
theorem dX8_add_7 : decode cX8_add 7 = .ok (.if_icmp .ge 57, 3) := by decide +kernel
theorem dX8_add_10 : decode cX8_add 10 = .ok (.aload_n 1, 1) := by decide +kernel
theorem dX8_add_11 : decode cX8_add 11 = .ok (.getfield 30, 3) := by decide +kernel
theorem dX8_add_14 : decode cX8_add 14 = .ok (.iload_n 3, 1) := by decide +kernel
theorem dX8_add_15 : decode cX8_add 15 = .ok (.iadd, 1) := by decide +kernel
theorem dX8_add_16 : decode cX8_add 16 = .ok (.sipush 168, 3) := by decide +kernel
theorem dX8_add_19 : decode cX8_add 19 = .ok (.invokestatic 18, 3) := by decide +kernel
theorem dX8_add_22 : decode cX8_add 22 = .ok (.istore 4, 2) := by decide +kernel
theorem dX8_add_24 : decode cX8_add 24 = .ok (.aload_n 0, 1) := by decide +kernel
theorem dX8_add_25 : decode cX8_add 25 = .ok (.getfield 9, 3) := by decide +kernel
theorem dX8_add_28 : decode cX8_add 28 = .ok (.iload 4, 2) := by decide +kernel
theorem dX8_add_30 : decode cX8_add 30 = .ok (.dup2, 1) := by decide +kernel
theorem dX8_add_31 : decode cX8_add 31 = .ok (.iaload, 1) := by decide +kernel
theorem dX8_add_32 : decode cX8_add 32 = .ok (.iconst 1, 1) := by decide +kernel
theorem dX8_add_33 : decode cX8_add 33 = .ok (.aload_n 1, 1) := by decide +kernel
theorem dX8_add_34 : decode cX8_add 34 = .ok (.getfield 33, 3) := by decide +kernel
theorem dX8_add_37 : decode cX8_add 37 = .ok (.ishl, 1) := by decide +kernel
theorem dX8_add_38 : decode cX8_add 38 = .ok (.ior, 1) := by decide +kernel
theorem dX8_add_39 : decode cX8_add 39 = .ok (.iastore, 1) := by decide +kernel
theorem dX8_add_40 : decode cX8_add 40 = .ok (.aload_n 0, 1) := by decide +kernel
theorem dX8_add_41 : decode cX8_add 41 = .ok (.getfield 15, 3) := by decide +kernel
theorem dX8_add_44 : decode cX8_add 44 = .ok (.iload 4, 2) := by decide +kernel
theorem dX8_add_46 : decode cX8_add 46 = .ok (.aload_n 0, 1) := by decide +kernel
theorem dX8_add_47 : decode cX8_add 47 = .ok (.getfield 9, 3) := by decide +kernel
theorem dX8_add_50 : decode cX8_add 50 = .ok (.iload 4, 2) := by decide +kernel
theorem dX8_add_52 : decode cX8_add 52 = .ok (.iaload, 1) := by decide +kernel
theorem dX8_add_53 : decode cX8_add 53 = .ok (.aload_n 2, 1) := by decide +kernel
theorem dX8_add_54 : decode cX8_add 54 = .ok (.invokestatic 36, 3) := by decide +kernel
theorem dX8_add_57 : decode cX8_add 57 = .ok (.iastore, 1) := by decide +kernel
theorem dX8_add_58 : decode cX8_add 58 = .ok (.iinc 3 1, 3) := by decide +kernel
theorem dX8_add_61 : decode cX8_add 61 = .ok (.goto (-59), 3) := by decide +kernel
theorem dX8_add_64 : decode cX8_add 64 = .ok (.return_, 1) := by decide +kernel
theorem dX8_openOf_0 : decode cX8_openOf 0 = .ok (.iconst 0, 1) := by decide +kernel
theorem dX8_openOf_1 : decode cX8_openOf 1 = .ok (.istore_n 2, 1) := by decide +kernel
theorem dX8_openOf_2 : decode cX8_openOf 2 = .ok (.iconst 0, 1) := by decide +kernel
theorem dX8_openOf_3 : decode cX8_openOf 3 = .ok (.istore_n 3, 1) := by decide +kernel
theorem dX8_openOf_4 : decode cX8_openOf 4 = .ok (.iload_n 3, 1) := by decide +kernel
theorem dX8_openOf_5 : decode cX8_openOf 5 = .ok (.aload_n 1, 1) := by decide +kernel
theorem dX8_openOf_6 : decode cX8_openOf 6 = .ok (.invokevirtual 40, 3) := by decide +kernel
theorem dX8_openOf_9 : decode cX8_openOf 9 = .ok (.if_icmp .ge 63, 3) := by decide +kernel
theorem dX8_openOf_12 : decode cX8_openOf 12 = .ok (.aload_n 1, 1) := by decide +kernel
theorem dX8_openOf_13 : decode cX8_openOf 13 = .ok (.iload_n 3, 1) := by decide +kernel
theorem dX8_openOf_14 : decode cX8_openOf 14 = .ok (.invokevirtual 46, 3) := by decide +kernel
theorem dX8_openOf_17 : decode cX8_openOf 17 = .ok (.checkcast 50, 3) := by decide +kernel
theorem dX8_openOf_20 : decode cX8_openOf 20 = .ok (.getfield 52, 3) := by decide +kernel
theorem dX8_openOf_23 : decode cX8_openOf 23 = .ok (.istore 4, 2) := by decide +kernel
theorem dX8_openOf_25 : decode cX8_openOf 25 = .ok (.iload 4, 2) := by decide +kernel
theorem dX8_openOf_27 : decode cX8_openOf 27 = .ok (.iconst (-1), 1) := by decide +kernel
theorem dX8_openOf_28 : decode cX8_openOf 28 = .ok (.if_icmp .eq 12, 3) := by decide +kernel
theorem dX8_openOf_31 : decode cX8_openOf 31 = .ok (.iload_n 2, 1) := by decide +kernel
theorem dX8_openOf_32 : decode cX8_openOf 32 = .ok (.iload 4, 2) := by decide +kernel
theorem dX8_openOf_34 : decode cX8_openOf 34 = .ok (.invokestatic 55, 3) := by decide +kernel
theorem dX8_openOf_37 : decode cX8_openOf 37 = .ok (.ifCond .eq 7, 3) := by decide +kernel
theorem dX8_openOf_40 : decode cX8_openOf 40 = .ok (.iconst 1, 1) := by decide +kernel
theorem dX8_openOf_41 : decode cX8_openOf 41 = .ok (.goto 4, 3) := by decide +kernel
theorem dX8_openOf_44 : decode cX8_openOf 44 = .ok (.iconst 0, 1) := by decide +kernel
theorem dX8_openOf_45 : decode cX8_openOf 45 = .ok (.istore 5, 2) := by decide +kernel
theorem dX8_openOf_47 : decode cX8_openOf 47 = .ok (.iload 5, 2) := by decide +kernel
theorem dX8_openOf_49 : decode cX8_openOf 49 = .ok (.ifCond .eq 17, 3) := by decide +kernel
theorem dX8_openOf_52 : decode cX8_openOf 52 = .ok (.iload_n 0, 1) := by decide +kernel
theorem dX8_openOf_53 : decode cX8_openOf 53 = .ok (.iload_n 3, 1) := by decide +kernel
theorem dX8_openOf_54 : decode cX8_openOf 54 = .ok (.invokestatic 55, 3) := by decide +kernel
theorem dX8_openOf_57 : decode cX8_openOf 57 = .ok (.ifCond .eq 9, 3) := by decide +kernel
theorem dX8_openOf_60 : decode cX8_openOf 60 = .ok (.iload_n 2, 1) := by decide +kernel
theorem dX8_openOf_61 : decode cX8_openOf 61 = .ok (.iconst 1, 1) := by decide +kernel
theorem dX8_openOf_62 : decode cX8_openOf 62 = .ok (.iload_n 3, 1) := by decide +kernel
theorem dX8_openOf_63 : decode cX8_openOf 63 = .ok (.ishl, 1) := by decide +kernel
theorem dX8_openOf_64 : decode cX8_openOf 64 = .ok (.ior, 1) := by decide +kernel
theorem dX8_openOf_65 : decode cX8_openOf 65 = .ok (.istore_n 2, 1) := by decide +kernel
theorem dX8_openOf_66 : decode cX8_openOf 66 = .ok (.iinc 3 1, 3) := by decide +kernel
theorem dX8_openOf_69 : decode cX8_openOf 69 = .ok (.goto (-65), 3) := by decide +kernel
theorem dX8_openOf_72 : decode cX8_openOf 72 = .ok (.iload_n 2, 1) := by decide +kernel
theorem dX8_openOf_73 : decode cX8_openOf 73 = .ok (.ireturn, 1) := by decide +kernel
theorem dX9_init_0 : decode cX9_init 0 = .ok (.aload_n 0, 1) := by decide +kernel
theorem dX9_init_1 : decode cX9_init 1 = .ok (.invokespecial 1, 3) := by decide +kernel
theorem dX9_init_4 : decode cX9_init 4 = .ok (.aload_n 0, 1) := by decide +kernel
theorem dX9_init_5 : decode cX9_init 5 = .ok (.new 7, 3) := by decide +kernel
theorem dX9_init_8 : decode cX9_init 8 = .ok (.dup, 1) := by decide +kernel
theorem dX9_init_9 : decode cX9_init 9 = .ok (.invokespecial 9, 3) := by decide +kernel
theorem dX9_init_12 : decode cX9_init 12 = .ok (.putfield 10, 3) := by decide +kernel
theorem dX9_init_15 : decode cX9_init 15 = .ok (.aload_n 0, 1) := by decide +kernel
theorem dX9_init_16 : decode cX9_init 16 = .ok (.new 7, 3) := by decide +kernel
theorem dX9_init_19 : decode cX9_init 19 = .ok (.dup, 1) := by decide +kernel
theorem dX9_init_20 : decode cX9_init 20 = .ok (.invokespecial 9, 3) := by decide +kernel
theorem dX9_init_23 : decode cX9_init 23 = .ok (.putfield 16, 3) := by decide +kernel
theorem dX9_init_26 : decode cX9_init 26 = .ok (.aload_n 0, 1) := by decide +kernel
theorem dX9_init_27 : decode cX9_init 27 = .ok (.new 7, 3) := by decide +kernel
theorem dX9_init_30 : decode cX9_init 30 = .ok (.dup, 1) := by decide +kernel
theorem dX9_init_31 : decode cX9_init 31 = .ok (.invokespecial 9, 3) := by decide +kernel
theorem dX9_init_34 : decode cX9_init 34 = .ok (.putfield 19, 3) := by decide +kernel
theorem dX9_init_37 : decode cX9_init 37 = .ok (.aload_n 0, 1) := by decide +kernel
theorem dX9_init_38 : decode cX9_init 38 = .ok (.new 7, 3) := by decide +kernel
theorem dX9_init_41 : decode cX9_init 41 = .ok (.dup, 1) := by decide +kernel
theorem dX9_init_42 : decode cX9_init 42 = .ok (.invokespecial 9, 3) := by decide +kernel
theorem dX9_init_45 : decode cX9_init 45 = .ok (.putfield 22, 3) := by decide +kernel
theorem dX9_init_48 : decode cX9_init 48 = .ok (.aload_n 0, 1) := by decide +kernel
theorem dX9_init_49 : decode cX9_init 49 = .ok (.iconst 4, 1) := by decide +kernel
theorem dX9_init_50 : decode cX9_init 50 = .ok (.anewarray 25, 3) := by decide +kernel
theorem dX9_init_53 : decode cX9_init 53 = .ok (.putfield 27, 3) := by decide +kernel
theorem dX9_init_56 : decode cX9_init 56 = .ok (.aload_n 0, 1) := by decide +kernel
theorem dX9_init_57 : decode cX9_init 57 = .ok (.iconst 3, 1) := by decide +kernel
theorem dX9_init_58 : decode cX9_init 58 = .ok (.newarray .int, 2) := by decide +kernel
theorem dX9_init_60 : decode cX9_init 60 = .ok (.dup, 1) := by decide +kernel
theorem dX9_init_61 : decode cX9_init 61 = .ok (.iconst 0, 1) := by decide +kernel
theorem dX9_init_62 : decode cX9_init 62 = .ok (.iconst (-1), 1) := by decide +kernel
theorem dX9_init_63 : decode cX9_init 63 = .ok (.iastore, 1) := by decide +kernel
theorem dX9_init_64 : decode cX9_init 64 = .ok (.dup, 1) := by decide +kernel
theorem dX9_init_65 : decode cX9_init 65 = .ok (.iconst 1, 1) := by decide +kernel
theorem dX9_init_66 : decode cX9_init 66 = .ok (.iconst (-1), 1) := by decide +kernel
theorem dX9_init_67 : decode cX9_init 67 = .ok (.iastore, 1) := by decide +kernel
theorem dX9_init_68 : decode cX9_init 68 = .ok (.dup, 1) := by decide +kernel
theorem dX9_init_69 : decode cX9_init 69 = .ok (.iconst 2, 1) := by decide +kernel
theorem dX9_init_70 : decode cX9_init 70 = .ok (.iconst (-1), 1) := by decide +kernel
theorem dX9_init_71 : decode cX9_init 71 = .ok (.iastore, 1) := by decide +kernel
theorem dX9_init_72 : decode cX9_init 72 = .ok (.putfield 31, 3) := by decide +kernel
theorem dX9_init_75 : decode cX9_init 75 = .ok (.aload_n 0, 1) := by decide +kernel
theorem dX9_init_76 : decode cX9_init 76 = .ok (.iconst 3, 1) := by decide +kernel
theorem dX9_init_77 : decode cX9_init 77 = .ok (.newarray .int, 2) := by decide +kernel
theorem dX9_init_79 : decode cX9_init 79 = .ok (.dup, 1) := by decide +kernel
theorem dX9_init_80 : decode cX9_init 80 = .ok (.iconst 0, 1) := by decide +kernel
theorem dX9_init_81 : decode cX9_init 81 = .ok (.bipush 100, 2) := by decide +kernel
theorem dX9_init_83 : decode cX9_init 83 = .ok (.iastore, 1) := by decide +kernel
theorem dX9_init_84 : decode cX9_init 84 = .ok (.dup, 1) := by decide +kernel
theorem dX9_init_85 : decode cX9_init 85 = .ok (.iconst 1, 1) := by decide +kernel
theorem dX9_init_86 : decode cX9_init 86 = .ok (.iconst 1, 1) := by decide +kernel
theorem dX9_init_87 : decode cX9_init 87 = .ok (.iastore, 1) := by decide +kernel
theorem dX9_init_88 : decode cX9_init 88 = .ok (.dup, 1) := by decide +kernel
theorem dX9_init_89 : decode cX9_init 89 = .ok (.iconst 2, 1) := by decide +kernel
theorem dX9_init_90 : decode cX9_init 90 = .ok (.bipush 10, 2) := by decide +kernel
theorem dX9_init_92 : decode cX9_init 92 = .ok (.iastore, 1) := by decide +kernel
theorem dX9_init_93 : decode cX9_init 93 = .ok (.putfield 35, 3) := by decide +kernel
theorem dX9_init_96 : decode cX9_init 96 = .ok (.aload_n 0, 1) := by decide +kernel
theorem dX9_init_97 : decode cX9_init 97 = .ok (.bipush 8, 2) := by decide +kernel
theorem dX9_init_99 : decode cX9_init 99 = .ok (.newarray .int, 2) := by decide +kernel
theorem dX9_init_101 : decode cX9_init 101 = .ok (.putfield 38, 3) := by decide +kernel
theorem dX9_init_104 : decode cX9_init 104 = .ok (.aload_n 0, 1) := by decide +kernel
theorem dX9_init_105 : decode cX9_init 105 = .ok (.new 41, 3) := by decide +kernel
theorem dX9_init_108 : decode cX9_init 108 = .ok (.dup, 1) := by decide +kernel
theorem dX9_init_109 : decode cX9_init 109 = .ok (.invokespecial 43, 3) := by decide +kernel
theorem dX9_init_112 : decode cX9_init 112 = .ok (.putfield 44, 3) := by decide +kernel
theorem dX9_init_115 : decode cX9_init 115 = .ok (.aload_n 0, 1) := by decide +kernel
theorem dX9_init_116 : decode cX9_init 116 = .ok (.new 48, 3) := by decide +kernel
theorem dX9_init_119 : decode cX9_init 119 = .ok (.dup, 1) := by decide +kernel
theorem dX9_init_120 : decode cX9_init 120 = .ok (.invokespecial 50, 3) := by decide +kernel
theorem dX9_init_123 : decode cX9_init 123 = .ok (.putfield 51, 3) := by decide +kernel
theorem dX9_init_126 : decode cX9_init 126 = .ok (.aload_n 0, 1) := by decide +kernel
theorem dX9_init_127 : decode cX9_init 127 = .ok (.new 55, 3) := by decide +kernel
theorem dX9_init_130 : decode cX9_init 130 = .ok (.dup, 1) := by decide +kernel
theorem dX9_init_131 : decode cX9_init 131 = .ok (.invokespecial 57, 3) := by decide +kernel
theorem dX9_init_134 : decode cX9_init 134 = .ok (.putfield 58, 3) := by decide +kernel
theorem dX9_init_137 : decode cX9_init 137 = .ok (.aload_n 0, 1) := by decide +kernel
theorem dX9_init_138 : decode cX9_init 138 = .ok (.new 62, 3) := by decide +kernel
theorem dX9_init_141 : decode cX9_init 141 = .ok (.dup, 1) := by decide +kernel
theorem dX9_init_142 : decode cX9_init 142 = .ok (.invokespecial 64, 3) := by decide +kernel
theorem dX9_init_145 : decode cX9_init 145 = .ok (.putfield 65, 3) := by decide +kernel
theorem dX9_init_148 : decode cX9_init 148 = .ok (.iconst 0, 1) := by decide +kernel
theorem dX9_init_149 : decode cX9_init 149 = .ok (.istore_n 1, 1) := by decide +kernel
theorem dX9_init_150 : decode cX9_init 150 = .ok (.iload_n 1, 1) := by decide +kernel
theorem dX9_init_151 : decode cX9_init 151 = .ok (.iconst 4, 1) := by decide +kernel
theorem dX9_init_152 : decode cX9_init 152 = .ok (.if_icmp .ge 22, 3) := by decide +kernel
theorem dX9_init_155 : decode cX9_init 155 = .ok (.aload_n 0, 1) := by decide +kernel
theorem dX9_init_156 : decode cX9_init 156 = .ok (.getfield 27, 3) := by decide +kernel
theorem dX9_init_159 : decode cX9_init 159 = .ok (.iload_n 1, 1) := by decide +kernel
theorem dX9_init_160 : decode cX9_init 160 = .ok (.new 25, 3) := by decide +kernel
theorem dX9_init_163 : decode cX9_init 163 = .ok (.dup, 1) := by decide +kernel
theorem dX9_init_164 : decode cX9_init 164 = .ok (.invokespecial 69, 3) := by decide +kernel
theorem dX9_init_167 : decode cX9_init 167 = .ok (.aastore, 1) := by decide +kernel
theorem dX9_init_168 : decode cX9_init 168 = .ok (.iinc 1 1, 3) := by decide +kernel
theorem dX9_init_171 : decode cX9_init 171 = .ok (.goto (-21), 3) := by decide +kernel
theorem dX9_init_174 : decode cX9_init 174 = .ok (.return_, 1) := by decide +kernel
theorem dX9_street_0 : decode cX9_street 0 = .ok (.aload_n 0, 1) := by decide +kernel
theorem dX9_street_1 : decode cX9_street 1 = .ok (.iload_n 1, 1) := by decide +kernel
theorem dX9_street_2 : decode cX9_street 2 = .ok (.invokevirtual 70, 3) := by decide +kernel
theorem dX9_street_5 : decode cX9_street 5 = .ok (.ifCond .ne 9, 3) := by decide +kernel
theorem dX9_street_8 : decode cX9_street 8 = .ok (.aload_n 0, 1) := by decide +kernel
theorem dX9_street_9 : decode cX9_street 9 = .ok (.iconst (-1), 1) := by decide +kernel
theorem dX9_street_10 : decode cX9_street 10 = .ok (.invokevirtual 74, 3) := by decide +kernel
theorem dX9_street_13 : decode cX9_street 13 = .ok (.ireturn, 1) := by decide +kernel
theorem dX9_street_14 : decode cX9_street 14 = .ok (.iload_n 2, 1) := by decide +kernel
theorem dX9_street_15 : decode cX9_street 15 = .ok (.iconst 1, 1) := by decide +kernel
theorem dX9_street_16 : decode cX9_street 16 = .ok (.if_icmp .ge 10, 3) := by decide +kernel
theorem dX9_street_19 : decode cX9_street 19 = .ok (.aload_n 0, 1) := by decide +kernel
theorem dX9_street_20 : decode cX9_street 20 = .ok (.bipush (-4), 2) := by decide +kernel
theorem dX9_street_22 : decode cX9_street 22 = .ok (.invokevirtual 74, 3) := by decide +kernel
theorem dX9_street_25 : decode cX9_street 25 = .ok (.ireturn, 1) := by decide +kernel
theorem dX9_street_26 : decode cX9_street 26 = .ok (.iload_n 2, 1) := by decide +kernel
theorem dX9_street_27 : decode cX9_street 27 = .ok (.bipush 50, 2) := by decide +kernel
theorem dX9_street_29 : decode cX9_street 29 = .ok (.if_icmp .gt 15, 3) := by decide +kernel
theorem dX9_street_32 : decode cX9_street 32 = .ok (.aload_n 0, 1) := by decide +kernel
theorem dX9_street_33 : decode cX9_street 33 = .ok (.getfield 10, 3) := by decide +kernel
theorem dX9_street_36 : decode cX9_street 36 = .ok (.invokevirtual 78, 3) := by decide +kernel
theorem dX9_street_39 : decode cX9_street 39 = .ok (.bipush 10, 2) := by decide +kernel
theorem dX9_street_41 : decode cX9_street 41 = .ok (.if_icmp .lt 10, 3) := by decide +kernel
theorem dX9_street_44 : decode cX9_street 44 = .ok (.aload_n 0, 1) := by decide +kernel
theorem dX9_street_45 : decode cX9_street 45 = .ok (.bipush (-6), 2) := by decide +kernel
theorem dX9_street_47 : decode cX9_street 47 = .ok (.invokevirtual 74, 3) := by decide +kernel
theorem dX9_street_50 : decode cX9_street 50 = .ok (.ireturn, 1) := by decide +kernel
theorem dX9_street_51 : decode cX9_street 51 = .ok (.aload_n 0, 1) := by decide +kernel
theorem dX9_street_52 : decode cX9_street 52 = .ok (.getfield 10, 3) := by decide +kernel
theorem dX9_street_55 : decode cX9_street 55 = .ok (.new 82, 3) := by decide +kernel
theorem dX9_street_58 : decode cX9_street 58 = .ok (.dup, 1) := by decide +kernel
theorem dX9_street_59 : decode cX9_street 59 = .ok (.iload_n 1, 1) := by decide +kernel
theorem dX9_street_60 : decode cX9_street 60 = .ok (.iload_n 2, 1) := by decide +kernel
theorem dX9_street_61 : decode cX9_street 61 = .ok (.aload_n 0, 1) := by decide +kernel
theorem dX9_street_62 : decode cX9_street 62 = .ok (.invokevirtual 84, 3) := by decide +kernel
theorem dX9_street_65 : decode cX9_street 65 = .ok (.invokespecial 87, 3) := by decide +kernel
theorem dX9_street_68 : decode cX9_street 68 = .ok (.invokevirtual 90, 3) := by decide +kernel
theorem dX9_street_71 : decode cX9_street 71 = .ok (.pop, 1) := by decide +kernel
theorem dX9_street_72 : decode cX9_street 72 = .ok (.aload_n 0, 1) := by decide +kernel
theorem dX9_street_73 : decode cX9_street 73 = .ok (.getfield 10, 3) := by decide +kernel
theorem dX9_street_76 : decode cX9_street 76 = .ok (.invokevirtual 78, 3) := by decide +kernel
theorem dX9_street_79 : decode cX9_street 79 = .ok (.iconst 1, 1) := by decide +kernel
theorem dX9_street_80 : decode cX9_street 80 = .ok (.isub, 1) := by decide +kernel
theorem dX9_street_81 : decode cX9_street 81 = .ok (.ireturn, 1) := by decide +kernel
theorem dX9_set_0 : decode cX9_set 0 = .ok (.iload_n 1, 1) := by decide +kernel
theorem dX9_set_1 : decode cX9_set 1 = .ok (.ifCond .lt 8, 3) := by decide +kernel
theorem dX9_set_4 : decode cX9_set 4 = .ok (.iload_n 1, 1) := by decide +kernel
theorem dX9_set_5 : decode cX9_set 5 = .ok (.iconst 2, 1) := by decide +kernel
theorem dX9_set_6 : decode cX9_set 6 = .ok (.if_icmp .le 10, 3) := by decide +kernel
theorem dX9_set_9 : decode cX9_set 9 = .ok (.aload_n 0, 1) := by decide +kernel
theorem dX9_set_10 : decode cX9_set 10 = .ok (.bipush (-2), 2) := by decide +kernel
theorem dX9_set_12 : decode cX9_set 12 = .ok (.invokevirtual 74, 3) := by decide +kernel
theorem dX9_set_15 : decode cX9_set 15 = .ok (.ireturn, 1) := by decide +kernel
theorem dX9_set_16 : decode cX9_set 16 = .ok (.iload_n 2, 1) := by decide +kernel
theorem dX9_set_17 : decode cX9_set 17 = .ok (.getstatic 94, 3) := by decide +kernel
theorem dX9_set_20 : decode cX9_set 20 = .ok (.iload_n 1, 1) := by decide +kernel
theorem dX9_set_21 : decode cX9_set 21 = .ok (.iaload, 1) := by decide +kernel
theorem dX9_set_22 : decode cX9_set 22 = .ok (.if_icmp .ge 10, 3) := by decide +kernel
theorem dX9_set_25 : decode cX9_set 25 = .ok (.aload_n 0, 1) := by decide +kernel
theorem dX9_set_26 : decode cX9_set 26 = .ok (.bipush (-4), 2) := by decide +kernel
theorem dX9_set_28 : decode cX9_set 28 = .ok (.invokevirtual 74, 3) := by decide +kernel
theorem dX9_set_31 : decode cX9_set 31 = .ok (.ireturn, 1) := by decide +kernel
theorem dX9_set_32 : decode cX9_set 32 = .ok (.iload_n 2, 1) := by decide +kernel
theorem dX9_set_33 : decode cX9_set 33 = .ok (.getstatic 97, 3) := by decide +kernel
theorem dX9_set_36 : decode cX9_set 36 = .ok (.iload_n 1, 1) := by decide +kernel
theorem dX9_set_37 : decode cX9_set 37 = .ok (.iaload, 1) := by decide +kernel
theorem dX9_set_38 : decode cX9_set 38 = .ok (.if_icmp .le 10, 3) := by decide +kernel
theorem dX9_set_41 : decode cX9_set 41 = .ok (.aload_n 0, 1) := by decide +kernel
theorem dX9_set_42 : decode cX9_set 42 = .ok (.bipush (-6), 2) := by decide +kernel
theorem dX9_set_44 : decode cX9_set 44 = .ok (.invokevirtual 74, 3) := by decide +kernel
theorem dX9_set_47 : decode cX9_set 47 = .ok (.ireturn, 1) := by decide +kernel
theorem dX9_set_48 : decode cX9_set 48 = .ok (.aload_n 0, 1) := by decide +kernel
theorem dX9_set_49 : decode cX9_set 49 = .ok (.getfield 35, 3) := by decide +kernel
theorem dX9_set_52 : decode cX9_set 52 = .ok (.iload_n 1, 1) := by decide +kernel
theorem dX9_set_53 : decode cX9_set 53 = .ok (.iaload, 1) := by decide +kernel
theorem dX9_set_54 : decode cX9_set 54 = .ok (.istore_n 3, 1) := by decide +kernel
theorem dX9_set_55 : decode cX9_set 55 = .ok (.aload_n 0, 1) := by decide +kernel
theorem dX9_set_56 : decode cX9_set 56 = .ok (.getfield 35, 3) := by decide +kernel
theorem dX9_set_59 : decode cX9_set 59 = .ok (.iload_n 1, 1) := by decide +kernel
theorem dX9_set_60 : decode cX9_set 60 = .ok (.iload_n 2, 1) := by decide +kernel
theorem dX9_set_61 : decode cX9_set 61 = .ok (.iastore, 1) := by decide +kernel
theorem dX9_set_62 : decode cX9_set 62 = .ok (.iload_n 3, 1) := by decide +kernel
theorem dX9_set_63 : decode cX9_set 63 = .ok (.ireturn, 1) := by decide +kernel
theorem dX9_coal_0 : decode cX9_coal 0 = .ok (.iload_n 1, 1) := by decide +kernel
theorem dX9_coal_1 : decode cX9_coal 1 = .ok (.ifCond .ge 10, 3) := by decide +kernel
theorem dX9_coal_4 : decode cX9_coal 4 = .ok (.aload_n 0, 1) := by decide +kernel
theorem dX9_coal_5 : decode cX9_coal 5 = .ok (.bipush (-4), 2) := by decide +kernel
theorem dX9_coal_7 : decode cX9_coal 7 = .ok (.invokevirtual 74, 3) := by decide +kernel
theorem dX9_coal_10 : decode cX9_coal 10 = .ok (.ireturn, 1) := by decide +kernel
theorem dX9_coal_11 : decode cX9_coal 11 = .ok (.iload_n 1, 1) := by decide +kernel
theorem dX9_coal_12 : decode cX9_coal 12 = .ok (.ldc 100, 2) := by decide +kernel
theorem dX9_coal_14 : decode cX9_coal 14 = .ok (.aload_n 0, 1) := by decide +kernel
theorem dX9_coal_15 : decode cX9_coal 15 = .ok (.getfield 101, 3) := by decide +kernel
theorem dX9_coal_18 : decode cX9_coal 18 = .ok (.isub, 1) := by decide +kernel
theorem dX9_coal_19 : decode cX9_coal 19 = .ok (.if_icmp .le 10, 3) := by decide +kernel
theorem dX9_coal_22 : decode cX9_coal 22 = .ok (.aload_n 0, 1) := by decide +kernel
theorem dX9_coal_23 : decode cX9_coal 23 = .ok (.bipush (-6), 2) := by decide +kernel
theorem dX9_coal_25 : decode cX9_coal 25 = .ok (.invokevirtual 74, 3) := by decide +kernel
theorem dX9_coal_28 : decode cX9_coal 28 = .ok (.ireturn, 1) := by decide +kernel
theorem dX9_coal_29 : decode cX9_coal 29 = .ok (.aload_n 0, 1) := by decide +kernel
theorem dX9_coal_30 : decode cX9_coal 30 = .ok (.dup, 1) := by decide +kernel
theorem dX9_coal_31 : decode cX9_coal 31 = .ok (.getfield 101, 3) := by decide +kernel
theorem dX9_coal_34 : decode cX9_coal 34 = .ok (.iload_n 1, 1) := by decide +kernel
theorem dX9_coal_35 : decode cX9_coal 35 = .ok (.iadd, 1) := by decide +kernel
theorem dX9_coal_36 : decode cX9_coal 36 = .ok (.putfield 101, 3) := by decide +kernel
theorem dX9_coal_39 : decode cX9_coal 39 = .ok (.aload_n 0, 1) := by decide +kernel
theorem dX9_coal_40 : decode cX9_coal 40 = .ok (.getfield 101, 3) := by decide +kernel
theorem dX9_coal_43 : decode cX9_coal 43 = .ok (.ireturn, 1) := by decide +kernel
theorem dX9_house_0 : decode cX9_house 0 = .ok (.aload_n 0, 1) := by decide +kernel
theorem dX9_house_1 : decode cX9_house 1 = .ok (.iload_n 1, 1) := by decide +kernel
theorem dX9_house_2 : decode cX9_house 2 = .ok (.invokevirtual 105, 3) := by decide +kernel
theorem dX9_house_5 : decode cX9_house 5 = .ok (.astore 6, 2) := by decide +kernel
theorem dX9_house_7 : decode cX9_house 7 = .ok (.aload 6, 2) := by decide +kernel
theorem dX9_house_9 : decode cX9_house 9 = .ok (.ifnonnull 9, 3) := by decide +kernel
theorem dX9_house_12 : decode cX9_house 12 = .ok (.aload_n 0, 1) := by decide +kernel
theorem dX9_house_13 : decode cX9_house 13 = .ok (.iconst (-1), 1) := by decide +kernel
theorem dX9_house_14 : decode cX9_house 14 = .ok (.invokevirtual 74, 3) := by decide +kernel
theorem dX9_house_17 : decode cX9_house 17 = .ok (.ireturn, 1) := by decide +kernel
theorem dX9_house_18 : decode cX9_house 18 = .ok (.iload_n 2, 1) := by decide +kernel
theorem dX9_house_19 : decode cX9_house 19 = .ok (.bipush 10, 2) := by decide +kernel
theorem dX9_house_21 : decode cX9_house 21 = .ok (.if_icmp .lt 12, 3) := by decide +kernel
theorem dX9_house_24 : decode cX9_house 24 = .ok (.iload_n 3, 1) := by decide +kernel
theorem dX9_house_25 : decode cX9_house 25 = .ok (.ifCond .lt 8, 3) := by decide +kernel
theorem dX9_house_28 : decode cX9_house 28 = .ok (.iload 4, 2) := by decide +kernel
theorem dX9_house_30 : decode cX9_house 30 = .ok (.ifCond .ge 10, 3) := by decide +kernel
theorem dX9_house_33 : decode cX9_house 33 = .ok (.aload_n 0, 1) := by decide +kernel
theorem dX9_house_34 : decode cX9_house 34 = .ok (.bipush (-4), 2) := by decide +kernel
theorem dX9_house_36 : decode cX9_house 36 = .ok (.invokevirtual 74, 3) := by decide +kernel
theorem dX9_house_39 : decode cX9_house 39 = .ok (.ireturn, 1) := by decide +kernel
theorem dX9_house_40 : decode cX9_house 40 = .ok (.iload_n 2, 1) := by decide +kernel
theorem dX9_house_41 : decode cX9_house 41 = .ok (.sipush 500, 3) := by decide +kernel
theorem dX9_house_44 : decode cX9_house 44 = .ok (.if_icmp .gt 16, 3) := by decide +kernel
theorem dX9_house_47 : decode cX9_house 47 = .ok (.iload_n 3, 1) := by decide +kernel
theorem dX9_house_48 : decode cX9_house 48 = .ok (.bipush 9, 2) := by decide +kernel
theorem dX9_house_50 : decode cX9_house 50 = .ok (.if_icmp .gt 10, 3) := by decide +kernel
theorem dX9_house_53 : decode cX9_house 53 = .ok (.iload 4, 2) := by decide +kernel
theorem dX9_house_55 : decode cX9_house 55 = .ok (.bipush 20, 2) := by decide +kernel
theorem dX9_house_57 : decode cX9_house 57 = .ok (.if_icmp .le 10, 3) := by decide +kernel
theorem dX9_house_60 : decode cX9_house 60 = .ok (.aload_n 0, 1) := by decide +kernel
theorem dX9_house_61 : decode cX9_house 61 = .ok (.bipush (-6), 2) := by decide +kernel
theorem dX9_house_63 : decode cX9_house 63 = .ok (.invokevirtual 74, 3) := by decide +kernel
theorem dX9_house_66 : decode cX9_house 66 = .ok (.ireturn, 1) := by decide +kernel
theorem dX9_house_67 : decode cX9_house 67 = .ok (.aload_n 0, 1) := by decide +kernel
theorem dX9_house_68 : decode cX9_house 68 = .ok (.getfield 16, 3) := by decide +kernel
theorem dX9_house_71 : decode cX9_house 71 = .ok (.invokevirtual 78, 3) := by decide +kernel
theorem dX9_house_74 : decode cX9_house 74 = .ok (.bipush 24, 2) := by decide +kernel
theorem dX9_house_76 : decode cX9_house 76 = .ok (.if_icmp .lt 10, 3) := by decide +kernel
theorem dX9_house_79 : decode cX9_house 79 = .ok (.aload_n 0, 1) := by decide +kernel
theorem dX9_house_80 : decode cX9_house 80 = .ok (.bipush (-6), 2) := by decide +kernel
theorem dX9_house_82 : decode cX9_house 82 = .ok (.invokevirtual 74, 3) := by decide +kernel
theorem dX9_house_85 : decode cX9_house 85 = .ok (.ireturn, 1) := by decide +kernel
theorem dX9_house_86 : decode cX9_house 86 = .ok (.new 109, 3) := by decide +kernel
theorem dX9_house_89 : decode cX9_house 89 = .ok (.dup, 1) := by decide +kernel
theorem dX9_house_90 : decode cX9_house 90 = .ok (.iload_n 1, 1) := by decide +kernel
theorem dX9_house_91 : decode cX9_house 91 = .ok (.iload_n 2, 1) := by decide +kernel
theorem dX9_house_92 : decode cX9_house 92 = .ok (.iload_n 3, 1) := by decide +kernel
theorem dX9_house_93 : decode cX9_house 93 = .ok (.iload 4, 2) := by decide +kernel
theorem dX9_house_95 : decode cX9_house 95 = .ok (.iload 5, 2) := by decide +kernel
theorem dX9_house_97 : decode cX9_house 97 = .ok (.invokespecial 111, 3) := by decide +kernel
theorem dX9_house_100 : decode cX9_house 100 = .ok (.astore 7, 2) := by decide +kernel
theorem dX9_house_102 : decode cX9_house 102 = .ok (.aload_n 0, 1) := by decide +kernel
theorem dX9_house_103 : decode cX9_house 103 = .ok (.getfield 16, 3) := by decide +kernel
theorem dX9_house_106 : decode cX9_house 106 = .ok (.aload 7, 2) := by decide +kernel
theorem dX9_house_108 : decode cX9_house 108 = .ok (.invokevirtual 90, 3) := by decide +kernel
theorem dX9_house_111 : decode cX9_house 111 = .ok (.pop, 1) := by decide +kernel
theorem dX9_house_112 : decode cX9_house 112 = .ok (.aload 6, 2) := by decide +kernel
theorem dX9_house_114 : decode cX9_house 114 = .ok (.aload 7, 2) := by decide +kernel
theorem dX9_house_116 : decode cX9_house 116 = .ok (.invokevirtual 114, 3) := by decide +kernel
theorem dX9_house_119 : decode cX9_house 119 = .ok (.aload_n 0, 1) := by decide +kernel
theorem dX9_house_120 : decode cX9_house 120 = .ok (.getfield 16, 3) := by decide +kernel
theorem dX9_house_123 : decode cX9_house 123 = .ok (.invokevirtual 78, 3) := by decide +kernel
theorem dX9_house_126 : decode cX9_house 126 = .ok (.iconst 1, 1) := by decide +kernel
theorem dX9_house_127 : decode cX9_house 127 = .ok (.isub, 1) := by decide +kernel
theorem dX9_house_128 : decode cX9_house 128 = .ok (.ireturn, 1) := by decide +kernel
theorem dX9_row_0 : decode cX9_row 0 = .ok (.aload_n 0, 1) := by decide +kernel
theorem dX9_row_1 : decode cX9_row 1 = .ok (.iload_n 1, 1) := by decide +kernel
theorem dX9_row_2 : decode cX9_row 2 = .ok (.invokevirtual 118, 3) := by decide +kernel
theorem dX9_row_5 : decode cX9_row 5 = .ok (.astore_n 3, 1) := by decide +kernel
theorem dX9_row_6 : decode cX9_row 6 = .ok (.aload_n 3, 1) := by decide +kernel
theorem dX9_row_7 : decode cX9_row 7 = .ok (.ifnonnull 9, 3) := by decide +kernel
theorem dX9_row_10 : decode cX9_row 10 = .ok (.aload_n 0, 1) := by decide +kernel
theorem dX9_row_11 : decode cX9_row 11 = .ok (.iconst (-1), 1) := by decide +kernel
theorem dX9_row_12 : decode cX9_row 12 = .ok (.invokevirtual 74, 3) := by decide +kernel
theorem dX9_row_15 : decode cX9_row 15 = .ok (.ireturn, 1) := by decide +kernel
theorem dX9_row_16 : decode cX9_row 16 = .ok (.iload_n 2, 1) := by decide +kernel
theorem dX9_row_17 : decode cX9_row 17 = .ok (.ifCond .ge 10, 3) := by decide +kernel
theorem dX9_row_20 : decode cX9_row 20 = .ok (.aload_n 0, 1) := by decide +kernel
theorem dX9_row_21 : decode cX9_row 21 = .ok (.bipush (-4), 2) := by decide +kernel
theorem dX9_row_23 : decode cX9_row 23 = .ok (.invokevirtual 74, 3) := by decide +kernel
theorem dX9_row_26 : decode cX9_row 26 = .ok (.ireturn, 1) := by decide +kernel
theorem dX9_row_27 : decode cX9_row 27 = .ok (.iload_n 2, 1) := by decide +kernel
theorem dX9_row_28 : decode cX9_row 28 = .ok (.bipush 24, 2) := by decide +kernel
theorem dX9_row_30 : decode cX9_row 30 = .ok (.if_icmp .le 10, 3) := by decide +kernel
theorem dX9_row_33 : decode cX9_row 33 = .ok (.aload_n 0, 1) := by decide +kernel
theorem dX9_row_34 : decode cX9_row 34 = .ok (.bipush (-6), 2) := by decide +kernel
theorem dX9_row_36 : decode cX9_row 36 = .ok (.invokevirtual 74, 3) := by decide +kernel
theorem dX9_row_39 : decode cX9_row 39 = .ok (.ireturn, 1) := by decide +kernel
theorem dX9_row_40 : decode cX9_row 40 = .ok (.aload_n 3, 1) := by decide +kernel
theorem dX9_row_41 : decode cX9_row 41 = .ok (.iload_n 2, 1) := by decide +kernel
theorem dX9_row_42 : decode cX9_row 42 = .ok (.invokevirtual 122, 3) := by decide +kernel
theorem dX9_row_45 : decode cX9_row 45 = .ok (.iload_n 2, 1) := by decide +kernel
theorem dX9_row_46 : decode cX9_row 46 = .ok (.ireturn, 1) := by decide +kernel
theorem dX9_lose_0 : decode cX9_lose 0 = .ok (.aload_n 0, 1) := by decide +kernel
theorem dX9_lose_1 : decode cX9_lose 1 = .ok (.iload_n 1, 1) := by decide +kernel
theorem dX9_lose_2 : decode cX9_lose 2 = .ok (.invokevirtual 118, 3) := by decide +kernel
theorem dX9_lose_5 : decode cX9_lose 5 = .ok (.astore_n 2, 1) := by decide +kernel
theorem dX9_lose_6 : decode cX9_lose 6 = .ok (.aload_n 2, 1) := by decide +kernel
theorem dX9_lose_7 : decode cX9_lose 7 = .ok (.ifnonnull 9, 3) := by decide +kernel
theorem dX9_lose_10 : decode cX9_lose 10 = .ok (.aload_n 0, 1) := by decide +kernel
theorem dX9_lose_11 : decode cX9_lose 11 = .ok (.iconst (-1), 1) := by decide +kernel
theorem dX9_lose_12 : decode cX9_lose 12 = .ok (.invokevirtual 74, 3) := by decide +kernel
theorem dX9_lose_15 : decode cX9_lose 15 = .ok (.ireturn, 1) := by decide +kernel
theorem dX9_lose_16 : decode cX9_lose 16 = .ok (.aload_n 2, 1) := by decide +kernel
theorem dX9_lose_17 : decode cX9_lose 17 = .ok (.invokevirtual 126, 3) := by decide +kernel
theorem dX9_lose_20 : decode cX9_lose 20 = .ok (.ifCond .eq 5, 3) := by decide +kernel
theorem dX9_lose_23 : decode cX9_lose 23 = .ok (.iconst 0, 1) := by decide +kernel
theorem dX9_lose_24 : decode cX9_lose 24 = .ok (.ireturn, 1) := by decide +kernel
theorem dX9_lose_25 : decode cX9_lose 25 = .ok (.aload_n 2, 1) := by decide +kernel
theorem dX9_lose_26 : decode cX9_lose 26 = .ok (.invokevirtual 130, 3) := by decide +kernel
theorem dX9_lose_29 : decode cX9_lose 29 = .ok (.iconst 1, 1) := by decide +kernel
theorem dX9_lose_30 : decode cX9_lose 30 = .ok (.ireturn, 1) := by decide +kernel
theorem dX9_put_0 : decode cX9_put 0 = .ok (.aload_n 0, 1) := by decide +kernel
theorem dX9_put_1 : decode cX9_put 1 = .ok (.iload_n 1, 1) := by decide +kernel
theorem dX9_put_2 : decode cX9_put 2 = .ok (.invokevirtual 118, 3) := by decide +kernel
theorem dX9_put_5 : decode cX9_put 5 = .ok (.astore 4, 2) := by decide +kernel
theorem dX9_put_7 : decode cX9_put 7 = .ok (.aload 4, 2) := by decide +kernel
theorem dX9_put_9 : decode cX9_put 9 = .ok (.ifnonnull 9, 3) := by decide +kernel
theorem dX9_put_12 : decode cX9_put 12 = .ok (.aload_n 0, 1) := by decide +kernel
theorem dX9_put_13 : decode cX9_put 13 = .ok (.iconst (-1), 1) := by decide +kernel
theorem dX9_put_14 : decode cX9_put 14 = .ok (.invokevirtual 74, 3) := by decide +kernel
theorem dX9_put_17 : decode cX9_put 17 = .ok (.ireturn, 1) := by decide +kernel
theorem dX9_put_18 : decode cX9_put 18 = .ok (.aload 4, 2) := by decide +kernel
theorem dX9_put_20 : decode cX9_put 20 = .ok (.invokevirtual 126, 3) := by decide +kernel
theorem dX9_put_23 : decode cX9_put 23 = .ok (.ifCond .eq 10, 3) := by decide +kernel
theorem dX9_put_26 : decode cX9_put 26 = .ok (.aload_n 0, 1) := by decide +kernel
theorem dX9_put_27 : decode cX9_put 27 = .ok (.bipush (-5), 2) := by decide +kernel
theorem dX9_put_29 : decode cX9_put 29 = .ok (.invokevirtual 74, 3) := by decide +kernel
theorem dX9_put_32 : decode cX9_put 32 = .ok (.ireturn, 1) := by decide +kernel
theorem dX9_put_33 : decode cX9_put 33 = .ok (.aload 4, 2) := by decide +kernel
theorem dX9_put_35 : decode cX9_put 35 = .ok (.iload_n 2, 1) := by decide +kernel
theorem dX9_put_36 : decode cX9_put 36 = .ok (.iconst 1, 1) := by decide +kernel
theorem dX9_put_37 : decode cX9_put 37 = .ok (.invokevirtual 133, 3) := by decide +kernel
theorem dX9_put_40 : decode cX9_put 40 = .ok (.ifCond .ne 10, 3) := by decide +kernel
theorem dX9_put_43 : decode cX9_put 43 = .ok (.aload_n 0, 1) := by decide +kernel
theorem dX9_put_44 : decode cX9_put 44 = .ok (.bipush (-7), 2) := by decide +kernel
theorem dX9_put_46 : decode cX9_put 46 = .ok (.invokevirtual 74, 3) := by decide +kernel
theorem dX9_put_49 : decode cX9_put 49 = .ok (.ireturn, 1) := by decide +kernel
theorem dX9_put_50 : decode cX9_put 50 = .ok (.iload_n 3, 1) := by decide +kernel
theorem dX9_put_51 : decode cX9_put 51 = .ok (.ifCond .ge 10, 3) := by decide +kernel
theorem dX9_put_54 : decode cX9_put 54 = .ok (.aload_n 0, 1) := by decide +kernel
theorem dX9_put_55 : decode cX9_put 55 = .ok (.bipush (-4), 2) := by decide +kernel
theorem dX9_put_57 : decode cX9_put 57 = .ok (.invokevirtual 74, 3) := by decide +kernel
theorem dX9_put_60 : decode cX9_put 60 = .ok (.ireturn, 1) := by decide +kernel
theorem dX9_put_61 : decode cX9_put 61 = .ok (.iload_n 3, 1) := by decide +kernel
theorem dX9_put_62 : decode cX9_put 62 = .ok (.bipush 20, 2) := by decide +kernel
theorem dX9_put_64 : decode cX9_put 64 = .ok (.if_icmp .le 10, 3) := by decide +kernel
theorem dX9_put_67 : decode cX9_put 67 = .ok (.aload_n 0, 1) := by decide +kernel
theorem dX9_put_68 : decode cX9_put 68 = .ok (.bipush (-6), 2) := by decide +kernel
theorem dX9_put_70 : decode cX9_put 70 = .ok (.invokevirtual 74, 3) := by decide +kernel
theorem dX9_put_73 : decode cX9_put 73 = .ok (.ireturn, 1) := by decide +kernel
theorem dX9_put_74 : decode cX9_put 74 = .ok (.aload 4, 2) := by decide +kernel
theorem dX9_put_76 : decode cX9_put 76 = .ok (.getfield 137, 3) := by decide +kernel
theorem dX9_put_79 : decode cX9_put 79 = .ok (.iload_n 2, 1) := by decide +kernel
theorem dX9_put_80 : decode cX9_put 80 = .ok (.iaload, 1) := by decide +kernel
theorem dX9_put_81 : decode cX9_put 81 = .ok (.istore 5, 2) := by decide +kernel
theorem dX9_put_83 : decode cX9_put 83 = .ok (.aload 4, 2) := by decide +kernel
theorem dX9_put_85 : decode cX9_put 85 = .ok (.getfield 137, 3) := by decide +kernel
theorem dX9_put_88 : decode cX9_put 88 = .ok (.iload_n 2, 1) := by decide +kernel
theorem dX9_put_89 : decode cX9_put 89 = .ok (.iload_n 3, 1) := by decide +kernel
theorem dX9_put_90 : decode cX9_put 90 = .ok (.iastore, 1) := by decide +kernel
theorem dX9_put_91 : decode cX9_put 91 = .ok (.iload 5, 2) := by decide +kernel
theorem dX9_put_93 : decode cX9_put 93 = .ok (.ireturn, 1) := by decide +kernel
theorem dX9_copy_0 : decode cX9_copy 0 = .ok (.aload_n 0, 1) := by decide +kernel
theorem dX9_copy_1 : decode cX9_copy 1 = .ok (.iload_n 1, 1) := by decide +kernel
theorem dX9_copy_2 : decode cX9_copy 2 = .ok (.invokevirtual 118, 3) := by decide +kernel
theorem dX9_copy_5 : decode cX9_copy 5 = .ok (.astore 6, 2) := by decide +kernel
theorem dX9_copy_7 : decode cX9_copy 7 = .ok (.aload_n 0, 1) := by decide +kernel
theorem dX9_copy_8 : decode cX9_copy 8 = .ok (.iload_n 3, 1) := by decide +kernel
theorem dX9_copy_9 : decode cX9_copy 9 = .ok (.invokevirtual 118, 3) := by decide +kernel
theorem dX9_copy_12 : decode cX9_copy 12 = .ok (.astore 7, 2) := by decide +kernel
theorem dX9_copy_14 : decode cX9_copy 14 = .ok (.aload 6, 2) := by decide +kernel
theorem dX9_copy_16 : decode cX9_copy 16 = .ok (.ifnull 8, 3) := by decide +kernel
theorem dX9_copy_19 : decode cX9_copy 19 = .ok (.aload 7, 2) := by decide +kernel
theorem dX9_copy_21 : decode cX9_copy 21 = .ok (.ifnonnull 9, 3) := by decide +kernel
theorem dX9_copy_24 : decode cX9_copy 24 = .ok (.aload_n 0, 1) := by decide +kernel
theorem dX9_copy_25 : decode cX9_copy 25 = .ok (.iconst (-1), 1) := by decide +kernel
theorem dX9_copy_26 : decode cX9_copy 26 = .ok (.invokevirtual 74, 3) := by decide +kernel
theorem dX9_copy_29 : decode cX9_copy 29 = .ok (.ireturn, 1) := by decide +kernel
theorem dX9_copy_30 : decode cX9_copy 30 = .ok (.aload 6, 2) := by decide +kernel
theorem dX9_copy_32 : decode cX9_copy 32 = .ok (.invokevirtual 126, 3) := by decide +kernel
theorem dX9_copy_35 : decode cX9_copy 35 = .ok (.ifCond .ne 11, 3) := by decide +kernel
theorem dX9_copy_38 : decode cX9_copy 38 = .ok (.aload 7, 2) := by decide +kernel
theorem dX9_copy_40 : decode cX9_copy 40 = .ok (.invokevirtual 126, 3) := by decide +kernel
theorem dX9_copy_43 : decode cX9_copy 43 = .ok (.ifCond .eq 10, 3) := by decide +kernel
theorem dX9_copy_46 : decode cX9_copy 46 = .ok (.aload_n 0, 1) := by decide +kernel
theorem dX9_copy_47 : decode cX9_copy 47 = .ok (.bipush (-5), 2) := by decide +kernel
theorem dX9_copy_49 : decode cX9_copy 49 = .ok (.invokevirtual 74, 3) := by decide +kernel
theorem dX9_copy_52 : decode cX9_copy 52 = .ok (.ireturn, 1) := by decide +kernel
theorem dX9_copy_53 : decode cX9_copy 53 = .ok (.aload 6, 2) := by decide +kernel
theorem dX9_copy_55 : decode cX9_copy 55 = .ok (.iload_n 2, 1) := by decide +kernel
theorem dX9_copy_56 : decode cX9_copy 56 = .ok (.iload 5, 2) := by decide +kernel
theorem dX9_copy_58 : decode cX9_copy 58 = .ok (.invokevirtual 133, 3) := by decide +kernel
theorem dX9_copy_61 : decode cX9_copy 61 = .ok (.ifCond .eq 15, 3) := by decide +kernel
theorem dX9_copy_64 : decode cX9_copy 64 = .ok (.aload 7, 2) := by decide +kernel
theorem dX9_copy_66 : decode cX9_copy 66 = .ok (.iload 4, 2) := by decide +kernel
theorem dX9_copy_68 : decode cX9_copy 68 = .ok (.iload 5, 2) := by decide +kernel
theorem dX9_copy_70 : decode cX9_copy 70 = .ok (.invokevirtual 133, 3) := by decide +kernel
theorem dX9_copy_73 : decode cX9_copy 73 = .ok (.ifCond .ne 10, 3) := by decide +kernel
theorem dX9_copy_76 : decode cX9_copy 76 = .ok (.aload_n 0, 1) := by decide +kernel
theorem dX9_copy_77 : decode cX9_copy 77 = .ok (.bipush (-7), 2) := by decide +kernel
theorem dX9_copy_79 : decode cX9_copy 79 = .ok (.invokevirtual 74, 3) := by decide +kernel
theorem dX9_copy_82 : decode cX9_copy 82 = .ok (.ireturn, 1) := by decide +kernel
theorem dX9_copy_83 : decode cX9_copy 83 = .ok (.aload 6, 2) := by decide +kernel
theorem dX9_copy_85 : decode cX9_copy 85 = .ok (.getfield 137, 3) := by decide +kernel
theorem dX9_copy_88 : decode cX9_copy 88 = .ok (.iload_n 2, 1) := by decide +kernel
theorem dX9_copy_89 : decode cX9_copy 89 = .ok (.aload 7, 2) := by decide +kernel
theorem dX9_copy_91 : decode cX9_copy 91 = .ok (.getfield 137, 3) := by decide +kernel
theorem dX9_copy_94 : decode cX9_copy 94 = .ok (.iload 4, 2) := by decide +kernel
theorem dX9_copy_96 : decode cX9_copy 96 = .ok (.iload 5, 2) := by decide +kernel
theorem dX9_copy_98 : decode cX9_copy 98 = .ok (.invokestatic 140, 3) := by decide +kernel
theorem dX9_copy_101 : decode cX9_copy 101 = .ok (.iload 5, 2) := by decide +kernel
theorem dX9_copy_103 : decode cX9_copy 103 = .ok (.ireturn, 1) := by decide +kernel
theorem dX9_lead_0 : decode cX9_lead 0 = .ok (.aload_n 0, 1) := by decide +kernel
theorem dX9_lead_1 : decode cX9_lead 1 = .ok (.iload_n 1, 1) := by decide +kernel
theorem dX9_lead_2 : decode cX9_lead 2 = .ok (.invokevirtual 146, 3) := by decide +kernel
theorem dX9_lead_5 : decode cX9_lead 5 = .ok (.astore_n 3, 1) := by decide +kernel
theorem dX9_lead_6 : decode cX9_lead 6 = .ok (.aload_n 3, 1) := by decide +kernel
theorem dX9_lead_7 : decode cX9_lead 7 = .ok (.ifnull 16, 3) := by decide +kernel
theorem dX9_lead_10 : decode cX9_lead 10 = .ok (.iload_n 2, 1) := by decide +kernel
theorem dX9_lead_11 : decode cX9_lead 11 = .ok (.iconst (-1), 1) := by decide +kernel
theorem dX9_lead_12 : decode cX9_lead 12 = .ok (.if_icmp .eq 17, 3) := by decide +kernel
theorem dX9_lead_15 : decode cX9_lead 15 = .ok (.aload_n 0, 1) := by decide +kernel
theorem dX9_lead_16 : decode cX9_lead 16 = .ok (.iload_n 2, 1) := by decide +kernel
theorem dX9_lead_17 : decode cX9_lead 17 = .ok (.invokevirtual 118, 3) := by decide +kernel
theorem dX9_lead_20 : decode cX9_lead 20 = .ok (.ifnonnull 9, 3) := by decide +kernel
theorem dX9_lead_23 : decode cX9_lead 23 = .ok (.aload_n 0, 1) := by decide +kernel
theorem dX9_lead_24 : decode cX9_lead 24 = .ok (.iconst (-1), 1) := by decide +kernel
theorem dX9_lead_25 : decode cX9_lead 25 = .ok (.invokevirtual 150, 3) := by decide +kernel
theorem dX9_lead_28 : decode cX9_lead 28 = .ok (.ireturn, 1) := by decide +kernel
theorem dX9_lead_29 : decode cX9_lead 29 = .ok (.aload_n 3, 1) := by decide +kernel
theorem dX9_lead_30 : decode cX9_lead 30 = .ok (.getfield 153, 3) := by decide +kernel
theorem dX9_lead_33 : decode cX9_lead 33 = .ok (.istore 4, 2) := by decide +kernel
theorem dX9_lead_35 : decode cX9_lead 35 = .ok (.aload_n 3, 1) := by decide +kernel
theorem dX9_lead_36 : decode cX9_lead 36 = .ok (.iload_n 2, 1) := by decide +kernel
theorem dX9_lead_37 : decode cX9_lead 37 = .ok (.putfield 153, 3) := by decide +kernel
theorem dX9_lead_40 : decode cX9_lead 40 = .ok (.iload 4, 2) := by decide +kernel
theorem dX9_lead_42 : decode cX9_lead 42 = .ok (.ireturn, 1) := by decide +kernel
theorem dX9_end_0 : decode cX9_end 0 = .ok (.aload_n 0, 1) := by decide +kernel
theorem dX9_end_1 : decode cX9_end 1 = .ok (.iload_n 1, 1) := by decide +kernel
theorem dX9_end_2 : decode cX9_end 2 = .ok (.invokevirtual 105, 3) := by decide +kernel
theorem dX9_end_5 : decode cX9_end 5 = .ok (.astore_n 3, 1) := by decide +kernel
theorem dX9_end_6 : decode cX9_end 6 = .ok (.aload_n 3, 1) := by decide +kernel
theorem dX9_end_7 : decode cX9_end 7 = .ok (.ifnonnull 9, 3) := by decide +kernel
theorem dX9_end_10 : decode cX9_end 10 = .ok (.aload_n 0, 1) := by decide +kernel
theorem dX9_end_11 : decode cX9_end 11 = .ok (.iconst (-1), 1) := by decide +kernel
theorem dX9_end_12 : decode cX9_end 12 = .ok (.invokevirtual 74, 3) := by decide +kernel
theorem dX9_end_15 : decode cX9_end 15 = .ok (.ireturn, 1) := by decide +kernel
theorem dX9_end_16 : decode cX9_end 16 = .ok (.aload_n 3, 1) := by decide +kernel
theorem dX9_end_17 : decode cX9_end 17 = .ok (.getfield 156, 3) := by decide +kernel
theorem dX9_end_20 : decode cX9_end 20 = .ok (.ifCond .eq 10, 3) := by decide +kernel
theorem dX9_end_23 : decode cX9_end 23 = .ok (.aload_n 0, 1) := by decide +kernel
theorem dX9_end_24 : decode cX9_end 24 = .ok (.bipush (-3), 2) := by decide +kernel
theorem dX9_end_26 : decode cX9_end 26 = .ok (.invokevirtual 74, 3) := by decide +kernel
theorem dX9_end_29 : decode cX9_end 29 = .ok (.ireturn, 1) := by decide +kernel
theorem dX9_end_30 : decode cX9_end 30 = .ok (.iload_n 2, 1) := by decide +kernel
theorem dX9_end_31 : decode cX9_end 31 = .ok (.ifCond .eq 16, 3) := by decide +kernel
theorem dX9_end_34 : decode cX9_end 34 = .ok (.iload_n 2, 1) := by decide +kernel
theorem dX9_end_35 : decode cX9_end 35 = .ok (.bipush 50, 2) := by decide +kernel
theorem dX9_end_37 : decode cX9_end 37 = .ok (.if_icmp .ge 10, 3) := by decide +kernel
theorem dX9_end_40 : decode cX9_end 40 = .ok (.aload_n 0, 1) := by decide +kernel
theorem dX9_end_41 : decode cX9_end 41 = .ok (.bipush (-4), 2) := by decide +kernel
theorem dX9_end_43 : decode cX9_end 43 = .ok (.invokevirtual 74, 3) := by decide +kernel
theorem dX9_end_46 : decode cX9_end 46 = .ok (.ireturn, 1) := by decide +kernel
theorem dX9_end_47 : decode cX9_end 47 = .ok (.iload_n 2, 1) := by decide +kernel
theorem dX9_end_48 : decode cX9_end 48 = .ok (.sipush 2000, 3) := by decide +kernel
theorem dX9_end_51 : decode cX9_end 51 = .ok (.if_icmp .le 10, 3) := by decide +kernel
theorem dX9_end_54 : decode cX9_end 54 = .ok (.aload_n 0, 1) := by decide +kernel
theorem dX9_end_55 : decode cX9_end 55 = .ok (.bipush (-6), 2) := by decide +kernel
theorem dX9_end_57 : decode cX9_end 57 = .ok (.invokevirtual 74, 3) := by decide +kernel
theorem dX9_end_60 : decode cX9_end 60 = .ok (.ireturn, 1) := by decide +kernel
theorem dX9_end_61 : decode cX9_end 61 = .ok (.aload_n 3, 1) := by decide +kernel
theorem dX9_end_62 : decode cX9_end 62 = .ok (.iload_n 2, 1) := by decide +kernel
theorem dX9_end_63 : decode cX9_end 63 = .ok (.ifCond .ne 7, 3) := by decide +kernel
theorem dX9_end_66 : decode cX9_end 66 = .ok (.iconst 1, 1) := by decide +kernel
theorem dX9_end_67 : decode cX9_end 67 = .ok (.goto 4, 3) := by decide +kernel
theorem dX9_end_70 : decode cX9_end 70 = .ok (.iconst 2, 1) := by decide +kernel
theorem dX9_end_71 : decode cX9_end 71 = .ok (.iload_n 2, 1) := by decide +kernel
theorem dX9_end_72 : decode cX9_end 72 = .ok (.invokevirtual 159, 3) := by decide +kernel
theorem dX9_end_75 : decode cX9_end 75 = .ok (.iconst 1, 1) := by decide +kernel
theorem dX9_end_76 : decode cX9_end 76 = .ok (.ireturn, 1) := by decide +kernel
theorem dX9_clear_0 : decode cX9_clear 0 = .ok (.aload_n 0, 1) := by decide +kernel
theorem dX9_clear_1 : decode cX9_clear 1 = .ok (.iload_n 1, 1) := by decide +kernel
theorem dX9_clear_2 : decode cX9_clear 2 = .ok (.invokevirtual 105, 3) := by decide +kernel
theorem dX9_clear_5 : decode cX9_clear 5 = .ok (.astore_n 2, 1) := by decide +kernel
theorem dX9_clear_6 : decode cX9_clear 6 = .ok (.aload_n 2, 1) := by decide +kernel
theorem dX9_clear_7 : decode cX9_clear 7 = .ok (.ifnonnull 9, 3) := by decide +kernel
theorem dX9_clear_10 : decode cX9_clear 10 = .ok (.aload_n 0, 1) := by decide +kernel
theorem dX9_clear_11 : decode cX9_clear 11 = .ok (.iconst (-1), 1) := by decide +kernel
theorem dX9_clear_12 : decode cX9_clear 12 = .ok (.invokevirtual 74, 3) := by decide +kernel
theorem dX9_clear_15 : decode cX9_clear 15 = .ok (.ireturn, 1) := by decide +kernel
theorem dX9_clear_16 : decode cX9_clear 16 = .ok (.aload_n 2, 1) := by decide +kernel
theorem dX9_clear_17 : decode cX9_clear 17 = .ok (.getfield 156, 3) := by decide +kernel
theorem dX9_clear_20 : decode cX9_clear 20 = .ok (.ifCond .ne 10, 3) := by decide +kernel
theorem dX9_clear_23 : decode cX9_clear 23 = .ok (.aload_n 0, 1) := by decide +kernel
theorem dX9_clear_24 : decode cX9_clear 24 = .ok (.bipush (-5), 2) := by decide +kernel
theorem dX9_clear_26 : decode cX9_clear 26 = .ok (.invokevirtual 74, 3) := by decide +kernel
theorem dX9_clear_29 : decode cX9_clear 29 = .ok (.ireturn, 1) := by decide +kernel
theorem dX9_clear_30 : decode cX9_clear 30 = .ok (.aload_n 2, 1) := by decide +kernel
theorem dX9_clear_31 : decode cX9_clear 31 = .ok (.getfield 163, 3) := by decide +kernel
theorem dX9_clear_34 : decode cX9_clear 34 = .ok (.istore_n 3, 1) := by decide +kernel
theorem dX9_clear_35 : decode cX9_clear 35 = .ok (.aload_n 2, 1) := by decide +kernel
theorem dX9_clear_36 : decode cX9_clear 36 = .ok (.iconst 0, 1) := by decide +kernel
theorem dX9_clear_37 : decode cX9_clear 37 = .ok (.iconst 0, 1) := by decide +kernel
theorem dX9_clear_38 : decode cX9_clear 38 = .ok (.invokevirtual 159, 3) := by decide +kernel
theorem dX9_clear_41 : decode cX9_clear 41 = .ok (.iload_n 3, 1) := by decide +kernel
theorem dX9_clear_42 : decode cX9_clear 42 = .ok (.ireturn, 1) := by decide +kernel
theorem dX9_draw_0 : decode cX9_draw 0 = .ok (.aload_n 0, 1) := by decide +kernel
theorem dX9_draw_1 : decode cX9_draw 1 = .ok (.iload_n 1, 1) := by decide +kernel
theorem dX9_draw_2 : decode cX9_draw 2 = .ok (.invokevirtual 105, 3) := by decide +kernel
theorem dX9_draw_5 : decode cX9_draw 5 = .ok (.astore_n 3, 1) := by decide +kernel
theorem dX9_draw_6 : decode cX9_draw 6 = .ok (.aload_n 3, 1) := by decide +kernel
theorem dX9_draw_7 : decode cX9_draw 7 = .ok (.ifnonnull 9, 3) := by decide +kernel
theorem dX9_draw_10 : decode cX9_draw 10 = .ok (.aload_n 0, 1) := by decide +kernel
theorem dX9_draw_11 : decode cX9_draw 11 = .ok (.iconst (-1), 1) := by decide +kernel
theorem dX9_draw_12 : decode cX9_draw 12 = .ok (.invokevirtual 74, 3) := by decide +kernel
theorem dX9_draw_15 : decode cX9_draw 15 = .ok (.ireturn, 1) := by decide +kernel
theorem dX9_draw_16 : decode cX9_draw 16 = .ok (.aload_n 3, 1) := by decide +kernel
theorem dX9_draw_17 : decode cX9_draw 17 = .ok (.getfield 156, 3) := by decide +kernel
theorem dX9_draw_20 : decode cX9_draw 20 = .ok (.ifCond .ne 10, 3) := by decide +kernel
theorem dX9_draw_23 : decode cX9_draw 23 = .ok (.aload_n 0, 1) := by decide +kernel
theorem dX9_draw_24 : decode cX9_draw 24 = .ok (.bipush (-5), 2) := by decide +kernel
theorem dX9_draw_26 : decode cX9_draw 26 = .ok (.invokevirtual 74, 3) := by decide +kernel
theorem dX9_draw_29 : decode cX9_draw 29 = .ok (.ireturn, 1) := by decide +kernel
theorem dX9_draw_30 : decode cX9_draw 30 = .ok (.aload_n 3, 1) := by decide +kernel
theorem dX9_draw_31 : decode cX9_draw 31 = .ok (.getfield 156, 3) := by decide +kernel
theorem dX9_draw_34 : decode cX9_draw 34 = .ok (.iconst 2, 1) := by decide +kernel
theorem dX9_draw_35 : decode cX9_draw 35 = .ok (.if_icmp .ne 10, 3) := by decide +kernel
theorem dX9_draw_38 : decode cX9_draw 38 = .ok (.aload_n 0, 1) := by decide +kernel
theorem dX9_draw_39 : decode cX9_draw 39 = .ok (.bipush (-2), 2) := by decide +kernel
theorem dX9_draw_41 : decode cX9_draw 41 = .ok (.invokevirtual 74, 3) := by decide +kernel
theorem dX9_draw_44 : decode cX9_draw 44 = .ok (.ireturn, 1) := by decide +kernel
theorem dX9_draw_45 : decode cX9_draw 45 = .ok (.aload_n 3, 1) := by decide +kernel
theorem dX9_draw_46 : decode cX9_draw 46 = .ok (.getfield 166, 3) := by decide +kernel
theorem dX9_draw_49 : decode cX9_draw 49 = .ok (.iload_n 2, 1) := by decide +kernel
theorem dX9_draw_50 : decode cX9_draw 50 = .ok (.if_icmp .ne 5, 3) := by decide +kernel
theorem dX9_draw_53 : decode cX9_draw 53 = .ok (.iconst 0, 1) := by decide +kernel
theorem dX9_draw_54 : decode cX9_draw 54 = .ok (.ireturn, 1) := by decide +kernel
theorem dX9_draw_55 : decode cX9_draw 55 = .ok (.aload_n 3, 1) := by decide +kernel
theorem dX9_draw_56 : decode cX9_draw 56 = .ok (.iload_n 2, 1) := by decide +kernel
theorem dX9_draw_57 : decode cX9_draw 57 = .ok (.putfield 166, 3) := by decide +kernel
theorem dX9_draw_60 : decode cX9_draw 60 = .ok (.iconst 1, 1) := by decide +kernel
theorem dX9_draw_61 : decode cX9_draw 61 = .ok (.ireturn, 1) := by decide +kernel
theorem dX9_brew_0 : decode cX9_brew 0 = .ok (.aload_n 0, 1) := by decide +kernel
theorem dX9_brew_1 : decode cX9_brew 1 = .ok (.iload_n 1, 1) := by decide +kernel
theorem dX9_brew_2 : decode cX9_brew 2 = .ok (.invokevirtual 105, 3) := by decide +kernel
theorem dX9_brew_5 : decode cX9_brew 5 = .ok (.astore_n 3, 1) := by decide +kernel
theorem dX9_brew_6 : decode cX9_brew 6 = .ok (.aload_n 3, 1) := by decide +kernel
theorem dX9_brew_7 : decode cX9_brew 7 = .ok (.ifnonnull 9, 3) := by decide +kernel
theorem dX9_brew_10 : decode cX9_brew 10 = .ok (.aload_n 0, 1) := by decide +kernel
theorem dX9_brew_11 : decode cX9_brew 11 = .ok (.iconst (-1), 1) := by decide +kernel
theorem dX9_brew_12 : decode cX9_brew 12 = .ok (.invokevirtual 74, 3) := by decide +kernel
theorem dX9_brew_15 : decode cX9_brew 15 = .ok (.ireturn, 1) := by decide +kernel
theorem dX9_brew_16 : decode cX9_brew 16 = .ok (.aload_n 3, 1) := by decide +kernel
theorem dX9_brew_17 : decode cX9_brew 17 = .ok (.getfield 156, 3) := by decide +kernel
theorem dX9_brew_20 : decode cX9_brew 20 = .ok (.ifCond .ne 10, 3) := by decide +kernel
theorem dX9_brew_23 : decode cX9_brew 23 = .ok (.aload_n 0, 1) := by decide +kernel
theorem dX9_brew_24 : decode cX9_brew 24 = .ok (.bipush (-5), 2) := by decide +kernel
theorem dX9_brew_26 : decode cX9_brew 26 = .ok (.invokevirtual 74, 3) := by decide +kernel
theorem dX9_brew_29 : decode cX9_brew 29 = .ok (.ireturn, 1) := by decide +kernel
theorem dX9_brew_30 : decode cX9_brew 30 = .ok (.aload_n 3, 1) := by decide +kernel
theorem dX9_brew_31 : decode cX9_brew 31 = .ok (.getfield 156, 3) := by decide +kernel
theorem dX9_brew_34 : decode cX9_brew 34 = .ok (.iconst 1, 1) := by decide +kernel
theorem dX9_brew_35 : decode cX9_brew 35 = .ok (.if_icmp .ne 10, 3) := by decide +kernel
theorem dX9_brew_38 : decode cX9_brew 38 = .ok (.aload_n 0, 1) := by decide +kernel
theorem dX9_brew_39 : decode cX9_brew 39 = .ok (.bipush (-2), 2) := by decide +kernel
theorem dX9_brew_41 : decode cX9_brew 41 = .ok (.invokevirtual 74, 3) := by decide +kernel
theorem dX9_brew_44 : decode cX9_brew 44 = .ok (.ireturn, 1) := by decide +kernel
theorem dX9_brew_45 : decode cX9_brew 45 = .ok (.iload_n 2, 1) := by decide +kernel
theorem dX9_brew_46 : decode cX9_brew 46 = .ok (.ifCond .ge 10, 3) := by decide +kernel
theorem dX9_brew_49 : decode cX9_brew 49 = .ok (.aload_n 0, 1) := by decide +kernel
theorem dX9_brew_50 : decode cX9_brew 50 = .ok (.bipush (-4), 2) := by decide +kernel
theorem dX9_brew_52 : decode cX9_brew 52 = .ok (.invokevirtual 74, 3) := by decide +kernel
theorem dX9_brew_55 : decode cX9_brew 55 = .ok (.ireturn, 1) := by decide +kernel
theorem dX9_brew_56 : decode cX9_brew 56 = .ok (.iload_n 2, 1) := by decide +kernel
theorem dX9_brew_57 : decode cX9_brew 57 = .ok (.aload_n 3, 1) := by decide +kernel
theorem dX9_brew_58 : decode cX9_brew 58 = .ok (.getfield 163, 3) := by decide +kernel
theorem dX9_brew_61 : decode cX9_brew 61 = .ok (.if_icmp .le 10, 3) := by decide +kernel
theorem dX9_brew_64 : decode cX9_brew 64 = .ok (.aload_n 0, 1) := by decide +kernel
theorem dX9_brew_65 : decode cX9_brew 65 = .ok (.bipush (-6), 2) := by decide +kernel
theorem dX9_brew_67 : decode cX9_brew 67 = .ok (.invokevirtual 74, 3) := by decide +kernel
theorem dX9_brew_70 : decode cX9_brew 70 = .ok (.ireturn, 1) := by decide +kernel
theorem dX9_brew_71 : decode cX9_brew 71 = .ok (.aload_n 3, 1) := by decide +kernel
theorem dX9_brew_72 : decode cX9_brew 72 = .ok (.dup, 1) := by decide +kernel
theorem dX9_brew_73 : decode cX9_brew 73 = .ok (.getfield 163, 3) := by decide +kernel
theorem dX9_brew_76 : decode cX9_brew 76 = .ok (.iload_n 2, 1) := by decide +kernel
theorem dX9_brew_77 : decode cX9_brew 77 = .ok (.isub, 1) := by decide +kernel
theorem dX9_brew_78 : decode cX9_brew 78 = .ok (.putfield 163, 3) := by decide +kernel
theorem dX9_brew_81 : decode cX9_brew 81 = .ok (.aload_n 3, 1) := by decide +kernel
theorem dX9_brew_82 : decode cX9_brew 82 = .ok (.getfield 163, 3) := by decide +kernel
theorem dX9_brew_85 : decode cX9_brew 85 = .ok (.ireturn, 1) := by decide +kernel
theorem dX9_turn_0 : decode cX9_turn 0 = .ok (.aload_n 0, 1) := by decide +kernel
theorem dX9_turn_1 : decode cX9_turn 1 = .ok (.iload_n 1, 1) := by decide +kernel
theorem dX9_turn_2 : decode cX9_turn 2 = .ok (.invokevirtual 105, 3) := by decide +kernel
theorem dX9_turn_5 : decode cX9_turn 5 = .ok (.ifnull 10, 3) := by decide +kernel
theorem dX9_turn_8 : decode cX9_turn 8 = .ok (.iload_n 2, 1) := by decide +kernel
theorem dX9_turn_9 : decode cX9_turn 9 = .ok (.invokestatic 170, 3) := by decide +kernel
theorem dX9_turn_12 : decode cX9_turn 12 = .ok (.ifCond .ne 9, 3) := by decide +kernel
theorem dX9_turn_15 : decode cX9_turn 15 = .ok (.aload_n 0, 1) := by decide +kernel
theorem dX9_turn_16 : decode cX9_turn 16 = .ok (.iconst (-1), 1) := by decide +kernel
theorem dX9_turn_17 : decode cX9_turn 17 = .ok (.invokevirtual 74, 3) := by decide +kernel
theorem dX9_turn_20 : decode cX9_turn 20 = .ok (.ireturn, 1) := by decide +kernel
theorem dX9_turn_21 : decode cX9_turn 21 = .ok (.iload_n 3, 1) := by decide +kernel
theorem dX9_turn_22 : decode cX9_turn 22 = .ok (.ifCond .lt 14, 3) := by decide +kernel
theorem dX9_turn_25 : decode cX9_turn 25 = .ok (.iload 4, 2) := by decide +kernel
theorem dX9_turn_27 : decode cX9_turn 27 = .ok (.ifCond .lt 9, 3) := by decide +kernel
theorem dX9_turn_30 : decode cX9_turn 30 = .ok (.iload 5, 2) := by decide +kernel
theorem dX9_turn_32 : decode cX9_turn 32 = .ok (.iconst 1, 1) := by decide +kernel
theorem dX9_turn_33 : decode cX9_turn 33 = .ok (.if_icmp .ge 10, 3) := by decide +kernel
theorem dX9_turn_36 : decode cX9_turn 36 = .ok (.aload_n 0, 1) := by decide +kernel
theorem dX9_turn_37 : decode cX9_turn 37 = .ok (.bipush (-4), 2) := by decide +kernel
theorem dX9_turn_39 : decode cX9_turn 39 = .ok (.invokevirtual 74, 3) := by decide +kernel
theorem dX9_turn_42 : decode cX9_turn 42 = .ok (.ireturn, 1) := by decide +kernel
theorem dX9_turn_43 : decode cX9_turn 43 = .ok (.iload_n 3, 1) := by decide +kernel
theorem dX9_turn_44 : decode cX9_turn 44 = .ok (.bipush 7, 2) := by decide +kernel
theorem dX9_turn_46 : decode cX9_turn 46 = .ok (.if_icmp .ge 17, 3) := by decide +kernel
theorem dX9_turn_49 : decode cX9_turn 49 = .ok (.iload 4, 2) := by decide +kernel
theorem dX9_turn_51 : decode cX9_turn 51 = .ok (.bipush 24, 2) := by decide +kernel
theorem dX9_turn_53 : decode cX9_turn 53 = .ok (.if_icmp .ge 10, 3) := by decide +kernel
theorem dX9_turn_56 : decode cX9_turn 56 = .ok (.iload 5, 2) := by decide +kernel
theorem dX9_turn_58 : decode cX9_turn 58 = .ok (.bipush 6, 2) := by decide +kernel
theorem dX9_turn_60 : decode cX9_turn 60 = .ok (.if_icmp .le 10, 3) := by decide +kernel
theorem dX9_turn_63 : decode cX9_turn 63 = .ok (.aload_n 0, 1) := by decide +kernel
theorem dX9_turn_64 : decode cX9_turn 64 = .ok (.bipush (-6), 2) := by decide +kernel
theorem dX9_turn_66 : decode cX9_turn 66 = .ok (.invokevirtual 74, 3) := by decide +kernel
theorem dX9_turn_69 : decode cX9_turn 69 = .ok (.ireturn, 1) := by decide +kernel
theorem dX9_turn_70 : decode cX9_turn 70 = .ok (.aload_n 0, 1) := by decide +kernel
theorem dX9_turn_71 : decode cX9_turn 71 = .ok (.getfield 19, 3) := by decide +kernel
theorem dX9_turn_74 : decode cX9_turn 74 = .ok (.invokevirtual 78, 3) := by decide +kernel
theorem dX9_turn_77 : decode cX9_turn 77 = .ok (.bipush 30, 2) := by decide +kernel
theorem dX9_turn_79 : decode cX9_turn 79 = .ok (.if_icmp .lt 10, 3) := by decide +kernel
theorem dX9_turn_82 : decode cX9_turn 82 = .ok (.aload_n 0, 1) := by decide +kernel
theorem dX9_turn_83 : decode cX9_turn 83 = .ok (.bipush (-6), 2) := by decide +kernel
theorem dX9_turn_85 : decode cX9_turn 85 = .ok (.invokevirtual 74, 3) := by decide +kernel
theorem dX9_turn_88 : decode cX9_turn 88 = .ok (.ireturn, 1) := by decide +kernel
theorem dX9_turn_89 : decode cX9_turn 89 = .ok (.new 173, 3) := by decide +kernel
theorem dX9_turn_92 : decode cX9_turn 92 = .ok (.dup, 1) := by decide +kernel
theorem dX9_turn_93 : decode cX9_turn 93 = .ok (.iload_n 1, 1) := by decide +kernel
theorem dX9_turn_94 : decode cX9_turn 94 = .ok (.iload_n 2, 1) := by decide +kernel
theorem dX9_turn_95 : decode cX9_turn 95 = .ok (.iload_n 3, 1) := by decide +kernel
theorem dX9_turn_96 : decode cX9_turn 96 = .ok (.bipush 24, 2) := by decide +kernel
theorem dX9_turn_98 : decode cX9_turn 98 = .ok (.imul, 1) := by decide +kernel
theorem dX9_turn_99 : decode cX9_turn 99 = .ok (.iload 4, 2) := by decide +kernel
theorem dX9_turn_101 : decode cX9_turn 101 = .ok (.iadd, 1) := by decide +kernel
theorem dX9_turn_102 : decode cX9_turn 102 = .ok (.iload 5, 2) := by decide +kernel
theorem dX9_turn_104 : decode cX9_turn 104 = .ok (.invokespecial 175, 3) := by decide +kernel
theorem dX9_turn_107 : decode cX9_turn 107 = .ok (.astore 6, 2) := by decide +kernel
theorem dX9_turn_109 : decode cX9_turn 109 = .ok (.aload_n 0, 1) := by decide +kernel
theorem dX9_turn_110 : decode cX9_turn 110 = .ok (.getfield 19, 3) := by decide +kernel
theorem dX9_turn_113 : decode cX9_turn 113 = .ok (.aload 6, 2) := by decide +kernel
theorem dX9_turn_115 : decode cX9_turn 115 = .ok (.invokevirtual 90, 3) := by decide +kernel
theorem dX9_turn_118 : decode cX9_turn 118 = .ok (.pop, 1) := by decide +kernel
theorem dX9_turn_119 : decode cX9_turn 119 = .ok (.aload_n 0, 1) := by decide +kernel
theorem dX9_turn_120 : decode cX9_turn 120 = .ok (.getfield 44, 3) := by decide +kernel
theorem dX9_turn_123 : decode cX9_turn 123 = .ok (.aload 6, 2) := by decide +kernel
theorem dX9_turn_125 : decode cX9_turn 125 = .ok (.aload_n 0, 1) := by decide +kernel
theorem dX9_turn_126 : decode cX9_turn 126 = .ok (.getfield 10, 3) := by decide +kernel
theorem dX9_turn_129 : decode cX9_turn 129 = .ok (.invokevirtual 178, 3) := by decide +kernel
theorem dX9_turn_132 : decode cX9_turn 132 = .ok (.aload_n 0, 1) := by decide +kernel
theorem dX9_turn_133 : decode cX9_turn 133 = .ok (.getfield 19, 3) := by decide +kernel
theorem dX9_turn_136 : decode cX9_turn 136 = .ok (.invokevirtual 78, 3) := by decide +kernel
theorem dX9_turn_139 : decode cX9_turn 139 = .ok (.iconst 1, 1) := by decide +kernel
theorem dX9_turn_140 : decode cX9_turn 140 = .ok (.isub, 1) := by decide +kernel
theorem dX9_turn_141 : decode cX9_turn 141 = .ok (.ireturn, 1) := by decide +kernel
theorem dX9_let_0 : decode cX9_let 0 = .ok (.aload_n 0, 1) := by decide +kernel
theorem dX9_let_1 : decode cX9_let 1 = .ok (.iload_n 1, 1) := by decide +kernel
theorem dX9_let_2 : decode cX9_let 2 = .ok (.invokevirtual 105, 3) := by decide +kernel
theorem dX9_let_5 : decode cX9_let 5 = .ok (.ifnonnull 9, 3) := by decide +kernel
theorem dX9_let_8 : decode cX9_let 8 = .ok (.aload_n 0, 1) := by decide +kernel
theorem dX9_let_9 : decode cX9_let 9 = .ok (.iconst (-1), 1) := by decide +kernel
theorem dX9_let_10 : decode cX9_let 10 = .ok (.invokevirtual 74, 3) := by decide +kernel
theorem dX9_let_13 : decode cX9_let 13 = .ok (.ireturn, 1) := by decide +kernel
theorem dX9_let_14 : decode cX9_let 14 = .ok (.iload_n 2, 1) := by decide +kernel
theorem dX9_let_15 : decode cX9_let 15 = .ok (.ifCond .ge 10, 3) := by decide +kernel
theorem dX9_let_18 : decode cX9_let 18 = .ok (.aload_n 0, 1) := by decide +kernel
theorem dX9_let_19 : decode cX9_let 19 = .ok (.bipush (-4), 2) := by decide +kernel
theorem dX9_let_21 : decode cX9_let 21 = .ok (.invokevirtual 74, 3) := by decide +kernel
theorem dX9_let_24 : decode cX9_let 24 = .ok (.ireturn, 1) := by decide +kernel
theorem dX9_let_25 : decode cX9_let 25 = .ok (.iload_n 2, 1) := by decide +kernel
theorem dX9_let_26 : decode cX9_let 26 = .ok (.sipush 168, 3) := by decide +kernel
theorem dX9_let_29 : decode cX9_let 29 = .ok (.if_icmp .lt 10, 3) := by decide +kernel
theorem dX9_let_32 : decode cX9_let 32 = .ok (.aload_n 0, 1) := by decide +kernel
theorem dX9_let_33 : decode cX9_let 33 = .ok (.bipush (-6), 2) := by decide +kernel
theorem dX9_let_35 : decode cX9_let 35 = .ok (.invokevirtual 74, 3) := by decide +kernel
theorem dX9_let_38 : decode cX9_let 38 = .ok (.ireturn, 1) := by decide +kernel
theorem dX9_let_39 : decode cX9_let 39 = .ok (.iload_n 3, 1) := by decide +kernel
theorem dX9_let_40 : decode cX9_let 40 = .ok (.ifCond .lt 8, 3) := by decide +kernel
theorem dX9_let_43 : decode cX9_let 43 = .ok (.iload_n 3, 1) := by decide +kernel
theorem dX9_let_44 : decode cX9_let 44 = .ok (.iconst 1, 1) := by decide +kernel
theorem dX9_let_45 : decode cX9_let 45 = .ok (.if_icmp .le 10, 3) := by decide +kernel
theorem dX9_let_48 : decode cX9_let 48 = .ok (.aload_n 0, 1) := by decide +kernel
theorem dX9_let_49 : decode cX9_let 49 = .ok (.bipush (-2), 2) := by decide +kernel
theorem dX9_let_51 : decode cX9_let 51 = .ok (.invokevirtual 74, 3) := by decide +kernel
theorem dX9_let_54 : decode cX9_let 54 = .ok (.ireturn, 1) := by decide +kernel
theorem dX9_let_55 : decode cX9_let 55 = .ok (.iload_n 3, 1) := by decide +kernel
theorem dX9_let_56 : decode cX9_let 56 = .ok (.ifCond .ne 14, 3) := by decide +kernel
theorem dX9_let_59 : decode cX9_let 59 = .ok (.aload_n 0, 1) := by decide +kernel
theorem dX9_let_60 : decode cX9_let 60 = .ok (.getfield 44, 3) := by decide +kernel
theorem dX9_let_63 : decode cX9_let 63 = .ok (.iload_n 2, 1) := by decide +kernel
theorem dX9_let_64 : decode cX9_let 64 = .ok (.invokevirtual 181, 3) := by decide +kernel
theorem dX9_let_67 : decode cX9_let 67 = .ok (.goto 11, 3) := by decide +kernel
theorem dX9_let_70 : decode cX9_let 70 = .ok (.aload_n 0, 1) := by decide +kernel
theorem dX9_let_71 : decode cX9_let 71 = .ok (.getfield 44, 3) := by decide +kernel
theorem dX9_let_74 : decode cX9_let 74 = .ok (.iload_n 2, 1) := by decide +kernel
theorem dX9_let_75 : decode cX9_let 75 = .ok (.invokevirtual 184, 3) := by decide +kernel
theorem dX9_let_78 : decode cX9_let 78 = .ok (.istore 4, 2) := by decide +kernel
theorem dX9_let_80 : decode cX9_let 80 = .ok (.iload 4, 2) := by decide +kernel
theorem dX9_let_82 : decode cX9_let 82 = .ok (.iload_n 1, 1) := by decide +kernel
theorem dX9_let_83 : decode cX9_let 83 = .ok (.invokestatic 187, 3) := by decide +kernel
theorem dX9_let_86 : decode cX9_let 86 = .ok (.ifCond .eq 7, 3) := by decide +kernel
theorem dX9_let_89 : decode cX9_let 89 = .ok (.iconst 1, 1) := by decide +kernel
theorem dX9_let_90 : decode cX9_let 90 = .ok (.goto 4, 3) := by decide +kernel
theorem dX9_let_93 : decode cX9_let 93 = .ok (.iconst 0, 1) := by decide +kernel
theorem dX9_let_94 : decode cX9_let 94 = .ok (.ireturn, 1) := by decide +kernel
theorem dX9_clashes_0 : decode cX9_clashes 0 = .ok (.iload_n 1, 1) := by decide +kernel
theorem dX9_clashes_1 : decode cX9_clashes 1 = .ok (.invokestatic 170, 3) := by decide +kernel
theorem dX9_clashes_4 : decode cX9_clashes 4 = .ok (.ifCond .ne 9, 3) := by decide +kernel
theorem dX9_clashes_7 : decode cX9_clashes 7 = .ok (.aload_n 0, 1) := by decide +kernel
theorem dX9_clashes_8 : decode cX9_clashes 8 = .ok (.iconst (-1), 1) := by decide +kernel
theorem dX9_clashes_9 : decode cX9_clashes 9 = .ok (.invokevirtual 74, 3) := by decide +kernel
theorem dX9_clashes_12 : decode cX9_clashes 12 = .ok (.ireturn, 1) := by decide +kernel
theorem dX9_clashes_13 : decode cX9_clashes 13 = .ok (.iconst 0, 1) := by decide +kernel
theorem dX9_clashes_14 : decode cX9_clashes 14 = .ok (.istore_n 2, 1) := by decide +kernel
theorem dX9_clashes_15 : decode cX9_clashes 15 = .ok (.iconst 1, 1) := by decide +kernel
theorem dX9_clashes_16 : decode cX9_clashes 16 = .ok (.istore_n 3, 1) := by decide +kernel
theorem dX9_clashes_17 : decode cX9_clashes 17 = .ok (.iload_n 3, 1) := by decide +kernel
theorem dX9_clashes_18 : decode cX9_clashes 18 = .ok (.aload_n 0, 1) := by decide +kernel
theorem dX9_clashes_19 : decode cX9_clashes 19 = .ok (.getfield 19, 3) := by decide +kernel
theorem dX9_clashes_22 : decode cX9_clashes 22 = .ok (.invokevirtual 78, 3) := by decide +kernel
theorem dX9_clashes_25 : decode cX9_clashes 25 = .ok (.if_icmp .ge 86, 3) := by decide +kernel
theorem dX9_clashes_28 : decode cX9_clashes 28 = .ok (.aload_n 0, 1) := by decide +kernel
theorem dX9_clashes_29 : decode cX9_clashes 29 = .ok (.getfield 19, 3) := by decide +kernel
theorem dX9_clashes_32 : decode cX9_clashes 32 = .ok (.iload_n 3, 1) := by decide +kernel
theorem dX9_clashes_33 : decode cX9_clashes 33 = .ok (.invokevirtual 190, 3) := by decide +kernel
theorem dX9_clashes_36 : decode cX9_clashes 36 = .ok (.checkcast 173, 3) := by decide +kernel
theorem dX9_clashes_39 : decode cX9_clashes 39 = .ok (.astore 4, 2) := by decide +kernel
theorem dX9_clashes_41 : decode cX9_clashes 41 = .ok (.aload 4, 2) := by decide +kernel
theorem dX9_clashes_43 : decode cX9_clashes 43 = .ok (.getfield 194, 3) := by decide +kernel
theorem dX9_clashes_46 : decode cX9_clashes 46 = .ok (.iload_n 1, 1) := by decide +kernel
theorem dX9_clashes_47 : decode cX9_clashes 47 = .ok (.if_icmp .eq 6, 3) := by decide +kernel
theorem dX9_clashes_50 : decode cX9_clashes 50 = .ok (.goto 55, 3) := by decide +kernel
theorem dX9_clashes_53 : decode cX9_clashes 53 = .ok (.iconst 0, 1) := by decide +kernel
theorem dX9_clashes_54 : decode cX9_clashes 54 = .ok (.istore 5, 2) := by decide +kernel
theorem dX9_clashes_56 : decode cX9_clashes 56 = .ok (.iload 5, 2) := by decide +kernel
theorem dX9_clashes_58 : decode cX9_clashes 58 = .ok (.iload_n 3, 1) := by decide +kernel
theorem dX9_clashes_59 : decode cX9_clashes 59 = .ok (.if_icmp .ge 46, 3) := by decide +kernel
theorem dX9_clashes_62 : decode cX9_clashes 62 = .ok (.aload_n 0, 1) := by decide +kernel
theorem dX9_clashes_63 : decode cX9_clashes 63 = .ok (.getfield 19, 3) := by decide +kernel
theorem dX9_clashes_66 : decode cX9_clashes 66 = .ok (.iload 5, 2) := by decide +kernel
theorem dX9_clashes_68 : decode cX9_clashes 68 = .ok (.invokevirtual 190, 3) := by decide +kernel
theorem dX9_clashes_71 : decode cX9_clashes 71 = .ok (.checkcast 173, 3) := by decide +kernel
theorem dX9_clashes_74 : decode cX9_clashes 74 = .ok (.astore 6, 2) := by decide +kernel
theorem dX9_clashes_76 : decode cX9_clashes 76 = .ok (.aload 6, 2) := by decide +kernel
theorem dX9_clashes_78 : decode cX9_clashes 78 = .ok (.getfield 194, 3) := by decide +kernel
theorem dX9_clashes_81 : decode cX9_clashes 81 = .ok (.iload_n 1, 1) := by decide +kernel
theorem dX9_clashes_82 : decode cX9_clashes 82 = .ok (.if_icmp .ne 17, 3) := by decide +kernel
theorem dX9_clashes_85 : decode cX9_clashes 85 = .ok (.aload_n 0, 1) := by decide +kernel
theorem dX9_clashes_86 : decode cX9_clashes 86 = .ok (.aload 6, 2) := by decide +kernel
theorem dX9_clashes_88 : decode cX9_clashes 88 = .ok (.aload 4, 2) := by decide +kernel
theorem dX9_clashes_90 : decode cX9_clashes 90 = .ok (.invokevirtual 197, 3) := by decide +kernel
theorem dX9_clashes_93 : decode cX9_clashes 93 = .ok (.ifCond .eq 6, 3) := by decide +kernel
theorem dX9_clashes_96 : decode cX9_clashes 96 = .ok (.iinc 2 1, 3) := by decide +kernel
theorem dX9_clashes_99 : decode cX9_clashes 99 = .ok (.iinc 5 1, 3) := by decide +kernel
theorem dX9_clashes_102 : decode cX9_clashes 102 = .ok (.goto (-46), 3) := by decide +kernel
theorem dX9_clashes_105 : decode cX9_clashes 105 = .ok (.iinc 3 1, 3) := by decide +kernel
theorem dX9_clashes_108 : decode cX9_clashes 108 = .ok (.goto (-91), 3) := by decide +kernel
theorem dX9_clashes_111 : decode cX9_clashes 111 = .ok (.iload_n 2, 1) := by decide +kernel
theorem dX9_clashes_112 : decode cX9_clashes 112 = .ok (.ireturn, 1) := by decide +kernel
theorem dX9_hours_0 : decode cX9_hours 0 = .ok (.iload_n 1, 1) := by decide +kernel
theorem dX9_hours_1 : decode cX9_hours 1 = .ok (.iconst 1, 1) := by decide +kernel
theorem dX9_hours_2 : decode cX9_hours 2 = .ok (.if_icmp .ge 10, 3) := by decide +kernel
theorem dX9_hours_5 : decode cX9_hours 5 = .ok (.aload_n 0, 1) := by decide +kernel
theorem dX9_hours_6 : decode cX9_hours 6 = .ok (.bipush (-4), 2) := by decide +kernel
theorem dX9_hours_8 : decode cX9_hours 8 = .ok (.invokevirtual 74, 3) := by decide +kernel
theorem dX9_hours_11 : decode cX9_hours 11 = .ok (.ireturn, 1) := by decide +kernel
theorem dX9_hours_12 : decode cX9_hours 12 = .ok (.iload_n 1, 1) := by decide +kernel
theorem dX9_hours_13 : decode cX9_hours 13 = .ok (.sipush 5000, 3) := by decide +kernel
theorem dX9_hours_16 : decode cX9_hours 16 = .ok (.aload_n 0, 1) := by decide +kernel
theorem dX9_hours_17 : decode cX9_hours 17 = .ok (.getfield 201, 3) := by decide +kernel
theorem dX9_hours_20 : decode cX9_hours 20 = .ok (.isub, 1) := by decide +kernel
theorem dX9_hours_21 : decode cX9_hours 21 = .ok (.if_icmp .le 10, 3) := by decide +kernel
theorem dX9_hours_24 : decode cX9_hours 24 = .ok (.aload_n 0, 1) := by decide +kernel
theorem dX9_hours_25 : decode cX9_hours 25 = .ok (.bipush (-6), 2) := by decide +kernel
theorem dX9_hours_27 : decode cX9_hours 27 = .ok (.invokevirtual 74, 3) := by decide +kernel
theorem dX9_hours_30 : decode cX9_hours 30 = .ok (.ireturn, 1) := by decide +kernel
theorem dX9_hours_31 : decode cX9_hours 31 = .ok (.iconst 0, 1) := by decide +kernel
theorem dX9_hours_32 : decode cX9_hours 32 = .ok (.istore_n 2, 1) := by decide +kernel
theorem dX9_hours_33 : decode cX9_hours 33 = .ok (.iload_n 2, 1) := by decide +kernel
theorem dX9_hours_34 : decode cX9_hours 34 = .ok (.iload_n 1, 1) := by decide +kernel
theorem dX9_hours_35 : decode cX9_hours 35 = .ok (.if_icmp .ge 13, 3) := by decide +kernel
theorem dX9_hours_38 : decode cX9_hours 38 = .ok (.aload_n 0, 1) := by decide +kernel
theorem dX9_hours_39 : decode cX9_hours 39 = .ok (.invokevirtual 204, 3) := by decide +kernel
theorem dX9_hours_42 : decode cX9_hours 42 = .ok (.iinc 2 1, 3) := by decide +kernel
theorem dX9_hours_45 : decode cX9_hours 45 = .ok (.goto (-12), 3) := by decide +kernel
theorem dX9_hours_48 : decode cX9_hours 48 = .ok (.aload_n 0, 1) := by decide +kernel
theorem dX9_hours_49 : decode cX9_hours 49 = .ok (.getfield 201, 3) := by decide +kernel
theorem dX9_hours_52 : decode cX9_hours 52 = .ok (.ireturn, 1) := by decide +kernel
theorem dX9_iron_0 : decode cX9_iron 0 = .ok (.aload_n 0, 1) := by decide +kernel
theorem dX9_iron_1 : decode cX9_iron 1 = .ok (.iload_n 1, 1) := by decide +kernel
theorem dX9_iron_2 : decode cX9_iron 2 = .ok (.invokevirtual 105, 3) := by decide +kernel
theorem dX9_iron_5 : decode cX9_iron 5 = .ok (.astore_n 2, 1) := by decide +kernel
theorem dX9_iron_6 : decode cX9_iron 6 = .ok (.aload_n 2, 1) := by decide +kernel
theorem dX9_iron_7 : decode cX9_iron 7 = .ok (.ifnonnull 9, 3) := by decide +kernel
theorem dX9_iron_10 : decode cX9_iron 10 = .ok (.aload_n 0, 1) := by decide +kernel
theorem dX9_iron_11 : decode cX9_iron 11 = .ok (.iconst (-1), 1) := by decide +kernel
theorem dX9_iron_12 : decode cX9_iron 12 = .ok (.invokevirtual 74, 3) := by decide +kernel
theorem dX9_iron_15 : decode cX9_iron 15 = .ok (.ireturn, 1) := by decide +kernel
theorem dX9_iron_16 : decode cX9_iron 16 = .ok (.aload_n 2, 1) := by decide +kernel
theorem dX9_iron_17 : decode cX9_iron 17 = .ok (.getfield 207, 3) := by decide +kernel
theorem dX9_iron_20 : decode cX9_iron 20 = .ok (.ifCond .eq 10, 3) := by decide +kernel
theorem dX9_iron_23 : decode cX9_iron 23 = .ok (.aload_n 0, 1) := by decide +kernel
theorem dX9_iron_24 : decode cX9_iron 24 = .ok (.bipush (-3), 2) := by decide +kernel
theorem dX9_iron_26 : decode cX9_iron 26 = .ok (.invokevirtual 74, 3) := by decide +kernel
theorem dX9_iron_29 : decode cX9_iron 29 = .ok (.ireturn, 1) := by decide +kernel
theorem dX9_iron_30 : decode cX9_iron 30 = .ok (.aload_n 2, 1) := by decide +kernel
theorem dX9_iron_31 : decode cX9_iron 31 = .ok (.iconst 1, 1) := by decide +kernel
theorem dX9_iron_32 : decode cX9_iron 32 = .ok (.putfield 207, 3) := by decide +kernel
theorem dX9_iron_35 : decode cX9_iron 35 = .ok (.aload_n 2, 1) := by decide +kernel
theorem dX9_iron_36 : decode cX9_iron 36 = .ok (.aload_n 0, 1) := by decide +kernel
theorem dX9_iron_37 : decode cX9_iron 37 = .ok (.invokevirtual 84, 3) := by decide +kernel
theorem dX9_iron_40 : decode cX9_iron 40 = .ok (.invokevirtual 210, 3) := by decide +kernel
theorem dX9_iron_43 : decode cX9_iron 43 = .ok (.ireturn, 1) := by decide +kernel
theorem dX9_renew_0 : decode cX9_renew 0 = .ok (.aload_n 0, 1) := by decide +kernel
theorem dX9_renew_1 : decode cX9_renew 1 = .ok (.iload_n 1, 1) := by decide +kernel
theorem dX9_renew_2 : decode cX9_renew 2 = .ok (.invokevirtual 105, 3) := by decide +kernel
theorem dX9_renew_5 : decode cX9_renew 5 = .ok (.astore_n 2, 1) := by decide +kernel
theorem dX9_renew_6 : decode cX9_renew 6 = .ok (.aload_n 2, 1) := by decide +kernel
theorem dX9_renew_7 : decode cX9_renew 7 = .ok (.ifnonnull 9, 3) := by decide +kernel
theorem dX9_renew_10 : decode cX9_renew 10 = .ok (.aload_n 0, 1) := by decide +kernel
theorem dX9_renew_11 : decode cX9_renew 11 = .ok (.iconst (-1), 1) := by decide +kernel
theorem dX9_renew_12 : decode cX9_renew 12 = .ok (.invokevirtual 74, 3) := by decide +kernel
theorem dX9_renew_15 : decode cX9_renew 15 = .ok (.ireturn, 1) := by decide +kernel
theorem dX9_renew_16 : decode cX9_renew 16 = .ok (.aload_n 2, 1) := by decide +kernel
theorem dX9_renew_17 : decode cX9_renew 17 = .ok (.getfield 207, 3) := by decide +kernel
theorem dX9_renew_20 : decode cX9_renew 20 = .ok (.ifCond .eq 10, 3) := by decide +kernel
theorem dX9_renew_23 : decode cX9_renew 23 = .ok (.aload_n 0, 1) := by decide +kernel
theorem dX9_renew_24 : decode cX9_renew 24 = .ok (.bipush (-3), 2) := by decide +kernel
theorem dX9_renew_26 : decode cX9_renew 26 = .ok (.invokevirtual 74, 3) := by decide +kernel
theorem dX9_renew_29 : decode cX9_renew 29 = .ok (.ireturn, 1) := by decide +kernel
theorem dX9_renew_30 : decode cX9_renew 30 = .ok (.aload_n 2, 1) := by decide +kernel
theorem dX9_renew_31 : decode cX9_renew 31 = .ok (.aload_n 0, 1) := by decide +kernel
theorem dX9_renew_32 : decode cX9_renew 32 = .ok (.invokevirtual 84, 3) := by decide +kernel
theorem dX9_renew_35 : decode cX9_renew 35 = .ok (.invokevirtual 210, 3) := by decide +kernel
theorem dX9_renew_38 : decode cX9_renew 38 = .ok (.ireturn, 1) := by decide +kernel
theorem dX9_stand_0 : decode cX9_stand 0 = .ok (.iload_n 1, 1) := by decide +kernel
theorem dX9_stand_1 : decode cX9_stand 1 = .ok (.invokestatic 170, 3) := by decide +kernel
theorem dX9_stand_4 : decode cX9_stand 4 = .ok (.ifCond .eq 11, 3) := by decide +kernel
theorem dX9_stand_7 : decode cX9_stand 7 = .ok (.aload_n 0, 1) := by decide +kernel
theorem dX9_stand_8 : decode cX9_stand 8 = .ok (.iload_n 2, 1) := by decide +kernel
theorem dX9_stand_9 : decode cX9_stand 9 = .ok (.invokevirtual 70, 3) := by decide +kernel
theorem dX9_stand_12 : decode cX9_stand 12 = .ok (.ifCond .ne 9, 3) := by decide +kernel
theorem dX9_stand_15 : decode cX9_stand 15 = .ok (.aload_n 0, 1) := by decide +kernel
theorem dX9_stand_16 : decode cX9_stand 16 = .ok (.iconst (-1), 1) := by decide +kernel
theorem dX9_stand_17 : decode cX9_stand 17 = .ok (.invokevirtual 150, 3) := by decide +kernel
theorem dX9_stand_20 : decode cX9_stand 20 = .ok (.ireturn, 1) := by decide +kernel
theorem dX9_stand_21 : decode cX9_stand 21 = .ok (.aload_n 0, 1) := by decide +kernel
theorem dX9_stand_22 : decode cX9_stand 22 = .ok (.getfield 31, 3) := by decide +kernel
theorem dX9_stand_25 : decode cX9_stand 25 = .ok (.iload_n 1, 1) := by decide +kernel
theorem dX9_stand_26 : decode cX9_stand 26 = .ok (.iaload, 1) := by decide +kernel
theorem dX9_stand_27 : decode cX9_stand 27 = .ok (.istore_n 3, 1) := by decide +kernel
theorem dX9_stand_28 : decode cX9_stand 28 = .ok (.aload_n 0, 1) := by decide +kernel
theorem dX9_stand_29 : decode cX9_stand 29 = .ok (.getfield 31, 3) := by decide +kernel
theorem dX9_stand_32 : decode cX9_stand 32 = .ok (.iload_n 1, 1) := by decide +kernel
theorem dX9_stand_33 : decode cX9_stand 33 = .ok (.iload_n 2, 1) := by decide +kernel
theorem dX9_stand_34 : decode cX9_stand 34 = .ok (.iastore, 1) := by decide +kernel
theorem dX9_stand_35 : decode cX9_stand 35 = .ok (.iload_n 3, 1) := by decide +kernel
theorem dX9_stand_36 : decode cX9_stand 36 = .ok (.ireturn, 1) := by decide +kernel
theorem dX9_way_0 : decode cX9_way 0 = .ok (.aload_n 0, 1) := by decide +kernel
theorem dX9_way_1 : decode cX9_way 1 = .ok (.iload_n 1, 1) := by decide +kernel
theorem dX9_way_2 : decode cX9_way 2 = .ok (.invokevirtual 70, 3) := by decide +kernel
theorem dX9_way_5 : decode cX9_way 5 = .ok (.ifCond .eq 11, 3) := by decide +kernel
theorem dX9_way_8 : decode cX9_way 8 = .ok (.aload_n 0, 1) := by decide +kernel
theorem dX9_way_9 : decode cX9_way 9 = .ok (.iload_n 2, 1) := by decide +kernel
theorem dX9_way_10 : decode cX9_way 10 = .ok (.invokevirtual 70, 3) := by decide +kernel
theorem dX9_way_13 : decode cX9_way 13 = .ok (.ifCond .ne 9, 3) := by decide +kernel
theorem dX9_way_16 : decode cX9_way 16 = .ok (.aload_n 0, 1) := by decide +kernel
theorem dX9_way_17 : decode cX9_way 17 = .ok (.iconst (-1), 1) := by decide +kernel
theorem dX9_way_18 : decode cX9_way 18 = .ok (.invokevirtual 74, 3) := by decide +kernel
theorem dX9_way_21 : decode cX9_way 21 = .ok (.ireturn, 1) := by decide +kernel
theorem dX9_way_22 : decode cX9_way 22 = .ok (.aload_n 0, 1) := by decide +kernel
theorem dX9_way_23 : decode cX9_way 23 = .ok (.iload_n 1, 1) := by decide +kernel
theorem dX9_way_24 : decode cX9_way 24 = .ok (.iload_n 2, 1) := by decide +kernel
theorem dX9_way_25 : decode cX9_way 25 = .ok (.invokevirtual 213, 3) := by decide +kernel
theorem dX9_way_28 : decode cX9_way 28 = .ok (.ireturn, 1) := by decide +kernel
theorem dX9_fire_0 : decode cX9_fire 0 = .ok (.aload_n 0, 1) := by decide +kernel
theorem dX9_fire_1 : decode cX9_fire 1 = .ok (.iload_n 1, 1) := by decide +kernel
theorem dX9_fire_2 : decode cX9_fire 2 = .ok (.invokevirtual 105, 3) := by decide +kernel
theorem dX9_fire_5 : decode cX9_fire 5 = .ok (.astore_n 3, 1) := by decide +kernel
theorem dX9_fire_6 : decode cX9_fire 6 = .ok (.aload_n 3, 1) := by decide +kernel
theorem dX9_fire_7 : decode cX9_fire 7 = .ok (.ifnonnull 9, 3) := by decide +kernel
theorem dX9_fire_10 : decode cX9_fire 10 = .ok (.aload_n 0, 1) := by decide +kernel
theorem dX9_fire_11 : decode cX9_fire 11 = .ok (.iconst (-1), 1) := by decide +kernel
theorem dX9_fire_12 : decode cX9_fire 12 = .ok (.invokevirtual 74, 3) := by decide +kernel
theorem dX9_fire_15 : decode cX9_fire 15 = .ok (.ireturn, 1) := by decide +kernel
theorem dX9_fire_16 : decode cX9_fire 16 = .ok (.aload_n 3, 1) := by decide +kernel
theorem dX9_fire_17 : decode cX9_fire 17 = .ok (.getfield 156, 3) := by decide +kernel
theorem dX9_fire_20 : decode cX9_fire 20 = .ok (.ifCond .ne 10, 3) := by decide +kernel
theorem dX9_fire_23 : decode cX9_fire 23 = .ok (.aload_n 0, 1) := by decide +kernel
theorem dX9_fire_24 : decode cX9_fire 24 = .ok (.bipush (-5), 2) := by decide +kernel
theorem dX9_fire_26 : decode cX9_fire 26 = .ok (.invokevirtual 74, 3) := by decide +kernel
theorem dX9_fire_29 : decode cX9_fire 29 = .ok (.ireturn, 1) := by decide +kernel
theorem dX9_fire_30 : decode cX9_fire 30 = .ok (.aload_n 3, 1) := by decide +kernel
theorem dX9_fire_31 : decode cX9_fire 31 = .ok (.getfield 156, 3) := by decide +kernel
theorem dX9_fire_34 : decode cX9_fire 34 = .ok (.iconst 2, 1) := by decide +kernel
theorem dX9_fire_35 : decode cX9_fire 35 = .ok (.if_icmp .eq 12, 3) := by decide +kernel
theorem dX9_fire_38 : decode cX9_fire 38 = .ok (.iload_n 2, 1) := by decide +kernel
theorem dX9_fire_39 : decode cX9_fire 39 = .ok (.ifCond .lt 8, 3) := by decide +kernel
theorem dX9_fire_42 : decode cX9_fire 42 = .ok (.iload_n 2, 1) := by decide +kernel
theorem dX9_fire_43 : decode cX9_fire 43 = .ok (.iconst 2, 1) := by decide +kernel
theorem dX9_fire_44 : decode cX9_fire 44 = .ok (.if_icmp .le 10, 3) := by decide +kernel
theorem dX9_fire_47 : decode cX9_fire 47 = .ok (.aload_n 0, 1) := by decide +kernel
theorem dX9_fire_48 : decode cX9_fire 48 = .ok (.bipush (-2), 2) := by decide +kernel
theorem dX9_fire_50 : decode cX9_fire 50 = .ok (.invokevirtual 74, 3) := by decide +kernel
theorem dX9_fire_53 : decode cX9_fire 53 = .ok (.ireturn, 1) := by decide +kernel
theorem dX9_fire_54 : decode cX9_fire 54 = .ok (.aload_n 0, 1) := by decide +kernel
theorem dX9_fire_55 : decode cX9_fire 55 = .ok (.iload_n 1, 1) := by decide +kernel
theorem dX9_fire_56 : decode cX9_fire 56 = .ok (.invokevirtual 217, 3) := by decide +kernel
theorem dX9_fire_59 : decode cX9_fire 59 = .ok (.istore 4, 2) := by decide +kernel
theorem dX9_fire_61 : decode cX9_fire 61 = .ok (.iload 4, 2) := by decide +kernel
theorem dX9_fire_63 : decode cX9_fire 63 = .ok (.ifCond .ne 5, 3) := by decide +kernel
theorem dX9_fire_66 : decode cX9_fire 66 = .ok (.iconst 0, 1) := by decide +kernel
theorem dX9_fire_67 : decode cX9_fire 67 = .ok (.ireturn, 1) := by decide +kernel
theorem dX9_fire_68 : decode cX9_fire 68 = .ok (.iload 4, 2) := by decide +kernel
theorem dX9_fire_70 : decode cX9_fire 70 = .ok (.invokestatic 220, 3) := by decide +kernel
theorem dX9_fire_73 : decode cX9_fire 73 = .ok (.istore 5, 2) := by decide +kernel
theorem dX9_fire_75 : decode cX9_fire 75 = .ok (.iload_n 2, 1) := by decide +kernel
theorem dX9_fire_76 : decode cX9_fire 76 = .ok (.iconst 2, 1) := by decide +kernel
theorem dX9_fire_77 : decode cX9_fire 77 = .ok (.if_icmp .ne 6, 3) := by decide +kernel
theorem dX9_fire_80 : decode cX9_fire 80 = .ok (.iload 5, 2) := by decide +kernel
theorem dX9_fire_82 : decode cX9_fire 82 = .ok (.ireturn, 1) := by decide +kernel
theorem dX9_fire_83 : decode cX9_fire 83 = .ok (.aload_n 0, 1) := by decide +kernel
theorem dX9_fire_84 : decode cX9_fire 84 = .ok (.iload 4, 2) := by decide +kernel
theorem dX9_fire_86 : decode cX9_fire 86 = .ok (.invokevirtual 225, 3) := by decide +kernel
theorem dX9_fire_89 : decode cX9_fire 89 = .ok (.istore 6, 2) := by decide +kernel
theorem dX9_fire_91 : decode cX9_fire 91 = .ok (.iload_n 2, 1) := by decide +kernel
theorem dX9_fire_92 : decode cX9_fire 92 = .ok (.iconst 1, 1) := by decide +kernel
theorem dX9_fire_93 : decode cX9_fire 93 = .ok (.if_icmp .ne 6, 3) := by decide +kernel
theorem dX9_fire_96 : decode cX9_fire 96 = .ok (.iload 6, 2) := by decide +kernel
theorem dX9_fire_98 : decode cX9_fire 98 = .ok (.ireturn, 1) := by decide +kernel
theorem dX9_fire_99 : decode cX9_fire 99 = .ok (.iconst 4, 1) := by decide +kernel
theorem dX9_fire_100 : decode cX9_fire 100 = .ok (.aload_n 0, 1) := by decide +kernel
theorem dX9_fire_101 : decode cX9_fire 101 = .ok (.iload 6, 2) := by decide +kernel
theorem dX9_fire_103 : decode cX9_fire 103 = .ok (.iload 4, 2) := by decide +kernel
theorem dX9_fire_105 : decode cX9_fire 105 = .ok (.invokevirtual 228, 3) := by decide +kernel
theorem dX9_fire_108 : decode cX9_fire 108 = .ok (.imul, 1) := by decide +kernel
theorem dX9_fire_109 : decode cX9_fire 109 = .ok (.iconst 2, 1) := by decide +kernel
theorem dX9_fire_110 : decode cX9_fire 110 = .ok (.iload 5, 2) := by decide +kernel
theorem dX9_fire_112 : decode cX9_fire 112 = .ok (.imul, 1) := by decide +kernel
theorem dX9_fire_113 : decode cX9_fire 113 = .ok (.iadd, 1) := by decide +kernel
theorem dX9_fire_114 : decode cX9_fire 114 = .ok (.ireturn, 1) := by decide +kernel
theorem dX9_reading_0 : decode cX9_reading 0 = .ok (.aload_n 0, 1) := by decide +kernel
theorem dX9_reading_1 : decode cX9_reading 1 = .ok (.iload_n 1, 1) := by decide +kernel
theorem dX9_reading_2 : decode cX9_reading 2 = .ok (.invokevirtual 105, 3) := by decide +kernel
theorem dX9_reading_5 : decode cX9_reading 5 = .ok (.astore 5, 2) := by decide +kernel
theorem dX9_reading_7 : decode cX9_reading 7 = .ok (.aload 5, 2) := by decide +kernel
theorem dX9_reading_9 : decode cX9_reading 9 = .ok (.ifnonnull 9, 3) := by decide +kernel
theorem dX9_reading_12 : decode cX9_reading 12 = .ok (.aload_n 0, 1) := by decide +kernel
theorem dX9_reading_13 : decode cX9_reading 13 = .ok (.iconst (-1), 1) := by decide +kernel
theorem dX9_reading_14 : decode cX9_reading 14 = .ok (.invokevirtual 74, 3) := by decide +kernel
theorem dX9_reading_17 : decode cX9_reading 17 = .ok (.ireturn, 1) := by decide +kernel
theorem dX9_reading_18 : decode cX9_reading 18 = .ok (.iload_n 2, 1) := by decide +kernel
theorem dX9_reading_19 : decode cX9_reading 19 = .ok (.ifCond .lt 12, 3) := by decide +kernel
theorem dX9_reading_22 : decode cX9_reading 22 = .ok (.iload_n 3, 1) := by decide +kernel
theorem dX9_reading_23 : decode cX9_reading 23 = .ok (.ifCond .lt 8, 3) := by decide +kernel
theorem dX9_reading_26 : decode cX9_reading 26 = .ok (.iload 4, 2) := by decide +kernel
theorem dX9_reading_28 : decode cX9_reading 28 = .ok (.ifCond .ge 10, 3) := by decide +kernel
theorem dX9_reading_31 : decode cX9_reading 31 = .ok (.aload_n 0, 1) := by decide +kernel
theorem dX9_reading_32 : decode cX9_reading 32 = .ok (.bipush (-4), 2) := by decide +kernel
theorem dX9_reading_34 : decode cX9_reading 34 = .ok (.invokevirtual 74, 3) := by decide +kernel
theorem dX9_reading_37 : decode cX9_reading 37 = .ok (.ireturn, 1) := by decide +kernel
theorem dX9_reading_38 : decode cX9_reading 38 = .ok (.iload_n 2, 1) := by decide +kernel
theorem dX9_reading_39 : decode cX9_reading 39 = .ok (.sipush 5000, 3) := by decide +kernel
theorem dX9_reading_42 : decode cX9_reading 42 = .ok (.if_icmp .gt 17, 3) := by decide +kernel
theorem dX9_reading_45 : decode cX9_reading 45 = .ok (.iload_n 3, 1) := by decide +kernel
theorem dX9_reading_46 : decode cX9_reading 46 = .ok (.sipush 5000, 3) := by decide +kernel
theorem dX9_reading_49 : decode cX9_reading 49 = .ok (.if_icmp .gt 10, 3) := by decide +kernel
theorem dX9_reading_52 : decode cX9_reading 52 = .ok (.iload 4, 2) := by decide +kernel
theorem dX9_reading_54 : decode cX9_reading 54 = .ok (.bipush 50, 2) := by decide +kernel
theorem dX9_reading_56 : decode cX9_reading 56 = .ok (.if_icmp .le 10, 3) := by decide +kernel
theorem dX9_reading_59 : decode cX9_reading 59 = .ok (.aload_n 0, 1) := by decide +kernel
theorem dX9_reading_60 : decode cX9_reading 60 = .ok (.bipush (-6), 2) := by decide +kernel
theorem dX9_reading_62 : decode cX9_reading 62 = .ok (.invokevirtual 74, 3) := by decide +kernel
theorem dX9_reading_65 : decode cX9_reading 65 = .ok (.ireturn, 1) := by decide +kernel
theorem dX9_reading_66 : decode cX9_reading 66 = .ok (.aload_n 0, 1) := by decide +kernel
theorem dX9_reading_67 : decode cX9_reading 67 = .ok (.getfield 231, 3) := by decide +kernel
theorem dX9_reading_70 : decode cX9_reading 70 = .ok (.bipush 40, 2) := by decide +kernel
theorem dX9_reading_72 : decode cX9_reading 72 = .ok (.if_icmp .lt 10, 3) := by decide +kernel
theorem dX9_reading_75 : decode cX9_reading 75 = .ok (.aload_n 0, 1) := by decide +kernel
theorem dX9_reading_76 : decode cX9_reading 76 = .ok (.bipush (-6), 2) := by decide +kernel
theorem dX9_reading_78 : decode cX9_reading 78 = .ok (.invokevirtual 74, 3) := by decide +kernel
theorem dX9_reading_81 : decode cX9_reading 81 = .ok (.ireturn, 1) := by decide +kernel
theorem dX9_reading_82 : decode cX9_reading 82 = .ok (.aload 5, 2) := by decide +kernel
theorem dX9_reading_84 : decode cX9_reading 84 = .ok (.iload_n 2, 1) := by decide +kernel
theorem dX9_reading_85 : decode cX9_reading 85 = .ok (.iload_n 3, 1) := by decide +kernel
theorem dX9_reading_86 : decode cX9_reading 86 = .ok (.isub, 1) := by decide +kernel
theorem dX9_reading_87 : decode cX9_reading 87 = .ok (.iload 4, 2) := by decide +kernel
theorem dX9_reading_89 : decode cX9_reading 89 = .ok (.isub, 1) := by decide +kernel
theorem dX9_reading_90 : decode cX9_reading 90 = .ok (.iload_n 2, 1) := by decide +kernel
theorem dX9_reading_91 : decode cX9_reading 91 = .ok (.iload_n 3, 1) := by decide +kernel
theorem dX9_reading_92 : decode cX9_reading 92 = .ok (.isub, 1) := by decide +kernel
theorem dX9_reading_93 : decode cX9_reading 93 = .ok (.iload 4, 2) := by decide +kernel
theorem dX9_reading_95 : decode cX9_reading 95 = .ok (.iadd, 1) := by decide +kernel
theorem dX9_reading_96 : decode cX9_reading 96 = .ok (.invokevirtual 234, 3) := by decide +kernel
theorem dX9_reading_99 : decode cX9_reading 99 = .ok (.aload_n 0, 1) := by decide +kernel
theorem dX9_reading_100 : decode cX9_reading 100 = .ok (.dup, 1) := by decide +kernel
theorem dX9_reading_101 : decode cX9_reading 101 = .ok (.getfield 231, 3) := by decide +kernel
theorem dX9_reading_104 : decode cX9_reading 104 = .ok (.iconst 1, 1) := by decide +kernel
theorem dX9_reading_105 : decode cX9_reading 105 = .ok (.iadd, 1) := by decide +kernel
theorem dX9_reading_106 : decode cX9_reading 106 = .ok (.putfield 231, 3) := by decide +kernel
theorem dX9_reading_109 : decode cX9_reading 109 = .ok (.aload_n 0, 1) := by decide +kernel
theorem dX9_reading_110 : decode cX9_reading 110 = .ok (.getfield 231, 3) := by decide +kernel
theorem dX9_reading_113 : decode cX9_reading 113 = .ok (.ireturn, 1) := by decide +kernel
theorem dX9_span_0 : decode cX9_span 0 = .ok (.aload_n 0, 1) := by decide +kernel
theorem dX9_span_1 : decode cX9_span 1 = .ok (.iload_n 1, 1) := by decide +kernel
theorem dX9_span_2 : decode cX9_span 2 = .ok (.invokevirtual 105, 3) := by decide +kernel
theorem dX9_span_5 : decode cX9_span 5 = .ok (.astore_n 3, 1) := by decide +kernel
theorem dX9_span_6 : decode cX9_span 6 = .ok (.aload_n 3, 1) := by decide +kernel
theorem dX9_span_7 : decode cX9_span 7 = .ok (.ifnonnull 9, 3) := by decide +kernel
theorem dX9_span_10 : decode cX9_span 10 = .ok (.aload_n 0, 1) := by decide +kernel
theorem dX9_span_11 : decode cX9_span 11 = .ok (.iconst (-1), 1) := by decide +kernel
theorem dX9_span_12 : decode cX9_span 12 = .ok (.invokevirtual 74, 3) := by decide +kernel
theorem dX9_span_15 : decode cX9_span 15 = .ok (.ireturn, 1) := by decide +kernel
theorem dX9_span_16 : decode cX9_span 16 = .ok (.iload_n 2, 1) := by decide +kernel
theorem dX9_span_17 : decode cX9_span 17 = .ok (.ifCond .lt 8, 3) := by decide +kernel
theorem dX9_span_20 : decode cX9_span 20 = .ok (.iload_n 2, 1) := by decide +kernel
theorem dX9_span_21 : decode cX9_span 21 = .ok (.iconst 1, 1) := by decide +kernel
theorem dX9_span_22 : decode cX9_span 22 = .ok (.if_icmp .le 10, 3) := by decide +kernel
theorem dX9_span_25 : decode cX9_span 25 = .ok (.aload_n 0, 1) := by decide +kernel
theorem dX9_span_26 : decode cX9_span 26 = .ok (.bipush (-2), 2) := by decide +kernel
theorem dX9_span_28 : decode cX9_span 28 = .ok (.invokevirtual 74, 3) := by decide +kernel
theorem dX9_span_31 : decode cX9_span 31 = .ok (.ireturn, 1) := by decide +kernel
theorem dX9_span_32 : decode cX9_span 32 = .ok (.aload_n 3, 1) := by decide +kernel
theorem dX9_span_33 : decode cX9_span 33 = .ok (.getfield 237, 3) := by decide +kernel
theorem dX9_span_36 : decode cX9_span 36 = .ok (.aload_n 3, 1) := by decide +kernel
theorem dX9_span_37 : decode cX9_span 37 = .ok (.getfield 240, 3) := by decide +kernel
theorem dX9_span_40 : decode cX9_span 40 = .ok (.if_icmp .le 6, 3) := by decide +kernel
theorem dX9_span_43 : decode cX9_span 43 = .ok (.bipush (-9), 2) := by decide +kernel
theorem dX9_span_45 : decode cX9_span 45 = .ok (.ireturn, 1) := by decide +kernel
theorem dX9_span_46 : decode cX9_span 46 = .ok (.iload_n 2, 1) := by decide +kernel
theorem dX9_span_47 : decode cX9_span 47 = .ok (.ifCond .ne 10, 3) := by decide +kernel
theorem dX9_span_50 : decode cX9_span 50 = .ok (.aload_n 3, 1) := by decide +kernel
theorem dX9_span_51 : decode cX9_span 51 = .ok (.getfield 237, 3) := by decide +kernel
theorem dX9_span_54 : decode cX9_span 54 = .ok (.goto 7, 3) := by decide +kernel
theorem dX9_span_57 : decode cX9_span 57 = .ok (.aload_n 3, 1) := by decide +kernel
theorem dX9_span_58 : decode cX9_span 58 = .ok (.getfield 240, 3) := by decide +kernel
theorem dX9_span_61 : decode cX9_span 61 = .ok (.ireturn, 1) := by decide +kernel
theorem dX9_best_0 : decode cX9_best 0 = .ok (.iload_n 1, 1) := by decide +kernel
theorem dX9_best_1 : decode cX9_best 1 = .ok (.invokestatic 243, 3) := by decide +kernel
theorem dX9_best_4 : decode cX9_best 4 = .ok (.istore_n 2, 1) := by decide +kernel
theorem dX9_best_5 : decode cX9_best 5 = .ok (.iload_n 2, 1) := by decide +kernel
theorem dX9_best_6 : decode cX9_best 6 = .ok (.ifCond .eq 9, 3) := by decide +kernel
theorem dX9_best_9 : decode cX9_best 9 = .ok (.aload_n 0, 1) := by decide +kernel
theorem dX9_best_10 : decode cX9_best 10 = .ok (.iload_n 2, 1) := by decide +kernel
theorem dX9_best_11 : decode cX9_best 11 = .ok (.invokevirtual 74, 3) := by decide +kernel
theorem dX9_best_14 : decode cX9_best 14 = .ok (.ireturn, 1) := by decide +kernel
theorem dX9_best_15 : decode cX9_best 15 = .ok (.aload_n 0, 1) := by decide +kernel
theorem dX9_best_16 : decode cX9_best 16 = .ok (.iload_n 1, 1) := by decide +kernel
theorem dX9_best_17 : decode cX9_best 17 = .ok (.invokevirtual 246, 3) := by decide +kernel
theorem dX9_best_20 : decode cX9_best 20 = .ok (.ireturn, 1) := by decide +kernel
theorem dX9_bestWorth_0 : decode cX9_bestWorth 0 = .ok (.iload_n 1, 1) := by decide +kernel
theorem dX9_bestWorth_1 : decode cX9_bestWorth 1 = .ok (.invokestatic 243, 3) := by decide +kernel
theorem dX9_bestWorth_4 : decode cX9_bestWorth 4 = .ok (.istore_n 2, 1) := by decide +kernel
theorem dX9_bestWorth_5 : decode cX9_bestWorth 5 = .ok (.iload_n 2, 1) := by decide +kernel
theorem dX9_bestWorth_6 : decode cX9_bestWorth 6 = .ok (.ifCond .eq 9, 3) := by decide +kernel
theorem dX9_bestWorth_9 : decode cX9_bestWorth 9 = .ok (.aload_n 0, 1) := by decide +kernel
theorem dX9_bestWorth_10 : decode cX9_bestWorth 10 = .ok (.iload_n 2, 1) := by decide +kernel
theorem dX9_bestWorth_11 : decode cX9_bestWorth 11 = .ok (.invokevirtual 74, 3) := by decide +kernel
theorem dX9_bestWorth_14 : decode cX9_bestWorth 14 = .ok (.ireturn, 1) := by decide +kernel
theorem dX9_bestWorth_15 : decode cX9_bestWorth 15 = .ok (.aload_n 0, 1) := by decide +kernel
theorem dX9_bestWorth_16 : decode cX9_bestWorth 16 = .ok (.getfield 58, 3) := by decide +kernel
theorem dX9_bestWorth_19 : decode cX9_bestWorth 19 = .ok (.aload_n 0, 1) := by decide +kernel
theorem dX9_bestWorth_20 : decode cX9_bestWorth 20 = .ok (.iload_n 1, 1) := by decide +kernel
theorem dX9_bestWorth_21 : decode cX9_bestWorth 21 = .ok (.invokevirtual 246, 3) := by decide +kernel
theorem dX9_bestWorth_24 : decode cX9_bestWorth 24 = .ok (.invokevirtual 249, 3) := by decide +kernel
theorem dX9_bestWorth_27 : decode cX9_bestWorth 27 = .ok (.ireturn, 1) := by decide +kernel
theorem dX9_days_0 : decode cX9_days 0 = .ok (.aload_n 0, 1) := by decide +kernel
theorem dX9_days_1 : decode cX9_days 1 = .ok (.iload_n 1, 1) := by decide +kernel
theorem dX9_days_2 : decode cX9_days 2 = .ok (.iload_n 2, 1) := by decide +kernel
theorem dX9_days_3 : decode cX9_days 3 = .ok (.invokevirtual 252, 3) := by decide +kernel
theorem dX9_days_6 : decode cX9_days 6 = .ok (.istore_n 3, 1) := by decide +kernel
theorem dX9_days_7 : decode cX9_days 7 = .ok (.iload_n 3, 1) := by decide +kernel
theorem dX9_days_8 : decode cX9_days 8 = .ok (.ifCond .eq 9, 3) := by decide +kernel
theorem dX9_days_11 : decode cX9_days 11 = .ok (.aload_n 0, 1) := by decide +kernel
theorem dX9_days_12 : decode cX9_days 12 = .ok (.iload_n 3, 1) := by decide +kernel
theorem dX9_days_13 : decode cX9_days 13 = .ok (.invokevirtual 74, 3) := by decide +kernel
theorem dX9_days_16 : decode cX9_days 16 = .ok (.ireturn, 1) := by decide +kernel
theorem dX9_days_17 : decode cX9_days 17 = .ok (.aload_n 0, 1) := by decide +kernel
theorem dX9_days_18 : decode cX9_days 18 = .ok (.iload_n 1, 1) := by decide +kernel
theorem dX9_days_19 : decode cX9_days 19 = .ok (.iload_n 2, 1) := by decide +kernel
theorem dX9_days_20 : decode cX9_days 20 = .ok (.invokevirtual 255, 3) := by decide +kernel
theorem dX9_days_23 : decode cX9_days 23 = .ok (.aload_n 0, 1) := by decide +kernel
theorem dX9_days_24 : decode cX9_days 24 = .ok (.getfield 65, 3) := by decide +kernel
theorem dX9_days_27 : decode cX9_days 27 = .ok (.getfield 258, 3) := by decide +kernel
theorem dX9_days_30 : decode cX9_days 30 = .ok (.ireturn, 1) := by decide +kernel
theorem dX9_dayOf_0 : decode cX9_dayOf 0 = .ok (.aload_n 0, 1) := by decide +kernel
theorem dX9_dayOf_1 : decode cX9_dayOf 1 = .ok (.iload_n 1, 1) := by decide +kernel
theorem dX9_dayOf_2 : decode cX9_dayOf 2 = .ok (.iload_n 2, 1) := by decide +kernel
theorem dX9_dayOf_3 : decode cX9_dayOf 3 = .ok (.invokevirtual 252, 3) := by decide +kernel
theorem dX9_dayOf_6 : decode cX9_dayOf 6 = .ok (.istore 4, 2) := by decide +kernel
theorem dX9_dayOf_8 : decode cX9_dayOf 8 = .ok (.iload 4, 2) := by decide +kernel
theorem dX9_dayOf_10 : decode cX9_dayOf 10 = .ok (.ifCond .eq 10, 3) := by decide +kernel
theorem dX9_dayOf_13 : decode cX9_dayOf 13 = .ok (.aload_n 0, 1) := by decide +kernel
theorem dX9_dayOf_14 : decode cX9_dayOf 14 = .ok (.iload 4, 2) := by decide +kernel
theorem dX9_dayOf_16 : decode cX9_dayOf 16 = .ok (.invokevirtual 74, 3) := by decide +kernel
theorem dX9_dayOf_19 : decode cX9_dayOf 19 = .ok (.ireturn, 1) := by decide +kernel
theorem dX9_dayOf_20 : decode cX9_dayOf 20 = .ok (.aload_n 0, 1) := by decide +kernel
theorem dX9_dayOf_21 : decode cX9_dayOf 21 = .ok (.iload_n 3, 1) := by decide +kernel
theorem dX9_dayOf_22 : decode cX9_dayOf 22 = .ok (.invokevirtual 105, 3) := by decide +kernel
theorem dX9_dayOf_25 : decode cX9_dayOf 25 = .ok (.ifnonnull 9, 3) := by decide +kernel
theorem dX9_dayOf_28 : decode cX9_dayOf 28 = .ok (.aload_n 0, 1) := by decide +kernel
theorem dX9_dayOf_29 : decode cX9_dayOf 29 = .ok (.iconst (-1), 1) := by decide +kernel
theorem dX9_dayOf_30 : decode cX9_dayOf 30 = .ok (.invokevirtual 74, 3) := by decide +kernel
theorem dX9_dayOf_33 : decode cX9_dayOf 33 = .ok (.ireturn, 1) := by decide +kernel
theorem dX9_dayOf_34 : decode cX9_dayOf 34 = .ok (.iload_n 1, 1) := by decide +kernel
theorem dX9_dayOf_35 : decode cX9_dayOf 35 = .ok (.iload_n 3, 1) := by decide +kernel
theorem dX9_dayOf_36 : decode cX9_dayOf 36 = .ok (.invokestatic 187, 3) := by decide +kernel
theorem dX9_dayOf_39 : decode cX9_dayOf 39 = .ok (.ifCond .ne 6, 3) := by decide +kernel
theorem dX9_dayOf_42 : decode cX9_dayOf 42 = .ok (.bipush (-9), 2) := by decide +kernel
theorem dX9_dayOf_44 : decode cX9_dayOf 44 = .ok (.ireturn, 1) := by decide +kernel
theorem dX9_dayOf_45 : decode cX9_dayOf 45 = .ok (.aload_n 0, 1) := by decide +kernel
theorem dX9_dayOf_46 : decode cX9_dayOf 46 = .ok (.iload_n 1, 1) := by decide +kernel
theorem dX9_dayOf_47 : decode cX9_dayOf 47 = .ok (.iload_n 2, 1) := by decide +kernel
theorem dX9_dayOf_48 : decode cX9_dayOf 48 = .ok (.invokevirtual 255, 3) := by decide +kernel
theorem dX9_dayOf_51 : decode cX9_dayOf 51 = .ok (.iload_n 1, 1) := by decide +kernel
theorem dX9_dayOf_52 : decode cX9_dayOf 52 = .ok (.iconst 1, 1) := by decide +kernel
theorem dX9_dayOf_53 : decode cX9_dayOf 53 = .ok (.iload_n 3, 1) := by decide +kernel
theorem dX9_dayOf_54 : decode cX9_dayOf 54 = .ok (.ishl, 1) := by decide +kernel
theorem dX9_dayOf_55 : decode cX9_dayOf 55 = .ok (.iconst 1, 1) := by decide +kernel
theorem dX9_dayOf_56 : decode cX9_dayOf 56 = .ok (.isub, 1) := by decide +kernel
theorem dX9_dayOf_57 : decode cX9_dayOf 57 = .ok (.iand, 1) := by decide +kernel
theorem dX9_dayOf_58 : decode cX9_dayOf 58 = .ok (.istore 5, 2) := by decide +kernel
theorem dX9_dayOf_60 : decode cX9_dayOf 60 = .ok (.aload_n 0, 1) := by decide +kernel
theorem dX9_dayOf_61 : decode cX9_dayOf 61 = .ok (.getfield 65, 3) := by decide +kernel
theorem dX9_dayOf_64 : decode cX9_dayOf 64 = .ok (.iload 5, 2) := by decide +kernel
theorem dX9_dayOf_66 : decode cX9_dayOf 66 = .ok (.invokestatic 220, 3) := by decide +kernel
theorem dX9_dayOf_69 : decode cX9_dayOf 69 = .ok (.invokevirtual 261, 3) := by decide +kernel
theorem dX9_dayOf_72 : decode cX9_dayOf 72 = .ok (.ireturn, 1) := by decide +kernel
theorem dX9_law_0 : decode cX9_law 0 = .ok (.iload_n 1, 1) := by decide +kernel
theorem dX9_law_1 : decode cX9_law 1 = .ok (.ifCond .lt 23, 3) := by decide +kernel
theorem dX9_law_4 : decode cX9_law 4 = .ok (.iload_n 2, 1) := by decide +kernel
theorem dX9_law_5 : decode cX9_law 5 = .ok (.ifCond .lt 19, 3) := by decide +kernel
theorem dX9_law_8 : decode cX9_law 8 = .ok (.iload_n 3, 1) := by decide +kernel
theorem dX9_law_9 : decode cX9_law 9 = .ok (.ifCond .lt 15, 3) := by decide +kernel
theorem dX9_law_12 : decode cX9_law 12 = .ok (.iload 4, 2) := by decide +kernel
theorem dX9_law_14 : decode cX9_law 14 = .ok (.aload_n 0, 1) := by decide +kernel
theorem dX9_law_15 : decode cX9_law 15 = .ok (.getfield 201, 3) := by decide +kernel
theorem dX9_law_18 : decode cX9_law 18 = .ok (.bipush 24, 2) := by decide +kernel
theorem dX9_law_20 : decode cX9_law 20 = .ok (.idiv, 1) := by decide +kernel
theorem dX9_law_21 : decode cX9_law 21 = .ok (.if_icmp .ge 10, 3) := by decide +kernel
theorem dX9_law_24 : decode cX9_law 24 = .ok (.aload_n 0, 1) := by decide +kernel
theorem dX9_law_25 : decode cX9_law 25 = .ok (.bipush (-4), 2) := by decide +kernel
theorem dX9_law_27 : decode cX9_law 27 = .ok (.invokevirtual 74, 3) := by decide +kernel
theorem dX9_law_30 : decode cX9_law 30 = .ok (.ireturn, 1) := by decide +kernel
theorem dX9_law_31 : decode cX9_law 31 = .ok (.iload_n 1, 1) := by decide +kernel
theorem dX9_law_32 : decode cX9_law 32 = .ok (.sipush 999, 3) := by decide +kernel
theorem dX9_law_35 : decode cX9_law 35 = .ok (.if_icmp .gt 15, 3) := by decide +kernel
theorem dX9_law_38 : decode cX9_law 38 = .ok (.iload_n 2, 1) := by decide +kernel
theorem dX9_law_39 : decode cX9_law 39 = .ok (.bipush 99, 2) := by decide +kernel
theorem dX9_law_41 : decode cX9_law 41 = .ok (.if_icmp .gt 9, 3) := by decide +kernel
theorem dX9_law_44 : decode cX9_law 44 = .ok (.iload_n 3, 1) := by decide +kernel
theorem dX9_law_45 : decode cX9_law 45 = .ok (.bipush 99, 2) := by decide +kernel
theorem dX9_law_47 : decode cX9_law 47 = .ok (.if_icmp .le 10, 3) := by decide +kernel
theorem dX9_law_50 : decode cX9_law 50 = .ok (.aload_n 0, 1) := by decide +kernel
theorem dX9_law_51 : decode cX9_law 51 = .ok (.bipush (-6), 2) := by decide +kernel
theorem dX9_law_53 : decode cX9_law 53 = .ok (.invokevirtual 74, 3) := by decide +kernel
theorem dX9_law_56 : decode cX9_law 56 = .ok (.ireturn, 1) := by decide +kernel
theorem dX9_law_57 : decode cX9_law 57 = .ok (.iload 4, 2) := by decide +kernel
theorem dX9_law_59 : decode cX9_law 59 = .ok (.sipush 300, 3) := by decide +kernel
theorem dX9_law_62 : decode cX9_law 62 = .ok (.if_icmp .gt 15, 3) := by decide +kernel
theorem dX9_law_65 : decode cX9_law 65 = .ok (.aload_n 0, 1) := by decide +kernel
theorem dX9_law_66 : decode cX9_law 66 = .ok (.getfield 22, 3) := by decide +kernel
theorem dX9_law_69 : decode cX9_law 69 = .ok (.invokevirtual 78, 3) := by decide +kernel
theorem dX9_law_72 : decode cX9_law 72 = .ok (.bipush 20, 2) := by decide +kernel
theorem dX9_law_74 : decode cX9_law 74 = .ok (.if_icmp .lt 10, 3) := by decide +kernel
theorem dX9_law_77 : decode cX9_law 77 = .ok (.aload_n 0, 1) := by decide +kernel
theorem dX9_law_78 : decode cX9_law 78 = .ok (.bipush (-6), 2) := by decide +kernel
theorem dX9_law_80 : decode cX9_law 80 = .ok (.invokevirtual 74, 3) := by decide +kernel
theorem dX9_law_83 : decode cX9_law 83 = .ok (.ireturn, 1) := by decide +kernel
theorem dX9_law_84 : decode cX9_law 84 = .ok (.aload_n 0, 1) := by decide +kernel
theorem dX9_law_85 : decode cX9_law 85 = .ok (.getfield 22, 3) := by decide +kernel
theorem dX9_law_88 : decode cX9_law 88 = .ok (.new 264, 3) := by decide +kernel
theorem dX9_law_91 : decode cX9_law 91 = .ok (.dup, 1) := by decide +kernel
theorem dX9_law_92 : decode cX9_law 92 = .ok (.iload_n 1, 1) := by decide +kernel
theorem dX9_law_93 : decode cX9_law 93 = .ok (.iload_n 2, 1) := by decide +kernel
theorem dX9_law_94 : decode cX9_law 94 = .ok (.iload_n 3, 1) := by decide +kernel
theorem dX9_law_95 : decode cX9_law 95 = .ok (.iload 4, 2) := by decide +kernel
theorem dX9_law_97 : decode cX9_law 97 = .ok (.invokespecial 266, 3) := by decide +kernel
theorem dX9_law_100 : decode cX9_law 100 = .ok (.invokevirtual 90, 3) := by decide +kernel
theorem dX9_law_103 : decode cX9_law 103 = .ok (.pop, 1) := by decide +kernel
theorem dX9_law_104 : decode cX9_law 104 = .ok (.aload_n 0, 1) := by decide +kernel
theorem dX9_law_105 : decode cX9_law 105 = .ok (.getfield 22, 3) := by decide +kernel
theorem dX9_law_108 : decode cX9_law 108 = .ok (.invokevirtual 78, 3) := by decide +kernel
theorem dX9_law_111 : decode cX9_law 111 = .ok (.iconst 1, 1) := by decide +kernel
theorem dX9_law_112 : decode cX9_law 112 = .ok (.isub, 1) := by decide +kernel
theorem dX9_law_113 : decode cX9_law 113 = .ok (.ireturn, 1) := by decide +kernel
theorem dX9_rate_0 : decode cX9_rate 0 = .ok (.aload_n 0, 1) := by decide +kernel
theorem dX9_rate_1 : decode cX9_rate 1 = .ok (.iload_n 1, 1) := by decide +kernel
theorem dX9_rate_2 : decode cX9_rate 2 = .ok (.invokevirtual 146, 3) := by decide +kernel
theorem dX9_rate_5 : decode cX9_rate 5 = .ok (.astore_n 3, 1) := by decide +kernel
theorem dX9_rate_6 : decode cX9_rate 6 = .ok (.aload_n 3, 1) := by decide +kernel
theorem dX9_rate_7 : decode cX9_rate 7 = .ok (.ifnonnull 9, 3) := by decide +kernel
theorem dX9_rate_10 : decode cX9_rate 10 = .ok (.aload_n 0, 1) := by decide +kernel
theorem dX9_rate_11 : decode cX9_rate 11 = .ok (.iconst (-1), 1) := by decide +kernel
theorem dX9_rate_12 : decode cX9_rate 12 = .ok (.invokevirtual 74, 3) := by decide +kernel
theorem dX9_rate_15 : decode cX9_rate 15 = .ok (.ireturn, 1) := by decide +kernel
theorem dX9_rate_16 : decode cX9_rate 16 = .ok (.iload_n 2, 1) := by decide +kernel
theorem dX9_rate_17 : decode cX9_rate 17 = .ok (.ifCond .ge 10, 3) := by decide +kernel
theorem dX9_rate_20 : decode cX9_rate 20 = .ok (.aload_n 0, 1) := by decide +kernel
theorem dX9_rate_21 : decode cX9_rate 21 = .ok (.bipush (-4), 2) := by decide +kernel
theorem dX9_rate_23 : decode cX9_rate 23 = .ok (.invokevirtual 74, 3) := by decide +kernel
theorem dX9_rate_26 : decode cX9_rate 26 = .ok (.ireturn, 1) := by decide +kernel
theorem dX9_rate_27 : decode cX9_rate 27 = .ok (.iload_n 2, 1) := by decide +kernel
theorem dX9_rate_28 : decode cX9_rate 28 = .ok (.sipush 300, 3) := by decide +kernel
theorem dX9_rate_31 : decode cX9_rate 31 = .ok (.if_icmp .le 10, 3) := by decide +kernel
theorem dX9_rate_34 : decode cX9_rate 34 = .ok (.aload_n 0, 1) := by decide +kernel
theorem dX9_rate_35 : decode cX9_rate 35 = .ok (.bipush (-6), 2) := by decide +kernel
theorem dX9_rate_37 : decode cX9_rate 37 = .ok (.invokevirtual 74, 3) := by decide +kernel
theorem dX9_rate_40 : decode cX9_rate 40 = .ok (.ireturn, 1) := by decide +kernel
theorem dX9_rate_41 : decode cX9_rate 41 = .ok (.aload_n 0, 1) := by decide +kernel
theorem dX9_rate_42 : decode cX9_rate 42 = .ok (.iload_n 2, 1) := by decide +kernel
theorem dX9_rate_43 : decode cX9_rate 43 = .ok (.invokevirtual 267, 3) := by decide +kernel
theorem dX9_rate_46 : decode cX9_rate 46 = .ok (.astore 4, 2) := by decide +kernel
theorem dX9_rate_48 : decode cX9_rate 48 = .ok (.aload 4, 2) := by decide +kernel
theorem dX9_rate_50 : decode cX9_rate 50 = .ok (.ifnonnull 7, 3) := by decide +kernel
theorem dX9_rate_53 : decode cX9_rate 53 = .ok (.iconst 0, 1) := by decide +kernel
theorem dX9_rate_54 : decode cX9_rate 54 = .ok (.goto 9, 3) := by decide +kernel
theorem dX9_rate_57 : decode cX9_rate 57 = .ok (.aload 4, 2) := by decide +kernel
theorem dX9_rate_59 : decode cX9_rate 59 = .ok (.aload_n 3, 1) := by decide +kernel
theorem dX9_rate_60 : decode cX9_rate 60 = .ok (.invokevirtual 271, 3) := by decide +kernel
theorem dX9_rate_63 : decode cX9_rate 63 = .ok (.ireturn, 1) := by decide +kernel
theorem dX9_houseOf_0 : decode cX9_houseOf 0 = .ok (.aload_n 0, 1) := by decide +kernel
theorem dX9_houseOf_1 : decode cX9_houseOf 1 = .ok (.iload_n 1, 1) := by decide +kernel
theorem dX9_houseOf_2 : decode cX9_houseOf 2 = .ok (.invokevirtual 146, 3) := by decide +kernel
theorem dX9_houseOf_5 : decode cX9_houseOf 5 = .ok (.astore_n 3, 1) := by decide +kernel
theorem dX9_houseOf_6 : decode cX9_houseOf 6 = .ok (.aload_n 3, 1) := by decide +kernel
theorem dX9_houseOf_7 : decode cX9_houseOf 7 = .ok (.ifnonnull 9, 3) := by decide +kernel
theorem dX9_houseOf_10 : decode cX9_houseOf 10 = .ok (.aload_n 0, 1) := by decide +kernel
theorem dX9_houseOf_11 : decode cX9_houseOf 11 = .ok (.iconst (-1), 1) := by decide +kernel
theorem dX9_houseOf_12 : decode cX9_houseOf 12 = .ok (.invokevirtual 74, 3) := by decide +kernel
theorem dX9_houseOf_15 : decode cX9_houseOf 15 = .ok (.ireturn, 1) := by decide +kernel
theorem dX9_houseOf_16 : decode cX9_houseOf 16 = .ok (.iload_n 2, 1) := by decide +kernel
theorem dX9_houseOf_17 : decode cX9_houseOf 17 = .ok (.tableswitch 52 0 3 #[31, 36, 41, 47], 31) := by decide +kernel
theorem dX9_houseOf_48 : decode cX9_houseOf 48 = .ok (.aload_n 3, 1) := by decide +kernel
theorem dX9_houseOf_49 : decode cX9_houseOf 49 = .ok (.getfield 275, 3) := by decide +kernel
theorem dX9_houseOf_52 : decode cX9_houseOf 52 = .ok (.ireturn, 1) := by decide +kernel
theorem dX9_houseOf_53 : decode cX9_houseOf 53 = .ok (.aload_n 3, 1) := by decide +kernel
theorem dX9_houseOf_54 : decode cX9_houseOf 54 = .ok (.getfield 278, 3) := by decide +kernel
theorem dX9_houseOf_57 : decode cX9_houseOf 57 = .ok (.ireturn, 1) := by decide +kernel
theorem dX9_houseOf_58 : decode cX9_houseOf 58 = .ok (.aload_n 0, 1) := by decide +kernel
theorem dX9_houseOf_59 : decode cX9_houseOf 59 = .ok (.aload_n 3, 1) := by decide +kernel
theorem dX9_houseOf_60 : decode cX9_houseOf 60 = .ok (.invokevirtual 281, 3) := by decide +kernel
theorem dX9_houseOf_63 : decode cX9_houseOf 63 = .ok (.ireturn, 1) := by decide +kernel
theorem dX9_houseOf_64 : decode cX9_houseOf 64 = .ok (.aload_n 3, 1) := by decide +kernel
theorem dX9_houseOf_65 : decode cX9_houseOf 65 = .ok (.getfield 284, 3) := by decide +kernel
theorem dX9_houseOf_68 : decode cX9_houseOf 68 = .ok (.ireturn, 1) := by decide +kernel
theorem dX9_houseOf_69 : decode cX9_houseOf 69 = .ok (.aload_n 0, 1) := by decide +kernel
theorem dX9_houseOf_70 : decode cX9_houseOf 70 = .ok (.bipush (-2), 2) := by decide +kernel
theorem dX9_houseOf_72 : decode cX9_houseOf 72 = .ok (.invokevirtual 74, 3) := by decide +kernel
theorem dX9_houseOf_75 : decode cX9_houseOf 75 = .ok (.ireturn, 1) := by decide +kernel
theorem dX9_streetOf_0 : decode cX9_streetOf 0 = .ok (.aload_n 0, 1) := by decide +kernel
theorem dX9_streetOf_1 : decode cX9_streetOf 1 = .ok (.iload_n 1, 1) := by decide +kernel
theorem dX9_streetOf_2 : decode cX9_streetOf 2 = .ok (.invokevirtual 105, 3) := by decide +kernel
theorem dX9_streetOf_5 : decode cX9_streetOf 5 = .ok (.astore_n 3, 1) := by decide +kernel
theorem dX9_streetOf_6 : decode cX9_streetOf 6 = .ok (.aload_n 3, 1) := by decide +kernel
theorem dX9_streetOf_7 : decode cX9_streetOf 7 = .ok (.ifnonnull 9, 3) := by decide +kernel
theorem dX9_streetOf_10 : decode cX9_streetOf 10 = .ok (.aload_n 0, 1) := by decide +kernel
theorem dX9_streetOf_11 : decode cX9_streetOf 11 = .ok (.iconst (-1), 1) := by decide +kernel
theorem dX9_streetOf_12 : decode cX9_streetOf 12 = .ok (.invokevirtual 74, 3) := by decide +kernel
theorem dX9_streetOf_15 : decode cX9_streetOf 15 = .ok (.ireturn, 1) := by decide +kernel
theorem dX9_streetOf_16 : decode cX9_streetOf 16 = .ok (.iload_n 2, 1) := by decide +kernel
theorem dX9_streetOf_17 : decode cX9_streetOf 17 = .ok (.tableswitch 111 0 6 #[43, 48, 53, 62, 75, 93, 106], 43) := by decide +kernel
theorem dX9_streetOf_60 : decode cX9_streetOf 60 = .ok (.aload_n 3, 1) := by decide +kernel
theorem dX9_streetOf_61 : decode cX9_streetOf 61 = .ok (.getfield 156, 3) := by decide +kernel
theorem dX9_streetOf_64 : decode cX9_streetOf 64 = .ok (.ireturn, 1) := by decide +kernel
theorem dX9_streetOf_65 : decode cX9_streetOf 65 = .ok (.aload_n 3, 1) := by decide +kernel
theorem dX9_streetOf_66 : decode cX9_streetOf 66 = .ok (.getfield 163, 3) := by decide +kernel
theorem dX9_streetOf_69 : decode cX9_streetOf 69 = .ok (.ireturn, 1) := by decide +kernel
theorem dX9_streetOf_70 : decode cX9_streetOf 70 = .ok (.aload_n 3, 1) := by decide +kernel
theorem dX9_streetOf_71 : decode cX9_streetOf 71 = .ok (.aload_n 0, 1) := by decide +kernel
theorem dX9_streetOf_72 : decode cX9_streetOf 72 = .ok (.invokevirtual 84, 3) := by decide +kernel
theorem dX9_streetOf_75 : decode cX9_streetOf 75 = .ok (.invokevirtual 287, 3) := by decide +kernel
theorem dX9_streetOf_78 : decode cX9_streetOf 78 = .ok (.ireturn, 1) := by decide +kernel
theorem dX9_streetOf_79 : decode cX9_streetOf 79 = .ok (.aload_n 3, 1) := by decide +kernel
theorem dX9_streetOf_80 : decode cX9_streetOf 80 = .ok (.getfield 207, 3) := by decide +kernel
theorem dX9_streetOf_83 : decode cX9_streetOf 83 = .ok (.ifCond .eq 7, 3) := by decide +kernel
theorem dX9_streetOf_86 : decode cX9_streetOf 86 = .ok (.iconst 1, 1) := by decide +kernel
theorem dX9_streetOf_87 : decode cX9_streetOf 87 = .ok (.goto 4, 3) := by decide +kernel
theorem dX9_streetOf_90 : decode cX9_streetOf 90 = .ok (.iconst 0, 1) := by decide +kernel
theorem dX9_streetOf_91 : decode cX9_streetOf 91 = .ok (.ireturn, 1) := by decide +kernel
theorem dX9_streetOf_92 : decode cX9_streetOf 92 = .ok (.aload_n 3, 1) := by decide +kernel
theorem dX9_streetOf_93 : decode cX9_streetOf 93 = .ok (.getfield 290, 3) := by decide +kernel
theorem dX9_streetOf_96 : decode cX9_streetOf 96 = .ok (.iconst (-1), 1) := by decide +kernel
theorem dX9_streetOf_97 : decode cX9_streetOf 97 = .ok (.if_icmp .ne 8, 3) := by decide +kernel
theorem dX9_streetOf_100 : decode cX9_streetOf 100 = .ok (.bipush (-9), 2) := by decide +kernel
theorem dX9_streetOf_102 : decode cX9_streetOf 102 = .ok (.goto 7, 3) := by decide +kernel
theorem dX9_streetOf_105 : decode cX9_streetOf 105 = .ok (.aload_n 3, 1) := by decide +kernel
theorem dX9_streetOf_106 : decode cX9_streetOf 106 = .ok (.getfield 290, 3) := by decide +kernel
theorem dX9_streetOf_109 : decode cX9_streetOf 109 = .ok (.ireturn, 1) := by decide +kernel
theorem dX9_streetOf_110 : decode cX9_streetOf 110 = .ok (.aload_n 3, 1) := by decide +kernel
theorem dX9_streetOf_111 : decode cX9_streetOf 111 = .ok (.getfield 166, 3) := by decide +kernel
theorem dX9_streetOf_114 : decode cX9_streetOf 114 = .ok (.ifCond .eq 7, 3) := by decide +kernel
theorem dX9_streetOf_117 : decode cX9_streetOf 117 = .ok (.iconst 1, 1) := by decide +kernel
theorem dX9_streetOf_118 : decode cX9_streetOf 118 = .ok (.goto 4, 3) := by decide +kernel
theorem dX9_streetOf_121 : decode cX9_streetOf 121 = .ok (.iconst 0, 1) := by decide +kernel
theorem dX9_streetOf_122 : decode cX9_streetOf 122 = .ok (.ireturn, 1) := by decide +kernel
theorem dX9_streetOf_123 : decode cX9_streetOf 123 = .ok (.aload_n 3, 1) := by decide +kernel
theorem dX9_streetOf_124 : decode cX9_streetOf 124 = .ok (.invokevirtual 293, 3) := by decide +kernel
theorem dX9_streetOf_127 : decode cX9_streetOf 127 = .ok (.ireturn, 1) := by decide +kernel
theorem dX9_streetOf_128 : decode cX9_streetOf 128 = .ok (.aload_n 0, 1) := by decide +kernel
theorem dX9_streetOf_129 : decode cX9_streetOf 129 = .ok (.bipush (-2), 2) := by decide +kernel
theorem dX9_streetOf_131 : decode cX9_streetOf 131 = .ok (.invokevirtual 74, 3) := by decide +kernel
theorem dX9_streetOf_134 : decode cX9_streetOf 134 = .ok (.ireturn, 1) := by decide +kernel
theorem dX9_count_0 : decode cX9_count 0 = .ok (.iload_n 1, 1) := by decide +kernel
theorem dX9_count_1 : decode cX9_count 1 = .ok (.tableswitch 190 0 19 #[95, 100, 108, 116, 121, 129, 137, 145, 153, 161, 166, 190, 190, 190, 190, 190, 190, 190, 174, 182], 95) := by decide +kernel
theorem dX9_count_96 : decode cX9_count 96 = .ok (.aload_n 0, 1) := by decide +kernel
theorem dX9_count_97 : decode cX9_count 97 = .ok (.getfield 201, 3) := by decide +kernel
theorem dX9_count_100 : decode cX9_count 100 = .ok (.ireturn, 1) := by decide +kernel
theorem dX9_count_101 : decode cX9_count 101 = .ok (.aload_n 0, 1) := by decide +kernel
theorem dX9_count_102 : decode cX9_count 102 = .ok (.getfield 10, 3) := by decide +kernel
theorem dX9_count_105 : decode cX9_count 105 = .ok (.invokevirtual 78, 3) := by decide +kernel
theorem dX9_count_108 : decode cX9_count 108 = .ok (.ireturn, 1) := by decide +kernel
theorem dX9_count_109 : decode cX9_count 109 = .ok (.aload_n 0, 1) := by decide +kernel
theorem dX9_count_110 : decode cX9_count 110 = .ok (.getfield 16, 3) := by decide +kernel
theorem dX9_count_113 : decode cX9_count 113 = .ok (.invokevirtual 78, 3) := by decide +kernel
theorem dX9_count_116 : decode cX9_count 116 = .ok (.ireturn, 1) := by decide +kernel
theorem dX9_count_117 : decode cX9_count 117 = .ok (.aload_n 0, 1) := by decide +kernel
theorem dX9_count_118 : decode cX9_count 118 = .ok (.getfield 101, 3) := by decide +kernel
theorem dX9_count_121 : decode cX9_count 121 = .ok (.ireturn, 1) := by decide +kernel
theorem dX9_count_122 : decode cX9_count 122 = .ok (.aload_n 0, 1) := by decide +kernel
theorem dX9_count_123 : decode cX9_count 123 = .ok (.getfield 51, 3) := by decide +kernel
theorem dX9_count_126 : decode cX9_count 126 = .ok (.getfield 296, 3) := by decide +kernel
theorem dX9_count_129 : decode cX9_count 129 = .ok (.ireturn, 1) := by decide +kernel
theorem dX9_count_130 : decode cX9_count 130 = .ok (.aload_n 0, 1) := by decide +kernel
theorem dX9_count_131 : decode cX9_count 131 = .ok (.getfield 51, 3) := by decide +kernel
theorem dX9_count_134 : decode cX9_count 134 = .ok (.getfield 299, 3) := by decide +kernel
theorem dX9_count_137 : decode cX9_count 137 = .ok (.ireturn, 1) := by decide +kernel
theorem dX9_count_138 : decode cX9_count 138 = .ok (.aload_n 0, 1) := by decide +kernel
theorem dX9_count_139 : decode cX9_count 139 = .ok (.getfield 51, 3) := by decide +kernel
theorem dX9_count_142 : decode cX9_count 142 = .ok (.getfield 302, 3) := by decide +kernel
theorem dX9_count_145 : decode cX9_count 145 = .ok (.ireturn, 1) := by decide +kernel
theorem dX9_count_146 : decode cX9_count 146 = .ok (.aload_n 0, 1) := by decide +kernel
theorem dX9_count_147 : decode cX9_count 147 = .ok (.getfield 51, 3) := by decide +kernel
theorem dX9_count_150 : decode cX9_count 150 = .ok (.getfield 305, 3) := by decide +kernel
theorem dX9_count_153 : decode cX9_count 153 = .ok (.ireturn, 1) := by decide +kernel
theorem dX9_count_154 : decode cX9_count 154 = .ok (.aload_n 0, 1) := by decide +kernel
theorem dX9_count_155 : decode cX9_count 155 = .ok (.getfield 19, 3) := by decide +kernel
theorem dX9_count_158 : decode cX9_count 158 = .ok (.invokevirtual 78, 3) := by decide +kernel
theorem dX9_count_161 : decode cX9_count 161 = .ok (.ireturn, 1) := by decide +kernel
theorem dX9_count_162 : decode cX9_count 162 = .ok (.aload_n 0, 1) := by decide +kernel
theorem dX9_count_163 : decode cX9_count 163 = .ok (.getfield 231, 3) := by decide +kernel
theorem dX9_count_166 : decode cX9_count 166 = .ok (.ireturn, 1) := by decide +kernel
theorem dX9_count_167 : decode cX9_count 167 = .ok (.aload_n 0, 1) := by decide +kernel
theorem dX9_count_168 : decode cX9_count 168 = .ok (.getfield 22, 3) := by decide +kernel
theorem dX9_count_171 : decode cX9_count 171 = .ok (.invokevirtual 78, 3) := by decide +kernel
theorem dX9_count_174 : decode cX9_count 174 = .ok (.ireturn, 1) := by decide +kernel
theorem dX9_count_175 : decode cX9_count 175 = .ok (.aload_n 0, 1) := by decide +kernel
theorem dX9_count_176 : decode cX9_count 176 = .ok (.getfield 51, 3) := by decide +kernel
theorem dX9_count_179 : decode cX9_count 179 = .ok (.getfield 308, 3) := by decide +kernel
theorem dX9_count_182 : decode cX9_count 182 = .ok (.ireturn, 1) := by decide +kernel
theorem dX9_count_183 : decode cX9_count 183 = .ok (.aload_n 0, 1) := by decide +kernel
theorem dX9_count_184 : decode cX9_count 184 = .ok (.getfield 51, 3) := by decide +kernel
theorem dX9_count_187 : decode cX9_count 187 = .ok (.getfield 311, 3) := by decide +kernel
theorem dX9_count_190 : decode cX9_count 190 = .ok (.ireturn, 1) := by decide +kernel
theorem dX9_count_191 : decode cX9_count 191 = .ok (.iload_n 1, 1) := by decide +kernel
theorem dX9_count_192 : decode cX9_count 192 = .ok (.bipush 11, 2) := by decide +kernel
theorem dX9_count_194 : decode cX9_count 194 = .ok (.if_icmp .lt 21, 3) := by decide +kernel
theorem dX9_count_197 : decode cX9_count 197 = .ok (.iload_n 1, 1) := by decide +kernel
theorem dX9_count_198 : decode cX9_count 198 = .ok (.bipush 17, 2) := by decide +kernel
theorem dX9_count_200 : decode cX9_count 200 = .ok (.if_icmp .gt 15, 3) := by decide +kernel
theorem dX9_count_203 : decode cX9_count 203 = .ok (.aload_n 0, 1) := by decide +kernel
theorem dX9_count_204 : decode cX9_count 204 = .ok (.getfield 38, 3) := by decide +kernel
theorem dX9_count_207 : decode cX9_count 207 = .ok (.iload_n 1, 1) := by decide +kernel
theorem dX9_count_208 : decode cX9_count 208 = .ok (.bipush 10, 2) := by decide +kernel
theorem dX9_count_210 : decode cX9_count 210 = .ok (.isub, 1) := by decide +kernel
theorem dX9_count_211 : decode cX9_count 211 = .ok (.iaload, 1) := by decide +kernel
theorem dX9_count_212 : decode cX9_count 212 = .ok (.goto 5, 3) := by decide +kernel
theorem dX9_count_215 : decode cX9_count 215 = .ok (.bipush (-9), 2) := by decide +kernel
theorem dX9_count_217 : decode cX9_count 217 = .ok (.ireturn, 1) := by decide +kernel
theorem dX9_refuse_0 : decode cX9_refuse 0 = .ok (.iload_n 1, 1) := by decide +kernel
theorem dX9_refuse_1 : decode cX9_refuse 1 = .ok (.bipush (-7), 2) := by decide +kernel
theorem dX9_refuse_3 : decode cX9_refuse 3 = .ok (.if_icmp .lt 19, 3) := by decide +kernel
theorem dX9_refuse_6 : decode cX9_refuse 6 = .ok (.iload_n 1, 1) := by decide +kernel
theorem dX9_refuse_7 : decode cX9_refuse 7 = .ok (.iconst (-1), 1) := by decide +kernel
theorem dX9_refuse_8 : decode cX9_refuse 8 = .ok (.if_icmp .gt 14, 3) := by decide +kernel
theorem dX9_refuse_11 : decode cX9_refuse 11 = .ok (.aload_n 0, 1) := by decide +kernel
theorem dX9_refuse_12 : decode cX9_refuse 12 = .ok (.getfield 38, 3) := by decide +kernel
theorem dX9_refuse_15 : decode cX9_refuse 15 = .ok (.iload_n 1, 1) := by decide +kernel
theorem dX9_refuse_16 : decode cX9_refuse 16 = .ok (.ineg, 1) := by decide +kernel
theorem dX9_refuse_17 : decode cX9_refuse 17 = .ok (.dup2, 1) := by decide +kernel
theorem dX9_refuse_18 : decode cX9_refuse 18 = .ok (.iaload, 1) := by decide +kernel
theorem dX9_refuse_19 : decode cX9_refuse 19 = .ok (.iconst 1, 1) := by decide +kernel
theorem dX9_refuse_20 : decode cX9_refuse 20 = .ok (.iadd, 1) := by decide +kernel
theorem dX9_refuse_21 : decode cX9_refuse 21 = .ok (.iastore, 1) := by decide +kernel
theorem dX9_refuse_22 : decode cX9_refuse 22 = .ok (.iload_n 1, 1) := by decide +kernel
theorem dX9_refuse_23 : decode cX9_refuse 23 = .ok (.ireturn, 1) := by decide +kernel
theorem dX9_refuseAside_0 : decode cX9_refuseAside 0 = .ok (.ldc_w 314, 3) := by decide +kernel
theorem dX9_refuseAside_3 : decode cX9_refuseAside 3 = .ok (.aload_n 0, 1) := by decide +kernel
theorem dX9_refuseAside_4 : decode cX9_refuseAside 4 = .ok (.iload_n 1, 1) := by decide +kernel
theorem dX9_refuseAside_5 : decode cX9_refuseAside 5 = .ok (.invokevirtual 74, 3) := by decide +kernel
theorem dX9_refuseAside_8 : decode cX9_refuseAside 8 = .ok (.isub, 1) := by decide +kernel
theorem dX9_refuseAside_9 : decode cX9_refuseAside 9 = .ok (.ireturn, 1) := by decide +kernel
theorem dX9_streetAt_0 : decode cX9_streetAt 0 = .ok (.iload_n 1, 1) := by decide +kernel
theorem dX9_streetAt_1 : decode cX9_streetAt 1 = .ok (.ifCond .lt 28, 3) := by decide +kernel
theorem dX9_streetAt_4 : decode cX9_streetAt 4 = .ok (.iload_n 1, 1) := by decide +kernel
theorem dX9_streetAt_5 : decode cX9_streetAt 5 = .ok (.aload_n 0, 1) := by decide +kernel
theorem dX9_streetAt_6 : decode cX9_streetAt 6 = .ok (.getfield 10, 3) := by decide +kernel
theorem dX9_streetAt_9 : decode cX9_streetAt 9 = .ok (.invokevirtual 78, 3) := by decide +kernel
theorem dX9_streetAt_12 : decode cX9_streetAt 12 = .ok (.if_icmp .ge 17, 3) := by decide +kernel
theorem dX9_streetAt_15 : decode cX9_streetAt 15 = .ok (.aload_n 0, 1) := by decide +kernel
theorem dX9_streetAt_16 : decode cX9_streetAt 16 = .ok (.getfield 10, 3) := by decide +kernel
theorem dX9_streetAt_19 : decode cX9_streetAt 19 = .ok (.iload_n 1, 1) := by decide +kernel
theorem dX9_streetAt_20 : decode cX9_streetAt 20 = .ok (.invokevirtual 190, 3) := by decide +kernel
theorem dX9_streetAt_23 : decode cX9_streetAt 23 = .ok (.checkcast 82, 3) := by decide +kernel
theorem dX9_streetAt_26 : decode cX9_streetAt 26 = .ok (.goto 4, 3) := by decide +kernel
theorem dX9_streetAt_29 : decode cX9_streetAt 29 = .ok (.aconst_null, 1) := by decide +kernel
theorem dX9_streetAt_30 : decode cX9_streetAt 30 = .ok (.areturn, 1) := by decide +kernel
theorem dX9_houseAt_0 : decode cX9_houseAt 0 = .ok (.iload_n 1, 1) := by decide +kernel
theorem dX9_houseAt_1 : decode cX9_houseAt 1 = .ok (.ifCond .lt 28, 3) := by decide +kernel
theorem dX9_houseAt_4 : decode cX9_houseAt 4 = .ok (.iload_n 1, 1) := by decide +kernel
theorem dX9_houseAt_5 : decode cX9_houseAt 5 = .ok (.aload_n 0, 1) := by decide +kernel
theorem dX9_houseAt_6 : decode cX9_houseAt 6 = .ok (.getfield 16, 3) := by decide +kernel
theorem dX9_houseAt_9 : decode cX9_houseAt 9 = .ok (.invokevirtual 78, 3) := by decide +kernel
theorem dX9_houseAt_12 : decode cX9_houseAt 12 = .ok (.if_icmp .ge 17, 3) := by decide +kernel
theorem dX9_houseAt_15 : decode cX9_houseAt 15 = .ok (.aload_n 0, 1) := by decide +kernel
theorem dX9_houseAt_16 : decode cX9_houseAt 16 = .ok (.getfield 16, 3) := by decide +kernel
theorem dX9_houseAt_19 : decode cX9_houseAt 19 = .ok (.iload_n 1, 1) := by decide +kernel
theorem dX9_houseAt_20 : decode cX9_houseAt 20 = .ok (.invokevirtual 190, 3) := by decide +kernel
theorem dX9_houseAt_23 : decode cX9_houseAt 23 = .ok (.checkcast 109, 3) := by decide +kernel
theorem dX9_houseAt_26 : decode cX9_houseAt 26 = .ok (.goto 4, 3) := by decide +kernel
theorem dX9_houseAt_29 : decode cX9_houseAt 29 = .ok (.aconst_null, 1) := by decide +kernel
theorem dX9_houseAt_30 : decode cX9_houseAt 30 = .ok (.areturn, 1) := by decide +kernel
theorem dX9_rowAt_0 : decode cX9_rowAt 0 = .ok (.iload_n 1, 1) := by decide +kernel
theorem dX9_rowAt_1 : decode cX9_rowAt 1 = .ok (.ifCond .lt 17, 3) := by decide +kernel
theorem dX9_rowAt_4 : decode cX9_rowAt 4 = .ok (.iload_n 1, 1) := by decide +kernel
theorem dX9_rowAt_5 : decode cX9_rowAt 5 = .ok (.iconst 4, 1) := by decide +kernel
theorem dX9_rowAt_6 : decode cX9_rowAt 6 = .ok (.if_icmp .ge 12, 3) := by decide +kernel
theorem dX9_rowAt_9 : decode cX9_rowAt 9 = .ok (.aload_n 0, 1) := by decide +kernel
theorem dX9_rowAt_10 : decode cX9_rowAt 10 = .ok (.getfield 27, 3) := by decide +kernel
theorem dX9_rowAt_13 : decode cX9_rowAt 13 = .ok (.iload_n 1, 1) := by decide +kernel
theorem dX9_rowAt_14 : decode cX9_rowAt 14 = .ok (.aaload, 1) := by decide +kernel
theorem dX9_rowAt_15 : decode cX9_rowAt 15 = .ok (.goto 4, 3) := by decide +kernel
theorem dX9_rowAt_18 : decode cX9_rowAt 18 = .ok (.aconst_null, 1) := by decide +kernel
theorem dX9_rowAt_19 : decode cX9_rowAt 19 = .ok (.areturn, 1) := by decide +kernel
theorem dX9_isCock_0 : decode cX9_isCock 0 = .ok (.iload_n 0, 1) := by decide +kernel
theorem dX9_isCock_1 : decode cX9_isCock 1 = .ok (.ifCond .lt 12, 3) := by decide +kernel
theorem dX9_isCock_4 : decode cX9_isCock 4 = .ok (.iload_n 0, 1) := by decide +kernel
theorem dX9_isCock_5 : decode cX9_isCock 5 = .ok (.iconst 3, 1) := by decide +kernel
theorem dX9_isCock_6 : decode cX9_isCock 6 = .ok (.if_icmp .ge 7, 3) := by decide +kernel
theorem dX9_isCock_9 : decode cX9_isCock 9 = .ok (.iconst 1, 1) := by decide +kernel
theorem dX9_isCock_10 : decode cX9_isCock 10 = .ok (.goto 4, 3) := by decide +kernel
theorem dX9_isCock_13 : decode cX9_isCock 13 = .ok (.iconst 0, 1) := by decide +kernel
theorem dX9_isCock_14 : decode cX9_isCock 14 = .ok (.ireturn, 1) := by decide +kernel
theorem dX9_isPlace_0 : decode cX9_isPlace 0 = .ok (.iload_n 1, 1) := by decide +kernel
theorem dX9_isPlace_1 : decode cX9_isPlace 1 = .ok (.iconst (-1), 1) := by decide +kernel
theorem dX9_isPlace_2 : decode cX9_isPlace 2 = .ok (.if_icmp .eq 11, 3) := by decide +kernel
theorem dX9_isPlace_5 : decode cX9_isPlace 5 = .ok (.aload_n 0, 1) := by decide +kernel
theorem dX9_isPlace_6 : decode cX9_isPlace 6 = .ok (.iload_n 1, 1) := by decide +kernel
theorem dX9_isPlace_7 : decode cX9_isPlace 7 = .ok (.invokevirtual 105, 3) := by decide +kernel
theorem dX9_isPlace_10 : decode cX9_isPlace 10 = .ok (.ifnull 7, 3) := by decide +kernel
theorem dX9_isPlace_13 : decode cX9_isPlace 13 = .ok (.iconst 1, 1) := by decide +kernel
theorem dX9_isPlace_14 : decode cX9_isPlace 14 = .ok (.goto 4, 3) := by decide +kernel
theorem dX9_isPlace_17 : decode cX9_isPlace 17 = .ok (.iconst 0, 1) := by decide +kernel
theorem dX9_isPlace_18 : decode cX9_isPlace 18 = .ok (.ireturn, 1) := by decide +kernel
theorem dX9_weekNow_0 : decode cX9_weekNow 0 = .ok (.aload_n 0, 1) := by decide +kernel
theorem dX9_weekNow_1 : decode cX9_weekNow 1 = .ok (.getfield 201, 3) := by decide +kernel
theorem dX9_weekNow_4 : decode cX9_weekNow 4 = .ok (.sipush 168, 3) := by decide +kernel
theorem dX9_weekNow_7 : decode cX9_weekNow 7 = .ok (.idiv, 1) := by decide +kernel
theorem dX9_weekNow_8 : decode cX9_weekNow 8 = .ok (.ireturn, 1) := by decide +kernel
theorem dX9_hasStreet_0 : decode cX9_hasStreet 0 = .ok (.iload_n 0, 1) := by decide +kernel
theorem dX9_hasStreet_1 : decode cX9_hasStreet 1 = .ok (.iload_n 1, 1) := by decide +kernel
theorem dX9_hasStreet_2 : decode cX9_hasStreet 2 = .ok (.ishr, 1) := by decide +kernel
theorem dX9_hasStreet_3 : decode cX9_hasStreet 3 = .ok (.iconst 1, 1) := by decide +kernel
theorem dX9_hasStreet_4 : decode cX9_hasStreet 4 = .ok (.iand, 1) := by decide +kernel
theorem dX9_hasStreet_5 : decode cX9_hasStreet 5 = .ok (.ifCond .eq 7, 3) := by decide +kernel
theorem dX9_hasStreet_8 : decode cX9_hasStreet 8 = .ok (.iconst 1, 1) := by decide +kernel
theorem dX9_hasStreet_9 : decode cX9_hasStreet 9 = .ok (.goto 4, 3) := by decide +kernel
theorem dX9_hasStreet_12 : decode cX9_hasStreet 12 = .ok (.iconst 0, 1) := by decide +kernel
theorem dX9_hasStreet_13 : decode cX9_hasStreet 13 = .ok (.ireturn, 1) := by decide +kernel
theorem dX9_passHour_0 : decode cX9_passHour 0 = .ok (.aload_n 0, 1) := by decide +kernel
theorem dX9_passHour_1 : decode cX9_passHour 1 = .ok (.getfield 44, 3) := by decide +kernel
theorem dX9_passHour_4 : decode cX9_passHour 4 = .ok (.aload_n 0, 1) := by decide +kernel
theorem dX9_passHour_5 : decode cX9_passHour 5 = .ok (.getfield 201, 3) := by decide +kernel
theorem dX9_passHour_8 : decode cX9_passHour 8 = .ok (.invokevirtual 184, 3) := by decide +kernel
theorem dX9_passHour_11 : decode cX9_passHour 11 = .ok (.istore_n 1, 1) := by decide +kernel
theorem dX9_passHour_12 : decode cX9_passHour 12 = .ok (.iload_n 1, 1) := by decide +kernel
theorem dX9_passHour_13 : decode cX9_passHour 13 = .ok (.ifCond .eq 10, 3) := by decide +kernel
theorem dX9_passHour_16 : decode cX9_passHour 16 = .ok (.aload_n 0, 1) := by decide +kernel
theorem dX9_passHour_17 : decode cX9_passHour 17 = .ok (.invokevirtual 315, 3) := by decide +kernel
theorem dX9_passHour_20 : decode cX9_passHour 20 = .ok (.goto 4, 3) := by decide +kernel
theorem dX9_passHour_23 : decode cX9_passHour 23 = .ok (.iconst 0, 1) := by decide +kernel
theorem dX9_passHour_24 : decode cX9_passHour 24 = .ok (.istore_n 2, 1) := by decide +kernel
theorem dX9_passHour_25 : decode cX9_passHour 25 = .ok (.aload_n 0, 1) := by decide +kernel
theorem dX9_passHour_26 : decode cX9_passHour 26 = .ok (.iload_n 1, 1) := by decide +kernel
theorem dX9_passHour_27 : decode cX9_passHour 27 = .ok (.iload_n 2, 1) := by decide +kernel
theorem dX9_passHour_28 : decode cX9_passHour 28 = .ok (.invokevirtual 318, 3) := by decide +kernel
theorem dX9_passHour_31 : decode cX9_passHour 31 = .ok (.istore_n 2, 1) := by decide +kernel
theorem dX9_passHour_32 : decode cX9_passHour 32 = .ok (.aload_n 0, 1) := by decide +kernel
theorem dX9_passHour_33 : decode cX9_passHour 33 = .ok (.iload_n 1, 1) := by decide +kernel
theorem dX9_passHour_34 : decode cX9_passHour 34 = .ok (.iload_n 2, 1) := by decide +kernel
theorem dX9_passHour_35 : decode cX9_passHour 35 = .ok (.invokevirtual 321, 3) := by decide +kernel
theorem dX9_passHour_38 : decode cX9_passHour 38 = .ok (.istore_n 2, 1) := by decide +kernel
theorem dX9_passHour_39 : decode cX9_passHour 39 = .ok (.aload_n 0, 1) := by decide +kernel
theorem dX9_passHour_40 : decode cX9_passHour 40 = .ok (.getfield 51, 3) := by decide +kernel
theorem dX9_passHour_43 : decode cX9_passHour 43 = .ok (.dup, 1) := by decide +kernel
theorem dX9_passHour_44 : decode cX9_passHour 44 = .ok (.getfield 305, 3) := by decide +kernel
theorem dX9_passHour_47 : decode cX9_passHour 47 = .ok (.iload_n 2, 1) := by decide +kernel
theorem dX9_passHour_48 : decode cX9_passHour 48 = .ok (.iadd, 1) := by decide +kernel
theorem dX9_passHour_49 : decode cX9_passHour 49 = .ok (.putfield 305, 3) := by decide +kernel
theorem dX9_passHour_52 : decode cX9_passHour 52 = .ok (.aload_n 0, 1) := by decide +kernel
theorem dX9_passHour_53 : decode cX9_passHour 53 = .ok (.invokevirtual 324, 3) := by decide +kernel
theorem dX9_passHour_56 : decode cX9_passHour 56 = .ok (.aload_n 0, 1) := by decide +kernel
theorem dX9_passHour_57 : decode cX9_passHour 57 = .ok (.dup, 1) := by decide +kernel
theorem dX9_passHour_58 : decode cX9_passHour 58 = .ok (.getfield 201, 3) := by decide +kernel
theorem dX9_passHour_61 : decode cX9_passHour 61 = .ok (.iconst 1, 1) := by decide +kernel
theorem dX9_passHour_62 : decode cX9_passHour 62 = .ok (.iadd, 1) := by decide +kernel
theorem dX9_passHour_63 : decode cX9_passHour 63 = .ok (.putfield 201, 3) := by decide +kernel
theorem dX9_passHour_66 : decode cX9_passHour 66 = .ok (.return_, 1) := by decide +kernel
theorem dX9_pump_0 : decode cX9_pump 0 = .ok (.aload_n 0, 1) := by decide +kernel
theorem dX9_pump_1 : decode cX9_pump 1 = .ok (.getfield 101, 3) := by decide +kernel
theorem dX9_pump_4 : decode cX9_pump 4 = .ok (.aload_n 0, 1) := by decide +kernel
theorem dX9_pump_5 : decode cX9_pump 5 = .ok (.getfield 35, 3) := by decide +kernel
theorem dX9_pump_8 : decode cX9_pump 8 = .ok (.iconst 1, 1) := by decide +kernel
theorem dX9_pump_9 : decode cX9_pump 9 = .ok (.iaload, 1) := by decide +kernel
theorem dX9_pump_10 : decode cX9_pump 10 = .ok (.if_icmp .ge 5, 3) := by decide +kernel
theorem dX9_pump_13 : decode cX9_pump 13 = .ok (.iconst 0, 1) := by decide +kernel
theorem dX9_pump_14 : decode cX9_pump 14 = .ok (.ireturn, 1) := by decide +kernel
theorem dX9_pump_15 : decode cX9_pump 15 = .ok (.aload_n 0, 1) := by decide +kernel
theorem dX9_pump_16 : decode cX9_pump 16 = .ok (.dup, 1) := by decide +kernel
theorem dX9_pump_17 : decode cX9_pump 17 = .ok (.getfield 101, 3) := by decide +kernel
theorem dX9_pump_20 : decode cX9_pump 20 = .ok (.aload_n 0, 1) := by decide +kernel
theorem dX9_pump_21 : decode cX9_pump 21 = .ok (.getfield 35, 3) := by decide +kernel
theorem dX9_pump_24 : decode cX9_pump 24 = .ok (.iconst 1, 1) := by decide +kernel
theorem dX9_pump_25 : decode cX9_pump 25 = .ok (.iaload, 1) := by decide +kernel
theorem dX9_pump_26 : decode cX9_pump 26 = .ok (.isub, 1) := by decide +kernel
theorem dX9_pump_27 : decode cX9_pump 27 = .ok (.putfield 101, 3) := by decide +kernel
theorem dX9_pump_30 : decode cX9_pump 30 = .ok (.aload_n 0, 1) := by decide +kernel
theorem dX9_pump_31 : decode cX9_pump 31 = .ok (.getfield 51, 3) := by decide +kernel
theorem dX9_pump_34 : decode cX9_pump 34 = .ok (.dup, 1) := by decide +kernel
theorem dX9_pump_35 : decode cX9_pump 35 = .ok (.getfield 308, 3) := by decide +kernel
theorem dX9_pump_38 : decode cX9_pump 38 = .ok (.iconst 1, 1) := by decide +kernel
theorem dX9_pump_39 : decode cX9_pump 39 = .ok (.iadd, 1) := by decide +kernel
theorem dX9_pump_40 : decode cX9_pump 40 = .ok (.putfield 308, 3) := by decide +kernel
theorem dX9_pump_43 : decode cX9_pump 43 = .ok (.aload_n 0, 1) := by decide +kernel
theorem dX9_pump_44 : decode cX9_pump 44 = .ok (.getfield 35, 3) := by decide +kernel
theorem dX9_pump_47 : decode cX9_pump 47 = .ok (.iconst 0, 1) := by decide +kernel
theorem dX9_pump_48 : decode cX9_pump 48 = .ok (.iaload, 1) := by decide +kernel
theorem dX9_pump_49 : decode cX9_pump 49 = .ok (.ireturn, 1) := by decide +kernel
theorem dX9_leak_0 : decode cX9_leak 0 = .ok (.iload_n 2, 1) := by decide +kernel
theorem dX9_leak_1 : decode cX9_leak 1 = .ok (.istore_n 3, 1) := by decide +kernel
theorem dX9_leak_2 : decode cX9_leak 2 = .ok (.iconst 0, 1) := by decide +kernel
theorem dX9_leak_3 : decode cX9_leak 3 = .ok (.istore 4, 2) := by decide +kernel
theorem dX9_leak_5 : decode cX9_leak 5 = .ok (.iload 4, 2) := by decide +kernel
theorem dX9_leak_7 : decode cX9_leak 7 = .ok (.aload_n 0, 1) := by decide +kernel
theorem dX9_leak_8 : decode cX9_leak 8 = .ok (.getfield 10, 3) := by decide +kernel
theorem dX9_leak_11 : decode cX9_leak 11 = .ok (.invokevirtual 78, 3) := by decide +kernel
theorem dX9_leak_14 : decode cX9_leak 14 = .ok (.if_icmp .ge 65, 3) := by decide +kernel
theorem dX9_leak_17 : decode cX9_leak 17 = .ok (.iload_n 1, 1) := by decide +kernel
end
section
theorem dX9_leak_18 : decode cX9_leak 18 = .ok (.iload 4, 2) := by decide +kernel
theorem dX9_leak_20 : decode cX9_leak 20 = .ok (.invokestatic 187, 3) := by decide +kernel
theorem dX9_leak_23 : decode cX9_leak 23 = .ok (.ifCond .ne 6, 3) := by decide +kernel
theorem dX9_leak_26 : decode cX9_leak 26 = .ok (.goto 47, 3) := by decide +kernel
theorem dX9_leak_29 : decode cX9_leak 29 = .ok (.iload_n 3, 1) := by decide +kernel
theorem dX9_leak_30 : decode cX9_leak 30 = .ok (.aload_n 0, 1) := by decide +kernel
theorem dX9_leak_31 : decode cX9_leak 31 = .ok (.getfield 10, 3) := by decide +kernel
theorem dX9_leak_34 : decode cX9_leak 34 = .ok (.iload 4, 2) := by decide +kernel
theorem dX9_leak_36 : decode cX9_leak 36 = .ok (.invokevirtual 190, 3) := by decide +kernel
theorem dX9_leak_39 : decode cX9_leak 39 = .ok (.checkcast 82, 3) := by decide +kernel
theorem dX9_leak_42 : decode cX9_leak 42 = .ok (.aload_n 0, 1) := by decide +kernel
theorem dX9_leak_43 : decode cX9_leak 43 = .ok (.invokevirtual 84, 3) := by decide +kernel
theorem dX9_leak_46 : decode cX9_leak 46 = .ok (.invokevirtual 287, 3) := by decide +kernel
theorem dX9_leak_49 : decode cX9_leak 49 = .ok (.invokestatic 327, 3) := by decide +kernel
theorem dX9_leak_52 : decode cX9_leak 52 = .ok (.istore 5, 2) := by decide +kernel
theorem dX9_leak_54 : decode cX9_leak 54 = .ok (.aload_n 0, 1) := by decide +kernel
theorem dX9_leak_55 : decode cX9_leak 55 = .ok (.getfield 51, 3) := by decide +kernel
theorem dX9_leak_58 : decode cX9_leak 58 = .ok (.dup, 1) := by decide +kernel
theorem dX9_leak_59 : decode cX9_leak 59 = .ok (.getfield 296, 3) := by decide +kernel
theorem dX9_leak_62 : decode cX9_leak 62 = .ok (.iload 5, 2) := by decide +kernel
theorem dX9_leak_64 : decode cX9_leak 64 = .ok (.iadd, 1) := by decide +kernel
theorem dX9_leak_65 : decode cX9_leak 65 = .ok (.putfield 296, 3) := by decide +kernel
theorem dX9_leak_68 : decode cX9_leak 68 = .ok (.iload_n 3, 1) := by decide +kernel
theorem dX9_leak_69 : decode cX9_leak 69 = .ok (.iload 5, 2) := by decide +kernel
theorem dX9_leak_71 : decode cX9_leak 71 = .ok (.isub, 1) := by decide +kernel
theorem dX9_leak_72 : decode cX9_leak 72 = .ok (.istore_n 3, 1) := by decide +kernel
theorem dX9_leak_73 : decode cX9_leak 73 = .ok (.iinc 4 1, 3) := by decide +kernel
theorem dX9_leak_76 : decode cX9_leak 76 = .ok (.goto (-71), 3) := by decide +kernel
theorem dX9_leak_79 : decode cX9_leak 79 = .ok (.iload_n 3, 1) := by decide +kernel
theorem dX9_leak_80 : decode cX9_leak 80 = .ok (.ireturn, 1) := by decide +kernel
theorem dX9_serve_0 : decode cX9_serve 0 = .ok (.iload_n 2, 1) := by decide +kernel
theorem dX9_serve_1 : decode cX9_serve 1 = .ok (.istore_n 3, 1) := by decide +kernel
theorem dX9_serve_2 : decode cX9_serve 2 = .ok (.iconst 0, 1) := by decide +kernel
theorem dX9_serve_3 : decode cX9_serve 3 = .ok (.istore 4, 2) := by decide +kernel
theorem dX9_serve_5 : decode cX9_serve 5 = .ok (.iload 4, 2) := by decide +kernel
theorem dX9_serve_7 : decode cX9_serve 7 = .ok (.aload_n 0, 1) := by decide +kernel
theorem dX9_serve_8 : decode cX9_serve 8 = .ok (.getfield 10, 3) := by decide +kernel
theorem dX9_serve_11 : decode cX9_serve 11 = .ok (.invokevirtual 78, 3) := by decide +kernel
theorem dX9_serve_14 : decode cX9_serve 14 = .ok (.if_icmp .ge 41, 3) := by decide +kernel
theorem dX9_serve_17 : decode cX9_serve 17 = .ok (.iload_n 1, 1) := by decide +kernel
theorem dX9_serve_18 : decode cX9_serve 18 = .ok (.iload 4, 2) := by decide +kernel
theorem dX9_serve_20 : decode cX9_serve 20 = .ok (.invokestatic 187, 3) := by decide +kernel
theorem dX9_serve_23 : decode cX9_serve 23 = .ok (.ifCond .eq 26, 3) := by decide +kernel
theorem dX9_serve_26 : decode cX9_serve 26 = .ok (.iload_n 3, 1) := by decide +kernel
theorem dX9_serve_27 : decode cX9_serve 27 = .ok (.aload_n 0, 1) := by decide +kernel
theorem dX9_serve_28 : decode cX9_serve 28 = .ok (.getfield 10, 3) := by decide +kernel
theorem dX9_serve_31 : decode cX9_serve 31 = .ok (.iload 4, 2) := by decide +kernel
theorem dX9_serve_33 : decode cX9_serve 33 = .ok (.invokevirtual 190, 3) := by decide +kernel
theorem dX9_serve_36 : decode cX9_serve 36 = .ok (.checkcast 82, 3) := by decide +kernel
theorem dX9_serve_39 : decode cX9_serve 39 = .ok (.iload_n 3, 1) := by decide +kernel
theorem dX9_serve_40 : decode cX9_serve 40 = .ok (.aload_n 0, 1) := by decide +kernel
theorem dX9_serve_41 : decode cX9_serve 41 = .ok (.getfield 51, 3) := by decide +kernel
theorem dX9_serve_44 : decode cX9_serve 44 = .ok (.invokevirtual 332, 3) := by decide +kernel
theorem dX9_serve_47 : decode cX9_serve 47 = .ok (.isub, 1) := by decide +kernel
theorem dX9_serve_48 : decode cX9_serve 48 = .ok (.istore_n 3, 1) := by decide +kernel
theorem dX9_serve_49 : decode cX9_serve 49 = .ok (.iinc 4 1, 3) := by decide +kernel
theorem dX9_serve_52 : decode cX9_serve 52 = .ok (.goto (-47), 3) := by decide +kernel
theorem dX9_serve_55 : decode cX9_serve 55 = .ok (.iload_n 3, 1) := by decide +kernel
theorem dX9_serve_56 : decode cX9_serve 56 = .ok (.ireturn, 1) := by decide +kernel
theorem dX9_drink_0 : decode cX9_drink 0 = .ok (.iconst 0, 1) := by decide +kernel
theorem dX9_drink_1 : decode cX9_drink 1 = .ok (.istore_n 1, 1) := by decide +kernel
theorem dX9_drink_2 : decode cX9_drink 2 = .ok (.iload_n 1, 1) := by decide +kernel
theorem dX9_drink_3 : decode cX9_drink 3 = .ok (.aload_n 0, 1) := by decide +kernel
theorem dX9_drink_4 : decode cX9_drink 4 = .ok (.getfield 16, 3) := by decide +kernel
theorem dX9_drink_7 : decode cX9_drink 7 = .ok (.invokevirtual 78, 3) := by decide +kernel
theorem dX9_drink_10 : decode cX9_drink 10 = .ok (.if_icmp .ge 30, 3) := by decide +kernel
theorem dX9_drink_13 : decode cX9_drink 13 = .ok (.aload_n 0, 1) := by decide +kernel
theorem dX9_drink_14 : decode cX9_drink 14 = .ok (.getfield 16, 3) := by decide +kernel
theorem dX9_drink_17 : decode cX9_drink 17 = .ok (.iload_n 1, 1) := by decide +kernel
theorem dX9_drink_18 : decode cX9_drink 18 = .ok (.invokevirtual 190, 3) := by decide +kernel
theorem dX9_drink_21 : decode cX9_drink 21 = .ok (.checkcast 109, 3) := by decide +kernel
theorem dX9_drink_24 : decode cX9_drink 24 = .ok (.astore_n 2, 1) := by decide +kernel
theorem dX9_drink_25 : decode cX9_drink 25 = .ok (.aload_n 2, 1) := by decide +kernel
theorem dX9_drink_26 : decode cX9_drink 26 = .ok (.aload_n 0, 1) := by decide +kernel
theorem dX9_drink_27 : decode cX9_drink 27 = .ok (.aload_n 2, 1) := by decide +kernel
theorem dX9_drink_28 : decode cX9_drink 28 = .ok (.invokevirtual 281, 3) := by decide +kernel
theorem dX9_drink_31 : decode cX9_drink 31 = .ok (.invokevirtual 336, 3) := by decide +kernel
theorem dX9_drink_34 : decode cX9_drink 34 = .ok (.iinc 1 1, 3) := by decide +kernel
theorem dX9_drink_37 : decode cX9_drink 37 = .ok (.goto (-35), 3) := by decide +kernel
theorem dX9_drink_40 : decode cX9_drink 40 = .ok (.return_, 1) := by decide +kernel
theorem dX9_useNow_0 : decode cX9_useNow 0 = .ok (.aload_n 0, 1) := by decide +kernel
theorem dX9_useNow_1 : decode cX9_useNow 1 = .ok (.aload_n 1, 1) := by decide +kernel
theorem dX9_useNow_2 : decode cX9_useNow 2 = .ok (.getfield 153, 3) := by decide +kernel
theorem dX9_useNow_5 : decode cX9_useNow 5 = .ok (.invokevirtual 118, 3) := by decide +kernel
theorem dX9_useNow_8 : decode cX9_useNow 8 = .ok (.astore_n 2, 1) := by decide +kernel
theorem dX9_useNow_9 : decode cX9_useNow 9 = .ok (.aload_n 2, 1) := by decide +kernel
theorem dX9_useNow_10 : decode cX9_useNow 10 = .ok (.ifnull 10, 3) := by decide +kernel
theorem dX9_useNow_13 : decode cX9_useNow 13 = .ok (.aload_n 2, 1) := by decide +kernel
theorem dX9_useNow_14 : decode cX9_useNow 14 = .ok (.getfield 339, 3) := by decide +kernel
theorem dX9_useNow_17 : decode cX9_useNow 17 = .ok (.ifCond .gt 8, 3) := by decide +kernel
theorem dX9_useNow_20 : decode cX9_useNow 20 = .ok (.aload_n 1, 1) := by decide +kernel
theorem dX9_useNow_21 : decode cX9_useNow 21 = .ok (.getfield 342, 3) := by decide +kernel
theorem dX9_useNow_24 : decode cX9_useNow 24 = .ok (.ireturn, 1) := by decide +kernel
theorem dX9_useNow_25 : decode cX9_useNow 25 = .ok (.aload_n 2, 1) := by decide +kernel
theorem dX9_useNow_26 : decode cX9_useNow 26 = .ok (.getfield 137, 3) := by decide +kernel
theorem dX9_useNow_29 : decode cX9_useNow 29 = .ok (.aload_n 0, 1) := by decide +kernel
theorem dX9_useNow_30 : decode cX9_useNow 30 = .ok (.getfield 201, 3) := by decide +kernel
theorem dX9_useNow_33 : decode cX9_useNow 33 = .ok (.bipush 24, 2) := by decide +kernel
theorem dX9_useNow_35 : decode cX9_useNow 35 = .ok (.irem, 1) := by decide +kernel
theorem dX9_useNow_36 : decode cX9_useNow 36 = .ok (.aload_n 2, 1) := by decide +kernel
theorem dX9_useNow_37 : decode cX9_useNow 37 = .ok (.getfield 339, 3) := by decide +kernel
theorem dX9_useNow_40 : decode cX9_useNow 40 = .ok (.irem, 1) := by decide +kernel
theorem dX9_useNow_41 : decode cX9_useNow 41 = .ok (.iaload, 1) := by decide +kernel
theorem dX9_useNow_42 : decode cX9_useNow 42 = .ok (.ireturn, 1) := by decide +kernel
theorem dX9_stepsBetween_0 : decode cX9_stepsBetween 0 = .ok (.iload_n 1, 1) := by decide +kernel
theorem dX9_stepsBetween_1 : decode cX9_stepsBetween 1 = .ok (.istore_n 3, 1) := by decide +kernel
theorem dX9_stepsBetween_2 : decode cX9_stepsBetween 2 = .ok (.iload_n 2, 1) := by decide +kernel
theorem dX9_stepsBetween_3 : decode cX9_stepsBetween 3 = .ok (.istore 4, 2) := by decide +kernel
theorem dX9_stepsBetween_5 : decode cX9_stepsBetween 5 = .ok (.iconst 0, 1) := by decide +kernel
theorem dX9_stepsBetween_6 : decode cX9_stepsBetween 6 = .ok (.istore 5, 2) := by decide +kernel
theorem dX9_stepsBetween_8 : decode cX9_stepsBetween 8 = .ok (.iload_n 3, 1) := by decide +kernel
theorem dX9_stepsBetween_9 : decode cX9_stepsBetween 9 = .ok (.iload 4, 2) := by decide +kernel
theorem dX9_stepsBetween_11 : decode cX9_stepsBetween 11 = .ok (.if_icmp .eq 39, 3) := by decide +kernel
theorem dX9_stepsBetween_14 : decode cX9_stepsBetween 14 = .ok (.iload 5, 2) := by decide +kernel
theorem dX9_stepsBetween_16 : decode cX9_stepsBetween 16 = .ok (.bipush 20, 2) := by decide +kernel
theorem dX9_stepsBetween_18 : decode cX9_stepsBetween 18 = .ok (.if_icmp .ge 32, 3) := by decide +kernel
theorem dX9_stepsBetween_21 : decode cX9_stepsBetween 21 = .ok (.iload_n 3, 1) := by decide +kernel
theorem dX9_stepsBetween_22 : decode cX9_stepsBetween 22 = .ok (.iload 4, 2) := by decide +kernel
theorem dX9_stepsBetween_24 : decode cX9_stepsBetween 24 = .ok (.if_icmp .le 12, 3) := by decide +kernel
theorem dX9_stepsBetween_27 : decode cX9_stepsBetween 27 = .ok (.aload_n 0, 1) := by decide +kernel
theorem dX9_stepsBetween_28 : decode cX9_stepsBetween 28 = .ok (.iload_n 3, 1) := by decide +kernel
theorem dX9_stepsBetween_29 : decode cX9_stepsBetween 29 = .ok (.invokevirtual 345, 3) := by decide +kernel
theorem dX9_stepsBetween_32 : decode cX9_stepsBetween 32 = .ok (.istore_n 3, 1) := by decide +kernel
theorem dX9_stepsBetween_33 : decode cX9_stepsBetween 33 = .ok (.goto 11, 3) := by decide +kernel
theorem dX9_stepsBetween_36 : decode cX9_stepsBetween 36 = .ok (.aload_n 0, 1) := by decide +kernel
theorem dX9_stepsBetween_37 : decode cX9_stepsBetween 37 = .ok (.iload 4, 2) := by decide +kernel
theorem dX9_stepsBetween_39 : decode cX9_stepsBetween 39 = .ok (.invokevirtual 345, 3) := by decide +kernel
theorem dX9_stepsBetween_42 : decode cX9_stepsBetween 42 = .ok (.istore 4, 2) := by decide +kernel
theorem dX9_stepsBetween_44 : decode cX9_stepsBetween 44 = .ok (.iinc 5 1, 3) := by decide +kernel
theorem dX9_stepsBetween_47 : decode cX9_stepsBetween 47 = .ok (.goto (-39), 3) := by decide +kernel
theorem dX9_stepsBetween_50 : decode cX9_stepsBetween 50 = .ok (.iload 5, 2) := by decide +kernel
theorem dX9_stepsBetween_52 : decode cX9_stepsBetween 52 = .ok (.ireturn, 1) := by decide +kernel
theorem dX9_placeAheadOf_0 : decode cX9_placeAheadOf 0 = .ok (.aload_n 0, 1) := by decide +kernel
theorem dX9_placeAheadOf_1 : decode cX9_placeAheadOf 1 = .ok (.iload_n 1, 1) := by decide +kernel
theorem dX9_placeAheadOf_2 : decode cX9_placeAheadOf 2 = .ok (.invokevirtual 105, 3) := by decide +kernel
theorem dX9_placeAheadOf_5 : decode cX9_placeAheadOf 5 = .ok (.astore_n 2, 1) := by decide +kernel
theorem dX9_placeAheadOf_6 : decode cX9_placeAheadOf 6 = .ok (.aload_n 2, 1) := by decide +kernel
theorem dX9_placeAheadOf_7 : decode cX9_placeAheadOf 7 = .ok (.ifnonnull 7, 3) := by decide +kernel
theorem dX9_placeAheadOf_10 : decode cX9_placeAheadOf 10 = .ok (.iconst (-1), 1) := by decide +kernel
theorem dX9_placeAheadOf_11 : decode cX9_placeAheadOf 11 = .ok (.goto 7, 3) := by decide +kernel
theorem dX9_placeAheadOf_14 : decode cX9_placeAheadOf 14 = .ok (.aload_n 2, 1) := by decide +kernel
theorem dX9_placeAheadOf_15 : decode cX9_placeAheadOf 15 = .ok (.getfield 290, 3) := by decide +kernel
theorem dX9_placeAheadOf_18 : decode cX9_placeAheadOf 18 = .ok (.ireturn, 1) := by decide +kernel
theorem dX9_isClash_0 : decode cX9_isClash 0 = .ok (.aload_n 1, 1) := by decide +kernel
theorem dX9_isClash_1 : decode cX9_isClash 1 = .ok (.getfield 348, 3) := by decide +kernel
theorem dX9_isClash_4 : decode cX9_isClash 4 = .ok (.aload_n 2, 1) := by decide +kernel
theorem dX9_isClash_5 : decode cX9_isClash 5 = .ok (.getfield 348, 3) := by decide +kernel
theorem dX9_isClash_8 : decode cX9_isClash 8 = .ok (.if_icmp .ne 5, 3) := by decide +kernel
theorem dX9_isClash_11 : decode cX9_isClash 11 = .ok (.iconst 0, 1) := by decide +kernel
theorem dX9_isClash_12 : decode cX9_isClash 12 = .ok (.ireturn, 1) := by decide +kernel
theorem dX9_isClash_13 : decode cX9_isClash 13 = .ok (.aload_n 1, 1) := by decide +kernel
theorem dX9_isClash_14 : decode cX9_isClash 14 = .ok (.aload_n 2, 1) := by decide +kernel
theorem dX9_isClash_15 : decode cX9_isClash 15 = .ok (.invokevirtual 349, 3) := by decide +kernel
theorem dX9_isClash_18 : decode cX9_isClash 18 = .ok (.ifCond .eq 5, 3) := by decide +kernel
theorem dX9_isClash_21 : decode cX9_isClash 21 = .ok (.iconst 1, 1) := by decide +kernel
theorem dX9_isClash_22 : decode cX9_isClash 22 = .ok (.ireturn, 1) := by decide +kernel
theorem dX9_isClash_23 : decode cX9_isClash 23 = .ok (.aload_n 1, 1) := by decide +kernel
theorem dX9_isClash_24 : decode cX9_isClash 24 = .ok (.aload_n 2, 1) := by decide +kernel
theorem dX9_isClash_25 : decode cX9_isClash 25 = .ok (.invokevirtual 353, 3) := by decide +kernel
theorem dX9_isClash_28 : decode cX9_isClash 28 = .ok (.aload_n 2, 1) := by decide +kernel
theorem dX9_isClash_29 : decode cX9_isClash 29 = .ok (.aload_n 1, 1) := by decide +kernel
theorem dX9_isClash_30 : decode cX9_isClash 30 = .ok (.invokevirtual 353, 3) := by decide +kernel
theorem dX9_isClash_33 : decode cX9_isClash 33 = .ok (.invokestatic 327, 3) := by decide +kernel
theorem dX9_isClash_36 : decode cX9_isClash 36 = .ok (.istore_n 3, 1) := by decide +kernel
theorem dX9_isClash_37 : decode cX9_isClash 37 = .ok (.aload_n 0, 1) := by decide +kernel
theorem dX9_isClash_38 : decode cX9_isClash 38 = .ok (.aload_n 1, 1) := by decide +kernel
theorem dX9_isClash_39 : decode cX9_isClash 39 = .ok (.getfield 348, 3) := by decide +kernel
theorem dX9_isClash_42 : decode cX9_isClash 42 = .ok (.aload_n 2, 1) := by decide +kernel
theorem dX9_isClash_43 : decode cX9_isClash 43 = .ok (.getfield 348, 3) := by decide +kernel
theorem dX9_isClash_46 : decode cX9_isClash 46 = .ok (.invokevirtual 213, 3) := by decide +kernel
theorem dX9_isClash_49 : decode cX9_isClash 49 = .ok (.iconst 1, 1) := by decide +kernel
theorem dX9_isClash_50 : decode cX9_isClash 50 = .ok (.iadd, 1) := by decide +kernel
theorem dX9_isClash_51 : decode cX9_isClash 51 = .ok (.iconst 2, 1) := by decide +kernel
theorem dX9_isClash_52 : decode cX9_isClash 52 = .ok (.idiv, 1) := by decide +kernel
theorem dX9_isClash_53 : decode cX9_isClash 53 = .ok (.istore 4, 2) := by decide +kernel
theorem dX9_isClash_55 : decode cX9_isClash 55 = .ok (.iload_n 3, 1) := by decide +kernel
theorem dX9_isClash_56 : decode cX9_isClash 56 = .ok (.iload 4, 2) := by decide +kernel
theorem dX9_isClash_58 : decode cX9_isClash 58 = .ok (.if_icmp .ge 7, 3) := by decide +kernel
theorem dX9_isClash_61 : decode cX9_isClash 61 = .ok (.iconst 1, 1) := by decide +kernel
theorem dX9_isClash_62 : decode cX9_isClash 62 = .ok (.goto 4, 3) := by decide +kernel
theorem dX9_isClash_65 : decode cX9_isClash 65 = .ok (.iconst 0, 1) := by decide +kernel
theorem dX9_isClash_66 : decode cX9_isClash 66 = .ok (.ireturn, 1) := by decide +kernel
theorem dX9_shutUpTo_0 : decode cX9_shutUpTo 0 = .ok (.iconst 0, 1) := by decide +kernel
theorem dX9_shutUpTo_1 : decode cX9_shutUpTo 1 = .ok (.istore_n 2, 1) := by decide +kernel
theorem dX9_shutUpTo_2 : decode cX9_shutUpTo 2 = .ok (.iload_n 1, 1) := by decide +kernel
theorem dX9_shutUpTo_3 : decode cX9_shutUpTo 3 = .ok (.istore_n 3, 1) := by decide +kernel
theorem dX9_shutUpTo_4 : decode cX9_shutUpTo 4 = .ok (.iconst 0, 1) := by decide +kernel
theorem dX9_shutUpTo_5 : decode cX9_shutUpTo 5 = .ok (.istore 4, 2) := by decide +kernel
theorem dX9_shutUpTo_7 : decode cX9_shutUpTo 7 = .ok (.iload 4, 2) := by decide +kernel
theorem dX9_shutUpTo_9 : decode cX9_shutUpTo 9 = .ok (.bipush 10, 2) := by decide +kernel
theorem dX9_shutUpTo_11 : decode cX9_shutUpTo 11 = .ok (.if_icmp .ge 26, 3) := by decide +kernel
theorem dX9_shutUpTo_14 : decode cX9_shutUpTo 14 = .ok (.iload_n 3, 1) := by decide +kernel
theorem dX9_shutUpTo_15 : decode cX9_shutUpTo 15 = .ok (.iconst (-1), 1) := by decide +kernel
theorem dX9_shutUpTo_16 : decode cX9_shutUpTo 16 = .ok (.if_icmp .eq 21, 3) := by decide +kernel
theorem dX9_shutUpTo_19 : decode cX9_shutUpTo 19 = .ok (.iload_n 2, 1) := by decide +kernel
theorem dX9_shutUpTo_20 : decode cX9_shutUpTo 20 = .ok (.iconst 1, 1) := by decide +kernel
theorem dX9_shutUpTo_21 : decode cX9_shutUpTo 21 = .ok (.iload_n 3, 1) := by decide +kernel
theorem dX9_shutUpTo_22 : decode cX9_shutUpTo 22 = .ok (.ishl, 1) := by decide +kernel
theorem dX9_shutUpTo_23 : decode cX9_shutUpTo 23 = .ok (.ior, 1) := by decide +kernel
theorem dX9_shutUpTo_24 : decode cX9_shutUpTo 24 = .ok (.istore_n 2, 1) := by decide +kernel
theorem dX9_shutUpTo_25 : decode cX9_shutUpTo 25 = .ok (.aload_n 0, 1) := by decide +kernel
theorem dX9_shutUpTo_26 : decode cX9_shutUpTo 26 = .ok (.iload_n 3, 1) := by decide +kernel
theorem dX9_shutUpTo_27 : decode cX9_shutUpTo 27 = .ok (.invokevirtual 345, 3) := by decide +kernel
theorem dX9_shutUpTo_30 : decode cX9_shutUpTo 30 = .ok (.istore_n 3, 1) := by decide +kernel
theorem dX9_shutUpTo_31 : decode cX9_shutUpTo 31 = .ok (.iinc 4 1, 3) := by decide +kernel
theorem dX9_shutUpTo_34 : decode cX9_shutUpTo 34 = .ok (.goto (-27), 3) := by decide +kernel
theorem dX9_shutUpTo_37 : decode cX9_shutUpTo 37 = .ok (.iload_n 2, 1) := by decide +kernel
theorem dX9_shutUpTo_38 : decode cX9_shutUpTo 38 = .ok (.aload_n 0, 1) := by decide +kernel
theorem dX9_shutUpTo_39 : decode cX9_shutUpTo 39 = .ok (.getfield 44, 3) := by decide +kernel
theorem dX9_shutUpTo_42 : decode cX9_shutUpTo 42 = .ok (.aload_n 0, 1) := by decide +kernel
theorem dX9_shutUpTo_43 : decode cX9_shutUpTo 43 = .ok (.getfield 201, 3) := by decide +kernel
theorem dX9_shutUpTo_46 : decode cX9_shutUpTo 46 = .ok (.invokevirtual 181, 3) := by decide +kernel
theorem dX9_shutUpTo_49 : decode cX9_shutUpTo 49 = .ok (.iconst (-1), 1) := by decide +kernel
theorem dX9_shutUpTo_50 : decode cX9_shutUpTo 50 = .ok (.ixor, 1) := by decide +kernel
theorem dX9_shutUpTo_51 : decode cX9_shutUpTo 51 = .ok (.iand, 1) := by decide +kernel
theorem dX9_shutUpTo_52 : decode cX9_shutUpTo 52 = .ok (.ireturn, 1) := by decide +kernel
theorem dX9_quickestCock_0 : decode cX9_quickestCock 0 = .ok (.iconst 0, 1) := by decide +kernel
theorem dX9_quickestCock_1 : decode cX9_quickestCock 1 = .ok (.istore_n 2, 1) := by decide +kernel
theorem dX9_quickestCock_2 : decode cX9_quickestCock 2 = .ok (.iconst 1, 1) := by decide +kernel
theorem dX9_quickestCock_3 : decode cX9_quickestCock 3 = .ok (.istore_n 3, 1) := by decide +kernel
theorem dX9_quickestCock_4 : decode cX9_quickestCock 4 = .ok (.iload_n 3, 1) := by decide +kernel
theorem dX9_quickestCock_5 : decode cX9_quickestCock 5 = .ok (.iconst 3, 1) := by decide +kernel
theorem dX9_quickestCock_6 : decode cX9_quickestCock 6 = .ok (.if_icmp .ge 26, 3) := by decide +kernel
theorem dX9_quickestCock_9 : decode cX9_quickestCock 9 = .ok (.aload_n 0, 1) := by decide +kernel
theorem dX9_quickestCock_10 : decode cX9_quickestCock 10 = .ok (.iload_n 3, 1) := by decide +kernel
theorem dX9_quickestCock_11 : decode cX9_quickestCock 11 = .ok (.iload_n 1, 1) := by decide +kernel
theorem dX9_quickestCock_12 : decode cX9_quickestCock 12 = .ok (.invokevirtual 228, 3) := by decide +kernel
theorem dX9_quickestCock_15 : decode cX9_quickestCock 15 = .ok (.aload_n 0, 1) := by decide +kernel
theorem dX9_quickestCock_16 : decode cX9_quickestCock 16 = .ok (.iload_n 2, 1) := by decide +kernel
theorem dX9_quickestCock_17 : decode cX9_quickestCock 17 = .ok (.iload_n 1, 1) := by decide +kernel
theorem dX9_quickestCock_18 : decode cX9_quickestCock 18 = .ok (.invokevirtual 228, 3) := by decide +kernel
theorem dX9_quickestCock_21 : decode cX9_quickestCock 21 = .ok (.if_icmp .ge 5, 3) := by decide +kernel
theorem dX9_quickestCock_24 : decode cX9_quickestCock 24 = .ok (.iload_n 3, 1) := by decide +kernel
theorem dX9_quickestCock_25 : decode cX9_quickestCock 25 = .ok (.istore_n 2, 1) := by decide +kernel
theorem dX9_quickestCock_26 : decode cX9_quickestCock 26 = .ok (.iinc 3 1, 3) := by decide +kernel
theorem dX9_quickestCock_29 : decode cX9_quickestCock 29 = .ok (.goto (-25), 3) := by decide +kernel
theorem dX9_quickestCock_32 : decode cX9_quickestCock 32 = .ok (.iload_n 2, 1) := by decide +kernel
theorem dX9_quickestCock_33 : decode cX9_quickestCock 33 = .ok (.ireturn, 1) := by decide +kernel
theorem dX9_walkLength_0 : decode cX9_walkLength 0 = .ok (.iload_n 2, 1) := by decide +kernel
theorem dX9_walkLength_1 : decode cX9_walkLength 1 = .ok (.invokestatic 357, 3) := by decide +kernel
theorem dX9_walkLength_4 : decode cX9_walkLength 4 = .ok (.istore_n 3, 1) := by decide +kernel
theorem dX9_walkLength_5 : decode cX9_walkLength 5 = .ok (.bipush 31, 2) := by decide +kernel
theorem dX9_walkLength_7 : decode cX9_walkLength 7 = .ok (.iload_n 2, 1) := by decide +kernel
theorem dX9_walkLength_8 : decode cX9_walkLength 8 = .ok (.invokestatic 360, 3) := by decide +kernel
theorem dX9_walkLength_11 : decode cX9_walkLength 11 = .ok (.isub, 1) := by decide +kernel
theorem dX9_walkLength_12 : decode cX9_walkLength 12 = .ok (.istore 4, 2) := by decide +kernel
theorem dX9_walkLength_14 : decode cX9_walkLength 14 = .ok (.aload_n 0, 1) := by decide +kernel
theorem dX9_walkLength_15 : decode cX9_walkLength 15 = .ok (.aload_n 0, 1) := by decide +kernel
theorem dX9_walkLength_16 : decode cX9_walkLength 16 = .ok (.getfield 31, 3) := by decide +kernel
theorem dX9_walkLength_19 : decode cX9_walkLength 19 = .ok (.iload_n 1, 1) := by decide +kernel
theorem dX9_walkLength_20 : decode cX9_walkLength 20 = .ok (.iaload, 1) := by decide +kernel
theorem dX9_walkLength_21 : decode cX9_walkLength 21 = .ok (.iload_n 3, 1) := by decide +kernel
theorem dX9_walkLength_22 : decode cX9_walkLength 22 = .ok (.invokevirtual 213, 3) := by decide +kernel
theorem dX9_walkLength_25 : decode cX9_walkLength 25 = .ok (.istore 5, 2) := by decide +kernel
theorem dX9_walkLength_27 : decode cX9_walkLength 27 = .ok (.aload_n 0, 1) := by decide +kernel
theorem dX9_walkLength_28 : decode cX9_walkLength 28 = .ok (.aload_n 0, 1) := by decide +kernel
theorem dX9_walkLength_29 : decode cX9_walkLength 29 = .ok (.getfield 31, 3) := by decide +kernel
theorem dX9_walkLength_32 : decode cX9_walkLength 32 = .ok (.iload_n 1, 1) := by decide +kernel
theorem dX9_walkLength_33 : decode cX9_walkLength 33 = .ok (.iaload, 1) := by decide +kernel
theorem dX9_walkLength_34 : decode cX9_walkLength 34 = .ok (.iload 4, 2) := by decide +kernel
theorem dX9_walkLength_36 : decode cX9_walkLength 36 = .ok (.invokevirtual 213, 3) := by decide +kernel
theorem dX9_walkLength_39 : decode cX9_walkLength 39 = .ok (.istore 6, 2) := by decide +kernel
theorem dX9_walkLength_41 : decode cX9_walkLength 41 = .ok (.iload 5, 2) := by decide +kernel
theorem dX9_walkLength_43 : decode cX9_walkLength 43 = .ok (.iload 6, 2) := by decide +kernel
theorem dX9_walkLength_45 : decode cX9_walkLength 45 = .ok (.invokestatic 327, 3) := by decide +kernel
theorem dX9_walkLength_48 : decode cX9_walkLength 48 = .ok (.aload_n 0, 1) := by decide +kernel
theorem dX9_walkLength_49 : decode cX9_walkLength 49 = .ok (.iload_n 3, 1) := by decide +kernel
theorem dX9_walkLength_50 : decode cX9_walkLength 50 = .ok (.iload 4, 2) := by decide +kernel
theorem dX9_walkLength_52 : decode cX9_walkLength 52 = .ok (.invokevirtual 213, 3) := by decide +kernel
theorem dX9_walkLength_55 : decode cX9_walkLength 55 = .ok (.iadd, 1) := by decide +kernel
theorem dX9_walkLength_56 : decode cX9_walkLength 56 = .ok (.ireturn, 1) := by decide +kernel
theorem dX9_refusalOfIronSum_0 : decode cX9_refusalOfIronSum 0 = .ok (.iload_n 0, 1) := by decide +kernel
theorem dX9_refusalOfIronSum_1 : decode cX9_refusalOfIronSum 1 = .ok (.ifCond .ge 6, 3) := by decide +kernel
theorem dX9_refusalOfIronSum_4 : decode cX9_refusalOfIronSum 4 = .ok (.bipush (-4), 2) := by decide +kernel
theorem dX9_refusalOfIronSum_6 : decode cX9_refusalOfIronSum 6 = .ok (.ireturn, 1) := by decide +kernel
theorem dX9_refusalOfIronSum_7 : decode cX9_refusalOfIronSum 7 = .ok (.iload_n 0, 1) := by decide +kernel
theorem dX9_refusalOfIronSum_8 : decode cX9_refusalOfIronSum 8 = .ok (.sipush 10000, 3) := by decide +kernel
theorem dX9_refusalOfIronSum_11 : decode cX9_refusalOfIronSum 11 = .ok (.if_icmp .le 8, 3) := by decide +kernel
theorem dX9_refusalOfIronSum_14 : decode cX9_refusalOfIronSum 14 = .ok (.bipush (-6), 2) := by decide +kernel
theorem dX9_refusalOfIronSum_16 : decode cX9_refusalOfIronSum 16 = .ok (.goto 4, 3) := by decide +kernel
theorem dX9_refusalOfIronSum_19 : decode cX9_refusalOfIronSum 19 = .ok (.iconst 0, 1) := by decide +kernel
theorem dX9_refusalOfIronSum_20 : decode cX9_refusalOfIronSum 20 = .ok (.ireturn, 1) := by decide +kernel
theorem dX9_findIron_0 : decode cX9_findIron 0 = .ok (.iconst 0, 1) := by decide +kernel
theorem dX9_findIron_1 : decode cX9_findIron 1 = .ok (.istore_n 2, 1) := by decide +kernel
theorem dX9_findIron_2 : decode cX9_findIron 2 = .ok (.iload_n 2, 1) := by decide +kernel
theorem dX9_findIron_3 : decode cX9_findIron 3 = .ok (.aload_n 0, 1) := by decide +kernel
theorem dX9_findIron_4 : decode cX9_findIron 4 = .ok (.getfield 10, 3) := by decide +kernel
theorem dX9_findIron_7 : decode cX9_findIron 7 = .ok (.invokevirtual 78, 3) := by decide +kernel
theorem dX9_findIron_10 : decode cX9_findIron 10 = .ok (.if_icmp .ge 74, 3) := by decide +kernel
theorem dX9_findIron_13 : decode cX9_findIron 13 = .ok (.aload_n 0, 1) := by decide +kernel
theorem dX9_findIron_14 : decode cX9_findIron 14 = .ok (.getfield 10, 3) := by decide +kernel
theorem dX9_findIron_17 : decode cX9_findIron 17 = .ok (.iload_n 2, 1) := by decide +kernel
theorem dX9_findIron_18 : decode cX9_findIron 18 = .ok (.invokevirtual 190, 3) := by decide +kernel
theorem dX9_findIron_21 : decode cX9_findIron 21 = .ok (.checkcast 82, 3) := by decide +kernel
theorem dX9_findIron_24 : decode cX9_findIron 24 = .ok (.astore_n 3, 1) := by decide +kernel
theorem dX9_findIron_25 : decode cX9_findIron 25 = .ok (.aload_n 3, 1) := by decide +kernel
theorem dX9_findIron_26 : decode cX9_findIron 26 = .ok (.getfield 207, 3) := by decide +kernel
theorem dX9_findIron_29 : decode cX9_findIron 29 = .ok (.ifCond .eq 9, 3) := by decide +kernel
theorem dX9_findIron_32 : decode cX9_findIron 32 = .ok (.sipush 10001, 3) := by decide +kernel
theorem dX9_findIron_35 : decode cX9_findIron 35 = .ok (.goto 14, 3) := by decide +kernel
theorem dX9_findIron_38 : decode cX9_findIron 38 = .ok (.aload_n 3, 1) := by decide +kernel
theorem dX9_findIron_39 : decode cX9_findIron 39 = .ok (.getfield 363, 3) := by decide +kernel
theorem dX9_findIron_42 : decode cX9_findIron 42 = .ok (.aload_n 0, 1) := by decide +kernel
theorem dX9_findIron_43 : decode cX9_findIron 43 = .ok (.getfield 35, 3) := by decide +kernel
theorem dX9_findIron_46 : decode cX9_findIron 46 = .ok (.iconst 2, 1) := by decide +kernel
theorem dX9_findIron_47 : decode cX9_findIron 47 = .ok (.iaload, 1) := by decide +kernel
theorem dX9_findIron_48 : decode cX9_findIron 48 = .ok (.imul, 1) := by decide +kernel
theorem dX9_findIron_49 : decode cX9_findIron 49 = .ok (.istore 4, 2) := by decide +kernel
theorem dX9_findIron_51 : decode cX9_findIron 51 = .ok (.aload_n 0, 1) := by decide +kernel
theorem dX9_findIron_52 : decode cX9_findIron 52 = .ok (.getfield 58, 3) := by decide +kernel
theorem dX9_findIron_55 : decode cX9_findIron 55 = .ok (.iload_n 2, 1) := by decide +kernel
theorem dX9_findIron_56 : decode cX9_findIron 56 = .ok (.iload 4, 2) := by decide +kernel
theorem dX9_findIron_58 : decode cX9_findIron 58 = .ok (.aload_n 3, 1) := by decide +kernel
theorem dX9_findIron_59 : decode cX9_findIron 59 = .ok (.aload_n 0, 1) := by decide +kernel
theorem dX9_findIron_60 : decode cX9_findIron 60 = .ok (.invokevirtual 84, 3) := by decide +kernel
theorem dX9_findIron_63 : decode cX9_findIron 63 = .ok (.invokevirtual 287, 3) := by decide +kernel
theorem dX9_findIron_66 : decode cX9_findIron 66 = .ok (.aload_n 0, 1) := by decide +kernel
theorem dX9_findIron_67 : decode cX9_findIron 67 = .ok (.getfield 44, 3) := by decide +kernel
theorem dX9_findIron_70 : decode cX9_findIron 70 = .ok (.iload_n 2, 1) := by decide +kernel
theorem dX9_findIron_71 : decode cX9_findIron 71 = .ok (.invokevirtual 364, 3) := by decide +kernel
theorem dX9_findIron_74 : decode cX9_findIron 74 = .ok (.imul, 1) := by decide +kernel
theorem dX9_findIron_75 : decode cX9_findIron 75 = .ok (.invokevirtual 367, 3) := by decide +kernel
theorem dX9_findIron_78 : decode cX9_findIron 78 = .ok (.iinc 2 1, 3) := by decide +kernel
theorem dX9_findIron_81 : decode cX9_findIron 81 = .ok (.goto (-79), 3) := by decide +kernel
theorem dX9_findIron_84 : decode cX9_findIron 84 = .ok (.aload_n 0, 1) := by decide +kernel
theorem dX9_findIron_85 : decode cX9_findIron 85 = .ok (.getfield 58, 3) := by decide +kernel
theorem dX9_findIron_88 : decode cX9_findIron 88 = .ok (.aload_n 0, 1) := by decide +kernel
theorem dX9_findIron_89 : decode cX9_findIron 89 = .ok (.getfield 10, 3) := by decide +kernel
theorem dX9_findIron_92 : decode cX9_findIron 92 = .ok (.invokevirtual 78, 3) := by decide +kernel
theorem dX9_findIron_95 : decode cX9_findIron 95 = .ok (.iload_n 1, 1) := by decide +kernel
theorem dX9_findIron_96 : decode cX9_findIron 96 = .ok (.invokevirtual 370, 3) := by decide +kernel
theorem dX9_findIron_99 : decode cX9_findIron 99 = .ok (.ireturn, 1) := by decide +kernel
theorem dX9_refusalOfDays_0 : decode cX9_refusalOfDays 0 = .ok (.iload_n 1, 1) := by decide +kernel
theorem dX9_refusalOfDays_1 : decode cX9_refusalOfDays 1 = .ok (.iconst 1, 1) := by decide +kernel
theorem dX9_refusalOfDays_2 : decode cX9_refusalOfDays 2 = .ok (.aload_n 0, 1) := by decide +kernel
theorem dX9_refusalOfDays_3 : decode cX9_refusalOfDays 3 = .ok (.getfield 10, 3) := by decide +kernel
theorem dX9_refusalOfDays_6 : decode cX9_refusalOfDays 6 = .ok (.invokevirtual 78, 3) := by decide +kernel
theorem dX9_refusalOfDays_9 : decode cX9_refusalOfDays 9 = .ok (.ishl, 1) := by decide +kernel
theorem dX9_refusalOfDays_10 : decode cX9_refusalOfDays 10 = .ok (.iconst 1, 1) := by decide +kernel
theorem dX9_refusalOfDays_11 : decode cX9_refusalOfDays 11 = .ok (.isub, 1) := by decide +kernel
theorem dX9_refusalOfDays_12 : decode cX9_refusalOfDays 12 = .ok (.iconst (-1), 1) := by decide +kernel
theorem dX9_refusalOfDays_13 : decode cX9_refusalOfDays 13 = .ok (.ixor, 1) := by decide +kernel
theorem dX9_refusalOfDays_14 : decode cX9_refusalOfDays 14 = .ok (.iand, 1) := by decide +kernel
theorem dX9_refusalOfDays_15 : decode cX9_refusalOfDays 15 = .ok (.ifCond .eq 5, 3) := by decide +kernel
theorem dX9_refusalOfDays_18 : decode cX9_refusalOfDays 18 = .ok (.iconst (-1), 1) := by decide +kernel
theorem dX9_refusalOfDays_19 : decode cX9_refusalOfDays 19 = .ok (.ireturn, 1) := by decide +kernel
theorem dX9_refusalOfDays_20 : decode cX9_refusalOfDays 20 = .ok (.iload_n 1, 1) := by decide +kernel
theorem dX9_refusalOfDays_21 : decode cX9_refusalOfDays 21 = .ok (.invokestatic 220, 3) := by decide +kernel
theorem dX9_refusalOfDays_24 : decode cX9_refusalOfDays 24 = .ok (.bipush 6, 2) := by decide +kernel
theorem dX9_refusalOfDays_26 : decode cX9_refusalOfDays 26 = .ok (.if_icmp .le 6, 3) := by decide +kernel
theorem dX9_refusalOfDays_29 : decode cX9_refusalOfDays 29 = .ok (.bipush (-6), 2) := by decide +kernel
theorem dX9_refusalOfDays_31 : decode cX9_refusalOfDays 31 = .ok (.ireturn, 1) := by decide +kernel
theorem dX9_refusalOfDays_32 : decode cX9_refusalOfDays 32 = .ok (.iload_n 2, 1) := by decide +kernel
theorem dX9_refusalOfDays_33 : decode cX9_refusalOfDays 33 = .ok (.ifCond .ge 6, 3) := by decide +kernel
theorem dX9_refusalOfDays_36 : decode cX9_refusalOfDays 36 = .ok (.bipush (-4), 2) := by decide +kernel
theorem dX9_refusalOfDays_38 : decode cX9_refusalOfDays 38 = .ok (.ireturn, 1) := by decide +kernel
theorem dX9_refusalOfDays_39 : decode cX9_refusalOfDays 39 = .ok (.iload_n 2, 1) := by decide +kernel
theorem dX9_refusalOfDays_40 : decode cX9_refusalOfDays 40 = .ok (.ldc 100, 2) := by decide +kernel
theorem dX9_refusalOfDays_42 : decode cX9_refusalOfDays 42 = .ok (.if_icmp .le 8, 3) := by decide +kernel
theorem dX9_refusalOfDays_45 : decode cX9_refusalOfDays 45 = .ok (.bipush (-6), 2) := by decide +kernel
theorem dX9_refusalOfDays_47 : decode cX9_refusalOfDays 47 = .ok (.goto 4, 3) := by decide +kernel
theorem dX9_refusalOfDays_50 : decode cX9_refusalOfDays 50 = .ok (.iconst 0, 1) := by decide +kernel
theorem dX9_refusalOfDays_51 : decode cX9_refusalOfDays 51 = .ok (.ireturn, 1) := by decide +kernel
theorem dX9_findDays_0 : decode cX9_findDays 0 = .ok (.aload_n 0, 1) := by decide +kernel
theorem dX9_findDays_1 : decode cX9_findDays 1 = .ok (.getfield 65, 3) := by decide +kernel
theorem dX9_findDays_4 : decode cX9_findDays 4 = .ok (.iload_n 2, 1) := by decide +kernel
theorem dX9_findDays_5 : decode cX9_findDays 5 = .ok (.invokevirtual 373, 3) := by decide +kernel
theorem dX9_findDays_8 : decode cX9_findDays 8 = .ok (.iconst 0, 1) := by decide +kernel
theorem dX9_findDays_9 : decode cX9_findDays 9 = .ok (.istore_n 3, 1) := by decide +kernel
theorem dX9_findDays_10 : decode cX9_findDays 10 = .ok (.iload_n 3, 1) := by decide +kernel
theorem dX9_findDays_11 : decode cX9_findDays 11 = .ok (.aload_n 0, 1) := by decide +kernel
theorem dX9_findDays_12 : decode cX9_findDays 12 = .ok (.getfield 10, 3) := by decide +kernel
theorem dX9_findDays_15 : decode cX9_findDays 15 = .ok (.invokevirtual 78, 3) := by decide +kernel
theorem dX9_findDays_18 : decode cX9_findDays 18 = .ok (.if_icmp .ge 38, 3) := by decide +kernel
theorem dX9_findDays_21 : decode cX9_findDays 21 = .ok (.iload_n 1, 1) := by decide +kernel
theorem dX9_findDays_22 : decode cX9_findDays 22 = .ok (.iload_n 3, 1) := by decide +kernel
theorem dX9_findDays_23 : decode cX9_findDays 23 = .ok (.invokestatic 187, 3) := by decide +kernel
theorem dX9_findDays_26 : decode cX9_findDays 26 = .ok (.ifCond .eq 24, 3) := by decide +kernel
theorem dX9_findDays_29 : decode cX9_findDays 29 = .ok (.aload_n 0, 1) := by decide +kernel
theorem dX9_findDays_30 : decode cX9_findDays 30 = .ok (.getfield 65, 3) := by decide +kernel
theorem dX9_findDays_33 : decode cX9_findDays 33 = .ok (.aload_n 0, 1) := by decide +kernel
theorem dX9_findDays_34 : decode cX9_findDays 34 = .ok (.getfield 10, 3) := by decide +kernel
theorem dX9_findDays_37 : decode cX9_findDays 37 = .ok (.iload_n 3, 1) := by decide +kernel
theorem dX9_findDays_38 : decode cX9_findDays 38 = .ok (.invokevirtual 190, 3) := by decide +kernel
theorem dX9_findDays_41 : decode cX9_findDays 41 = .ok (.checkcast 82, 3) := by decide +kernel
theorem dX9_findDays_44 : decode cX9_findDays 44 = .ok (.invokevirtual 293, 3) := by decide +kernel
theorem dX9_findDays_47 : decode cX9_findDays 47 = .ok (.invokevirtual 376, 3) := by decide +kernel
theorem dX9_findDays_50 : decode cX9_findDays 50 = .ok (.iinc 3 1, 3) := by decide +kernel
theorem dX9_findDays_53 : decode cX9_findDays 53 = .ok (.goto (-43), 3) := by decide +kernel
theorem dX9_findDays_56 : decode cX9_findDays 56 = .ok (.aload_n 0, 1) := by decide +kernel
theorem dX9_findDays_57 : decode cX9_findDays 57 = .ok (.getfield 65, 3) := by decide +kernel
theorem dX9_findDays_60 : decode cX9_findDays 60 = .ok (.invokevirtual 378, 3) := by decide +kernel
theorem dX9_findDays_63 : decode cX9_findDays 63 = .ok (.return_, 1) := by decide +kernel
theorem dX9_lawOn_0 : decode cX9_lawOn 0 = .ok (.aconst_null, 1) := by decide +kernel
theorem dX9_lawOn_1 : decode cX9_lawOn 1 = .ok (.astore_n 2, 1) := by decide +kernel
theorem dX9_lawOn_2 : decode cX9_lawOn 2 = .ok (.iconst 0, 1) := by decide +kernel
theorem dX9_lawOn_3 : decode cX9_lawOn 3 = .ok (.istore_n 3, 1) := by decide +kernel
theorem dX9_lawOn_4 : decode cX9_lawOn 4 = .ok (.iload_n 3, 1) := by decide +kernel
theorem dX9_lawOn_5 : decode cX9_lawOn 5 = .ok (.aload_n 0, 1) := by decide +kernel
theorem dX9_lawOn_6 : decode cX9_lawOn 6 = .ok (.getfield 22, 3) := by decide +kernel
theorem dX9_lawOn_9 : decode cX9_lawOn 9 = .ok (.invokevirtual 78, 3) := by decide +kernel
theorem dX9_lawOn_12 : decode cX9_lawOn 12 = .ok (.if_icmp .ge 50, 3) := by decide +kernel
theorem dX9_lawOn_15 : decode cX9_lawOn 15 = .ok (.aload_n 0, 1) := by decide +kernel
theorem dX9_lawOn_16 : decode cX9_lawOn 16 = .ok (.getfield 22, 3) := by decide +kernel
theorem dX9_lawOn_19 : decode cX9_lawOn 19 = .ok (.iload_n 3, 1) := by decide +kernel
theorem dX9_lawOn_20 : decode cX9_lawOn 20 = .ok (.invokevirtual 190, 3) := by decide +kernel
theorem dX9_lawOn_23 : decode cX9_lawOn 23 = .ok (.checkcast 264, 3) := by decide +kernel
theorem dX9_lawOn_26 : decode cX9_lawOn 26 = .ok (.astore 4, 2) := by decide +kernel
theorem dX9_lawOn_28 : decode cX9_lawOn 28 = .ok (.aload 4, 2) := by decide +kernel
theorem dX9_lawOn_30 : decode cX9_lawOn 30 = .ok (.getfield 381, 3) := by decide +kernel
theorem dX9_lawOn_33 : decode cX9_lawOn 33 = .ok (.iload_n 1, 1) := by decide +kernel
theorem dX9_lawOn_34 : decode cX9_lawOn 34 = .ok (.if_icmp .gt 22, 3) := by decide +kernel
theorem dX9_lawOn_37 : decode cX9_lawOn 37 = .ok (.aload_n 2, 1) := by decide +kernel
theorem dX9_lawOn_38 : decode cX9_lawOn 38 = .ok (.ifnull 15, 3) := by decide +kernel
theorem dX9_lawOn_41 : decode cX9_lawOn 41 = .ok (.aload 4, 2) := by decide +kernel
theorem dX9_lawOn_43 : decode cX9_lawOn 43 = .ok (.getfield 381, 3) := by decide +kernel
theorem dX9_lawOn_46 : decode cX9_lawOn 46 = .ok (.aload_n 2, 1) := by decide +kernel
theorem dX9_lawOn_47 : decode cX9_lawOn 47 = .ok (.getfield 381, 3) := by decide +kernel
theorem dX9_lawOn_50 : decode cX9_lawOn 50 = .ok (.if_icmp .lt 6, 3) := by decide +kernel
theorem dX9_lawOn_53 : decode cX9_lawOn 53 = .ok (.aload 4, 2) := by decide +kernel
theorem dX9_lawOn_55 : decode cX9_lawOn 55 = .ok (.astore_n 2, 1) := by decide +kernel
theorem dX9_lawOn_56 : decode cX9_lawOn 56 = .ok (.iinc 3 1, 3) := by decide +kernel
theorem dX9_lawOn_59 : decode cX9_lawOn 59 = .ok (.goto (-55), 3) := by decide +kernel
theorem dX9_lawOn_62 : decode cX9_lawOn 62 = .ok (.aload_n 2, 1) := by decide +kernel
theorem dX9_lawOn_63 : decode cX9_lawOn 63 = .ok (.areturn, 1) := by decide +kernel
theorem dX10_init_0 : decode cX10_init 0 = .ok (.aload_n 0, 1) := by decide +kernel
theorem dX10_init_1 : decode cX10_init 1 = .ok (.invokespecial 1, 3) := by decide +kernel
theorem dX10_init_4 : decode cX10_init 4 = .ok (.aload_n 0, 1) := by decide +kernel
theorem dX10_init_5 : decode cX10_init 5 = .ok (.bipush 100, 2) := by decide +kernel
theorem dX10_init_7 : decode cX10_init 7 = .ok (.putfield 7, 3) := by decide +kernel
theorem dX10_init_10 : decode cX10_init 10 = .ok (.aload_n 0, 1) := by decide +kernel
theorem dX10_init_11 : decode cX10_init 11 = .ok (.iconst 1, 1) := by decide +kernel
theorem dX10_init_12 : decode cX10_init 12 = .ok (.putfield 13, 3) := by decide +kernel
theorem dX10_init_15 : decode cX10_init 15 = .ok (.aload_n 0, 1) := by decide +kernel
theorem dX10_init_16 : decode cX10_init 16 = .ok (.bipush 10, 2) := by decide +kernel
theorem dX10_init_18 : decode cX10_init 18 = .ok (.putfield 16, 3) := by decide +kernel
theorem dX10_init_21 : decode cX10_init 21 = .ok (.aload_n 0, 1) := by decide +kernel
theorem dX10_init_22 : decode cX10_init 22 = .ok (.bipush 10, 2) := by decide +kernel
theorem dX10_init_24 : decode cX10_init 24 = .ok (.newarray .int, 2) := by decide +kernel
theorem dX10_init_26 : decode cX10_init 26 = .ok (.putfield 19, 3) := by decide +kernel
theorem dX10_init_29 : decode cX10_init 29 = .ok (.aload_n 0, 1) := by decide +kernel
theorem dX10_init_30 : decode cX10_init 30 = .ok (.bipush 10, 2) := by decide +kernel
theorem dX10_init_32 : decode cX10_init 32 = .ok (.newarray .int, 2) := by decide +kernel
theorem dX10_init_34 : decode cX10_init 34 = .ok (.putfield 23, 3) := by decide +kernel
theorem dX10_init_37 : decode cX10_init 37 = .ok (.aload_n 0, 1) := by decide +kernel
theorem dX10_init_38 : decode cX10_init 38 = .ok (.bipush 10, 2) := by decide +kernel
theorem dX10_init_40 : decode cX10_init 40 = .ok (.newarray .int, 2) := by decide +kernel
theorem dX10_init_42 : decode cX10_init 42 = .ok (.putfield 26, 3) := by decide +kernel
theorem dX10_init_45 : decode cX10_init 45 = .ok (.aload_n 0, 1) := by decide +kernel
theorem dX10_init_46 : decode cX10_init 46 = .ok (.bipush 10, 2) := by decide +kernel
theorem dX10_init_48 : decode cX10_init 48 = .ok (.newarray .boolean, 2) := by decide +kernel
theorem dX10_init_50 : decode cX10_init 50 = .ok (.putfield 29, 3) := by decide +kernel
theorem dX10_init_53 : decode cX10_init 53 = .ok (.aload_n 0, 1) := by decide +kernel
theorem dX10_init_54 : decode cX10_init 54 = .ok (.bipush 10, 2) := by decide +kernel
theorem dX10_init_56 : decode cX10_init 56 = .ok (.newarray .int, 2) := by decide +kernel
theorem dX10_init_58 : decode cX10_init 58 = .ok (.putfield 33, 3) := by decide +kernel
theorem dX10_init_61 : decode cX10_init 61 = .ok (.aload_n 0, 1) := by decide +kernel
theorem dX10_init_62 : decode cX10_init 62 = .ok (.bipush 10, 2) := by decide +kernel
theorem dX10_init_64 : decode cX10_init 64 = .ok (.newarray .int, 2) := by decide +kernel
theorem dX10_init_66 : decode cX10_init 66 = .ok (.putfield 36, 3) := by decide +kernel
theorem dX10_init_69 : decode cX10_init 69 = .ok (.aload_n 0, 1) := by decide +kernel
theorem dX10_init_70 : decode cX10_init 70 = .ok (.bipush 10, 2) := by decide +kernel
theorem dX10_init_72 : decode cX10_init 72 = .ok (.newarray .int, 2) := by decide +kernel
theorem dX10_init_74 : decode cX10_init 74 = .ok (.putfield 39, 3) := by decide +kernel
theorem dX10_init_77 : decode cX10_init 77 = .ok (.aload_n 0, 1) := by decide +kernel
theorem dX10_init_78 : decode cX10_init 78 = .ok (.bipush 10, 2) := by decide +kernel
theorem dX10_init_80 : decode cX10_init 80 = .ok (.newarray .boolean, 2) := by decide +kernel
theorem dX10_init_82 : decode cX10_init 82 = .ok (.putfield 42, 3) := by decide +kernel
theorem dX10_init_85 : decode cX10_init 85 = .ok (.aload_n 0, 1) := by decide +kernel
theorem dX10_init_86 : decode cX10_init 86 = .ok (.bipush 24, 2) := by decide +kernel
theorem dX10_init_88 : decode cX10_init 88 = .ok (.newarray .int, 2) := by decide +kernel
theorem dX10_init_90 : decode cX10_init 90 = .ok (.putfield 45, 3) := by decide +kernel
theorem dX10_init_93 : decode cX10_init 93 = .ok (.aload_n 0, 1) := by decide +kernel
theorem dX10_init_94 : decode cX10_init 94 = .ok (.bipush 24, 2) := by decide +kernel
theorem dX10_init_96 : decode cX10_init 96 = .ok (.newarray .int, 2) := by decide +kernel
theorem dX10_init_98 : decode cX10_init 98 = .ok (.putfield 48, 3) := by decide +kernel
theorem dX10_init_101 : decode cX10_init 101 = .ok (.aload_n 0, 1) := by decide +kernel
theorem dX10_init_102 : decode cX10_init 102 = .ok (.bipush 24, 2) := by decide +kernel
theorem dX10_init_104 : decode cX10_init 104 = .ok (.newarray .int, 2) := by decide +kernel
theorem dX10_init_106 : decode cX10_init 106 = .ok (.putfield 51, 3) := by decide +kernel
theorem dX10_init_109 : decode cX10_init 109 = .ok (.aload_n 0, 1) := by decide +kernel
theorem dX10_init_110 : decode cX10_init 110 = .ok (.bipush 24, 2) := by decide +kernel
theorem dX10_init_112 : decode cX10_init 112 = .ok (.newarray .int, 2) := by decide +kernel
theorem dX10_init_114 : decode cX10_init 114 = .ok (.putfield 54, 3) := by decide +kernel
theorem dX10_init_117 : decode cX10_init 117 = .ok (.aload_n 0, 1) := by decide +kernel
theorem dX10_init_118 : decode cX10_init 118 = .ok (.bipush 24, 2) := by decide +kernel
theorem dX10_init_120 : decode cX10_init 120 = .ok (.newarray .boolean, 2) := by decide +kernel
theorem dX10_init_122 : decode cX10_init 122 = .ok (.putfield 57, 3) := by decide +kernel
theorem dX10_init_125 : decode cX10_init 125 = .ok (.aload_n 0, 1) := by decide +kernel
theorem dX10_init_126 : decode cX10_init 126 = .ok (.bipush 24, 2) := by decide +kernel
theorem dX10_init_128 : decode cX10_init 128 = .ok (.newarray .int, 2) := by decide +kernel
theorem dX10_init_130 : decode cX10_init 130 = .ok (.putfield 60, 3) := by decide +kernel
theorem dX10_init_133 : decode cX10_init 133 = .ok (.aload_n 0, 1) := by decide +kernel
theorem dX10_init_134 : decode cX10_init 134 = .ok (.bipush 24, 2) := by decide +kernel
theorem dX10_init_136 : decode cX10_init 136 = .ok (.newarray .int, 2) := by decide +kernel
theorem dX10_init_138 : decode cX10_init 138 = .ok (.putfield 63, 3) := by decide +kernel
theorem dX10_init_141 : decode cX10_init 141 = .ok (.aload_n 0, 1) := by decide +kernel
theorem dX10_init_142 : decode cX10_init 142 = .ok (.bipush 24, 2) := by decide +kernel
theorem dX10_init_144 : decode cX10_init 144 = .ok (.newarray .int, 2) := by decide +kernel
theorem dX10_init_146 : decode cX10_init 146 = .ok (.putfield 66, 3) := by decide +kernel
theorem dX10_init_149 : decode cX10_init 149 = .ok (.aload_n 0, 1) := by decide +kernel
theorem dX10_init_150 : decode cX10_init 150 = .ok (.iconst 4, 1) := by decide +kernel
theorem dX10_init_151 : decode cX10_init 151 = .ok (.newarray .int, 2) := by decide +kernel
theorem dX10_init_153 : decode cX10_init 153 = .ok (.dup, 1) := by decide +kernel
theorem dX10_init_154 : decode cX10_init 154 = .ok (.iconst 0, 1) := by decide +kernel
theorem dX10_init_155 : decode cX10_init 155 = .ok (.iconst (-1), 1) := by decide +kernel
theorem dX10_init_156 : decode cX10_init 156 = .ok (.iastore, 1) := by decide +kernel
theorem dX10_init_157 : decode cX10_init 157 = .ok (.dup, 1) := by decide +kernel
theorem dX10_init_158 : decode cX10_init 158 = .ok (.iconst 1, 1) := by decide +kernel
theorem dX10_init_159 : decode cX10_init 159 = .ok (.iconst (-1), 1) := by decide +kernel
theorem dX10_init_160 : decode cX10_init 160 = .ok (.iastore, 1) := by decide +kernel
theorem dX10_init_161 : decode cX10_init 161 = .ok (.dup, 1) := by decide +kernel
theorem dX10_init_162 : decode cX10_init 162 = .ok (.iconst 2, 1) := by decide +kernel
theorem dX10_init_163 : decode cX10_init 163 = .ok (.iconst (-1), 1) := by decide +kernel
theorem dX10_init_164 : decode cX10_init 164 = .ok (.iastore, 1) := by decide +kernel
theorem dX10_init_165 : decode cX10_init 165 = .ok (.dup, 1) := by decide +kernel
theorem dX10_init_166 : decode cX10_init 166 = .ok (.iconst 3, 1) := by decide +kernel
theorem dX10_init_167 : decode cX10_init 167 = .ok (.iconst (-1), 1) := by decide +kernel
theorem dX10_init_168 : decode cX10_init 168 = .ok (.iastore, 1) := by decide +kernel
theorem dX10_init_169 : decode cX10_init 169 = .ok (.putfield 69, 3) := by decide +kernel
theorem dX10_init_172 : decode cX10_init 172 = .ok (.aload_n 0, 1) := by decide +kernel
theorem dX10_init_173 : decode cX10_init 173 = .ok (.bipush 96, 2) := by decide +kernel
theorem dX10_init_175 : decode cX10_init 175 = .ok (.newarray .int, 2) := by decide +kernel
theorem dX10_init_177 : decode cX10_init 177 = .ok (.putfield 72, 3) := by decide +kernel
theorem dX10_init_180 : decode cX10_init 180 = .ok (.aload_n 0, 1) := by decide +kernel
theorem dX10_init_181 : decode cX10_init 181 = .ok (.bipush 30, 2) := by decide +kernel
theorem dX10_init_183 : decode cX10_init 183 = .ok (.newarray .int, 2) := by decide +kernel
theorem dX10_init_185 : decode cX10_init 185 = .ok (.putfield 75, 3) := by decide +kernel
theorem dX10_init_188 : decode cX10_init 188 = .ok (.aload_n 0, 1) := by decide +kernel
theorem dX10_init_189 : decode cX10_init 189 = .ok (.bipush 30, 2) := by decide +kernel
theorem dX10_init_191 : decode cX10_init 191 = .ok (.newarray .int, 2) := by decide +kernel
theorem dX10_init_193 : decode cX10_init 193 = .ok (.putfield 78, 3) := by decide +kernel
theorem dX10_init_196 : decode cX10_init 196 = .ok (.aload_n 0, 1) := by decide +kernel
theorem dX10_init_197 : decode cX10_init 197 = .ok (.bipush 30, 2) := by decide +kernel
theorem dX10_init_199 : decode cX10_init 199 = .ok (.newarray .int, 2) := by decide +kernel
theorem dX10_init_201 : decode cX10_init 201 = .ok (.putfield 81, 3) := by decide +kernel
theorem dX10_init_204 : decode cX10_init 204 = .ok (.aload_n 0, 1) := by decide +kernel
theorem dX10_init_205 : decode cX10_init 205 = .ok (.bipush 30, 2) := by decide +kernel
theorem dX10_init_207 : decode cX10_init 207 = .ok (.newarray .int, 2) := by decide +kernel
theorem dX10_init_209 : decode cX10_init 209 = .ok (.putfield 84, 3) := by decide +kernel
theorem dX10_init_212 : decode cX10_init 212 = .ok (.aload_n 0, 1) := by decide +kernel
theorem dX10_init_213 : decode cX10_init 213 = .ok (.iconst 3, 1) := by decide +kernel
theorem dX10_init_214 : decode cX10_init 214 = .ok (.newarray .int, 2) := by decide +kernel
theorem dX10_init_216 : decode cX10_init 216 = .ok (.dup, 1) := by decide +kernel
theorem dX10_init_217 : decode cX10_init 217 = .ok (.iconst 0, 1) := by decide +kernel
theorem dX10_init_218 : decode cX10_init 218 = .ok (.iconst (-1), 1) := by decide +kernel
theorem dX10_init_219 : decode cX10_init 219 = .ok (.iastore, 1) := by decide +kernel
theorem dX10_init_220 : decode cX10_init 220 = .ok (.dup, 1) := by decide +kernel
theorem dX10_init_221 : decode cX10_init 221 = .ok (.iconst 1, 1) := by decide +kernel
theorem dX10_init_222 : decode cX10_init 222 = .ok (.iconst (-1), 1) := by decide +kernel
theorem dX10_init_223 : decode cX10_init 223 = .ok (.iastore, 1) := by decide +kernel
theorem dX10_init_224 : decode cX10_init 224 = .ok (.dup, 1) := by decide +kernel
theorem dX10_init_225 : decode cX10_init 225 = .ok (.iconst 2, 1) := by decide +kernel
theorem dX10_init_226 : decode cX10_init 226 = .ok (.iconst (-1), 1) := by decide +kernel
theorem dX10_init_227 : decode cX10_init 227 = .ok (.iastore, 1) := by decide +kernel
theorem dX10_init_228 : decode cX10_init 228 = .ok (.putfield 87, 3) := by decide +kernel
theorem dX10_init_231 : decode cX10_init 231 = .ok (.aload_n 0, 1) := by decide +kernel
theorem dX10_init_232 : decode cX10_init 232 = .ok (.bipush 40, 2) := by decide +kernel
theorem dX10_init_234 : decode cX10_init 234 = .ok (.newarray .int, 2) := by decide +kernel
theorem dX10_init_236 : decode cX10_init 236 = .ok (.putfield 90, 3) := by decide +kernel
theorem dX10_init_239 : decode cX10_init 239 = .ok (.aload_n 0, 1) := by decide +kernel
theorem dX10_init_240 : decode cX10_init 240 = .ok (.bipush 40, 2) := by decide +kernel
theorem dX10_init_242 : decode cX10_init 242 = .ok (.newarray .int, 2) := by decide +kernel
theorem dX10_init_244 : decode cX10_init 244 = .ok (.putfield 93, 3) := by decide +kernel
theorem dX10_init_247 : decode cX10_init 247 = .ok (.aload_n 0, 1) := by decide +kernel
theorem dX10_init_248 : decode cX10_init 248 = .ok (.bipush 40, 2) := by decide +kernel
theorem dX10_init_250 : decode cX10_init 250 = .ok (.newarray .int, 2) := by decide +kernel
theorem dX10_init_252 : decode cX10_init 252 = .ok (.putfield 96, 3) := by decide +kernel
theorem dX10_init_255 : decode cX10_init 255 = .ok (.aload_n 0, 1) := by decide +kernel
theorem dX10_init_256 : decode cX10_init 256 = .ok (.bipush 20, 2) := by decide +kernel
theorem dX10_init_258 : decode cX10_init 258 = .ok (.newarray .int, 2) := by decide +kernel
theorem dX10_init_260 : decode cX10_init 260 = .ok (.putfield 99, 3) := by decide +kernel
theorem dX10_init_263 : decode cX10_init 263 = .ok (.aload_n 0, 1) := by decide +kernel
theorem dX10_init_264 : decode cX10_init 264 = .ok (.bipush 20, 2) := by decide +kernel
theorem dX10_init_266 : decode cX10_init 266 = .ok (.newarray .int, 2) := by decide +kernel
theorem dX10_init_268 : decode cX10_init 268 = .ok (.putfield 102, 3) := by decide +kernel
theorem dX10_init_271 : decode cX10_init 271 = .ok (.aload_n 0, 1) := by decide +kernel
theorem dX10_init_272 : decode cX10_init 272 = .ok (.bipush 20, 2) := by decide +kernel
theorem dX10_init_274 : decode cX10_init 274 = .ok (.newarray .int, 2) := by decide +kernel
theorem dX10_init_276 : decode cX10_init 276 = .ok (.putfield 105, 3) := by decide +kernel
theorem dX10_init_279 : decode cX10_init 279 = .ok (.aload_n 0, 1) := by decide +kernel
theorem dX10_init_280 : decode cX10_init 280 = .ok (.bipush 20, 2) := by decide +kernel
theorem dX10_init_282 : decode cX10_init 282 = .ok (.newarray .int, 2) := by decide +kernel
theorem dX10_init_284 : decode cX10_init 284 = .ok (.putfield 108, 3) := by decide +kernel
theorem dX10_init_287 : decode cX10_init 287 = .ok (.aload_n 0, 1) := by decide +kernel
theorem dX10_init_288 : decode cX10_init 288 = .ok (.bipush 8, 2) := by decide +kernel
theorem dX10_init_290 : decode cX10_init 290 = .ok (.newarray .int, 2) := by decide +kernel
theorem dX10_init_292 : decode cX10_init 292 = .ok (.putfield 111, 3) := by decide +kernel
theorem dX10_init_295 : decode cX10_init 295 = .ok (.aload_n 0, 1) := by decide +kernel
theorem dX10_init_296 : decode cX10_init 296 = .ok (.bipush 24, 2) := by decide +kernel
theorem dX10_init_298 : decode cX10_init 298 = .ok (.newarray .int, 2) := by decide +kernel
theorem dX10_init_300 : decode cX10_init 300 = .ok (.putfield 114, 3) := by decide +kernel
theorem dX10_init_303 : decode cX10_init 303 = .ok (.aload_n 0, 1) := by decide +kernel
theorem dX10_init_304 : decode cX10_init 304 = .ok (.bipush 10, 2) := by decide +kernel
theorem dX10_init_306 : decode cX10_init 306 = .ok (.newarray .int, 2) := by decide +kernel
theorem dX10_init_308 : decode cX10_init 308 = .ok (.putfield 117, 3) := by decide +kernel
theorem dX10_init_311 : decode cX10_init 311 = .ok (.aload_n 0, 1) := by decide +kernel
theorem dX10_init_312 : decode cX10_init 312 = .ok (.bipush 6, 2) := by decide +kernel
theorem dX10_init_314 : decode cX10_init 314 = .ok (.newarray .int, 2) := by decide +kernel
theorem dX10_init_316 : decode cX10_init 316 = .ok (.putfield 120, 3) := by decide +kernel
theorem dX10_init_319 : decode cX10_init 319 = .ok (.aload_n 0, 1) := by decide +kernel
theorem dX10_init_320 : decode cX10_init 320 = .ok (.bipush 6, 2) := by decide +kernel
theorem dX10_init_322 : decode cX10_init 322 = .ok (.newarray .int, 2) := by decide +kernel
theorem dX10_init_324 : decode cX10_init 324 = .ok (.putfield 123, 3) := by decide +kernel
theorem dX10_init_327 : decode cX10_init 327 = .ok (.aload_n 0, 1) := by decide +kernel
theorem dX10_init_328 : decode cX10_init 328 = .ok (.bipush 6, 2) := by decide +kernel
theorem dX10_init_330 : decode cX10_init 330 = .ok (.newarray .int, 2) := by decide +kernel
theorem dX10_init_332 : decode cX10_init 332 = .ok (.putfield 126, 3) := by decide +kernel
theorem dX10_init_335 : decode cX10_init 335 = .ok (.aload_n 0, 1) := by decide +kernel
theorem dX10_init_336 : decode cX10_init 336 = .ok (.bipush 6, 2) := by decide +kernel
theorem dX10_init_338 : decode cX10_init 338 = .ok (.newarray .int, 2) := by decide +kernel
theorem dX10_init_340 : decode cX10_init 340 = .ok (.putfield 129, 3) := by decide +kernel
theorem dX10_init_343 : decode cX10_init 343 = .ok (.aload_n 0, 1) := by decide +kernel
theorem dX10_init_344 : decode cX10_init 344 = .ok (.bipush 7, 2) := by decide +kernel
theorem dX10_init_346 : decode cX10_init 346 = .ok (.newarray .int, 2) := by decide +kernel
theorem dX10_init_348 : decode cX10_init 348 = .ok (.putfield 132, 3) := by decide +kernel
theorem dX10_init_351 : decode cX10_init 351 = .ok (.return_, 1) := by decide +kernel
theorem dX10_in_0 : decode cX10_in 0 = .ok (.iload_n 0, 1) := by decide +kernel
theorem dX10_in_1 : decode cX10_in 1 = .ok (.iload_n 1, 1) := by decide +kernel
theorem dX10_in_2 : decode cX10_in 2 = .ok (.if_icmp .lt 12, 3) := by decide +kernel
theorem dX10_in_5 : decode cX10_in 5 = .ok (.iload_n 0, 1) := by decide +kernel
theorem dX10_in_6 : decode cX10_in 6 = .ok (.iload_n 2, 1) := by decide +kernel
theorem dX10_in_7 : decode cX10_in 7 = .ok (.if_icmp .gt 7, 3) := by decide +kernel
theorem dX10_in_10 : decode cX10_in 10 = .ok (.iconst 1, 1) := by decide +kernel
theorem dX10_in_11 : decode cX10_in 11 = .ok (.goto 4, 3) := by decide +kernel
theorem dX10_in_14 : decode cX10_in 14 = .ok (.iconst 0, 1) := by decide +kernel
theorem dX10_in_15 : decode cX10_in 15 = .ok (.ireturn, 1) := by decide +kernel
theorem dX10_refuse_0 : decode cX10_refuse 0 = .ok (.aload_n 0, 1) := by decide +kernel
theorem dX10_refuse_1 : decode cX10_refuse 1 = .ok (.getfield 111, 3) := by decide +kernel
theorem dX10_refuse_4 : decode cX10_refuse 4 = .ok (.iload_n 1, 1) := by decide +kernel
theorem dX10_refuse_5 : decode cX10_refuse 5 = .ok (.ineg, 1) := by decide +kernel
theorem dX10_refuse_6 : decode cX10_refuse 6 = .ok (.dup2, 1) := by decide +kernel
theorem dX10_refuse_7 : decode cX10_refuse 7 = .ok (.iaload, 1) := by decide +kernel
theorem dX10_refuse_8 : decode cX10_refuse 8 = .ok (.iconst 1, 1) := by decide +kernel
theorem dX10_refuse_9 : decode cX10_refuse 9 = .ok (.iadd, 1) := by decide +kernel
theorem dX10_refuse_10 : decode cX10_refuse 10 = .ok (.iastore, 1) := by decide +kernel
theorem dX10_refuse_11 : decode cX10_refuse 11 = .ok (.iload_n 1, 1) := by decide +kernel
theorem dX10_refuse_12 : decode cX10_refuse 12 = .ok (.ireturn, 1) := by decide +kernel
theorem dX10_least_0 : decode cX10_least 0 = .ok (.iload_n 0, 1) := by decide +kernel
theorem dX10_least_1 : decode cX10_least 1 = .ok (.iload_n 1, 1) := by decide +kernel
theorem dX10_least_2 : decode cX10_least 2 = .ok (.if_icmp .ge 7, 3) := by decide +kernel
theorem dX10_least_5 : decode cX10_least 5 = .ok (.iload_n 0, 1) := by decide +kernel
theorem dX10_least_6 : decode cX10_least 6 = .ok (.goto 4, 3) := by decide +kernel
theorem dX10_least_9 : decode cX10_least 9 = .ok (.iload_n 1, 1) := by decide +kernel
theorem dX10_least_10 : decode cX10_least 10 = .ok (.ireturn, 1) := by decide +kernel
theorem dX10_isStreet_0 : decode cX10_isStreet 0 = .ok (.iload_n 1, 1) := by decide +kernel
theorem dX10_isStreet_1 : decode cX10_isStreet 1 = .ok (.iconst 0, 1) := by decide +kernel
theorem dX10_isStreet_2 : decode cX10_isStreet 2 = .ok (.aload_n 0, 1) := by decide +kernel
theorem dX10_isStreet_3 : decode cX10_isStreet 3 = .ok (.getfield 135, 3) := by decide +kernel
theorem dX10_isStreet_6 : decode cX10_isStreet 6 = .ok (.iconst 1, 1) := by decide +kernel
theorem dX10_isStreet_7 : decode cX10_isStreet 7 = .ok (.isub, 1) := by decide +kernel
theorem dX10_isStreet_8 : decode cX10_isStreet 8 = .ok (.invokestatic 138, 3) := by decide +kernel
theorem dX10_isStreet_11 : decode cX10_isStreet 11 = .ok (.ireturn, 1) := by decide +kernel
theorem dX10_isHouse_0 : decode cX10_isHouse 0 = .ok (.iload_n 1, 1) := by decide +kernel
theorem dX10_isHouse_1 : decode cX10_isHouse 1 = .ok (.iconst 0, 1) := by decide +kernel
theorem dX10_isHouse_2 : decode cX10_isHouse 2 = .ok (.aload_n 0, 1) := by decide +kernel
theorem dX10_isHouse_3 : decode cX10_isHouse 3 = .ok (.getfield 142, 3) := by decide +kernel
theorem dX10_isHouse_6 : decode cX10_isHouse 6 = .ok (.iconst 1, 1) := by decide +kernel
theorem dX10_isHouse_7 : decode cX10_isHouse 7 = .ok (.isub, 1) := by decide +kernel
theorem dX10_isHouse_8 : decode cX10_isHouse 8 = .ok (.invokestatic 138, 3) := by decide +kernel
theorem dX10_isHouse_11 : decode cX10_isHouse 11 = .ok (.ireturn, 1) := by decide +kernel
theorem dX10_street_0 : decode cX10_street 0 = .ok (.iload_n 1, 1) := by decide +kernel
theorem dX10_street_1 : decode cX10_street 1 = .ok (.iconst (-1), 1) := by decide +kernel
theorem dX10_street_2 : decode cX10_street 2 = .ok (.aload_n 0, 1) := by decide +kernel
theorem dX10_street_3 : decode cX10_street 3 = .ok (.getfield 135, 3) := by decide +kernel
theorem dX10_street_6 : decode cX10_street 6 = .ok (.iconst 1, 1) := by decide +kernel
theorem dX10_street_7 : decode cX10_street 7 = .ok (.isub, 1) := by decide +kernel
theorem dX10_street_8 : decode cX10_street 8 = .ok (.invokestatic 138, 3) := by decide +kernel
theorem dX10_street_11 : decode cX10_street 11 = .ok (.ifCond .ne 9, 3) := by decide +kernel
theorem dX10_street_14 : decode cX10_street 14 = .ok (.aload_n 0, 1) := by decide +kernel
theorem dX10_street_15 : decode cX10_street 15 = .ok (.iconst (-1), 1) := by decide +kernel
theorem dX10_street_16 : decode cX10_street 16 = .ok (.invokevirtual 145, 3) := by decide +kernel
theorem dX10_street_19 : decode cX10_street 19 = .ok (.ireturn, 1) := by decide +kernel
theorem dX10_street_20 : decode cX10_street 20 = .ok (.iload_n 2, 1) := by decide +kernel
theorem dX10_street_21 : decode cX10_street 21 = .ok (.iconst 1, 1) := by decide +kernel
theorem dX10_street_22 : decode cX10_street 22 = .ok (.if_icmp .ge 10, 3) := by decide +kernel
theorem dX10_street_25 : decode cX10_street 25 = .ok (.aload_n 0, 1) := by decide +kernel
theorem dX10_street_26 : decode cX10_street 26 = .ok (.bipush (-4), 2) := by decide +kernel
theorem dX10_street_28 : decode cX10_street 28 = .ok (.invokevirtual 145, 3) := by decide +kernel
theorem dX10_street_31 : decode cX10_street 31 = .ok (.ireturn, 1) := by decide +kernel
theorem dX10_street_32 : decode cX10_street 32 = .ok (.iload_n 2, 1) := by decide +kernel
theorem dX10_street_33 : decode cX10_street 33 = .ok (.bipush 50, 2) := by decide +kernel
theorem dX10_street_35 : decode cX10_street 35 = .ok (.if_icmp .gt 12, 3) := by decide +kernel
theorem dX10_street_38 : decode cX10_street 38 = .ok (.aload_n 0, 1) := by decide +kernel
theorem dX10_street_39 : decode cX10_street 39 = .ok (.getfield 135, 3) := by decide +kernel
theorem dX10_street_42 : decode cX10_street 42 = .ok (.bipush 10, 2) := by decide +kernel
theorem dX10_street_44 : decode cX10_street 44 = .ok (.if_icmp .ne 10, 3) := by decide +kernel
theorem dX10_street_47 : decode cX10_street 47 = .ok (.aload_n 0, 1) := by decide +kernel
theorem dX10_street_48 : decode cX10_street 48 = .ok (.bipush (-6), 2) := by decide +kernel
theorem dX10_street_50 : decode cX10_street 50 = .ok (.invokevirtual 145, 3) := by decide +kernel
theorem dX10_street_53 : decode cX10_street 53 = .ok (.ireturn, 1) := by decide +kernel
theorem dX10_street_54 : decode cX10_street 54 = .ok (.aload_n 0, 1) := by decide +kernel
theorem dX10_street_55 : decode cX10_street 55 = .ok (.getfield 19, 3) := by decide +kernel
theorem dX10_street_58 : decode cX10_street 58 = .ok (.aload_n 0, 1) := by decide +kernel
theorem dX10_street_59 : decode cX10_street 59 = .ok (.getfield 135, 3) := by decide +kernel
theorem dX10_street_62 : decode cX10_street 62 = .ok (.iload_n 1, 1) := by decide +kernel
theorem dX10_street_63 : decode cX10_street 63 = .ok (.iastore, 1) := by decide +kernel
theorem dX10_street_64 : decode cX10_street 64 = .ok (.aload_n 0, 1) := by decide +kernel
theorem dX10_street_65 : decode cX10_street 65 = .ok (.getfield 23, 3) := by decide +kernel
theorem dX10_street_68 : decode cX10_street 68 = .ok (.aload_n 0, 1) := by decide +kernel
theorem dX10_street_69 : decode cX10_street 69 = .ok (.getfield 135, 3) := by decide +kernel
theorem dX10_street_72 : decode cX10_street 72 = .ok (.iload_n 2, 1) := by decide +kernel
theorem dX10_street_73 : decode cX10_street 73 = .ok (.iastore, 1) := by decide +kernel
theorem dX10_street_74 : decode cX10_street 74 = .ok (.aload_n 0, 1) := by decide +kernel
theorem dX10_street_75 : decode cX10_street 75 = .ok (.getfield 26, 3) := by decide +kernel
theorem dX10_street_78 : decode cX10_street 78 = .ok (.aload_n 0, 1) := by decide +kernel
theorem dX10_street_79 : decode cX10_street 79 = .ok (.getfield 135, 3) := by decide +kernel
theorem dX10_street_82 : decode cX10_street 82 = .ok (.aload_n 0, 1) := by decide +kernel
theorem dX10_street_83 : decode cX10_street 83 = .ok (.getfield 149, 3) := by decide +kernel
theorem dX10_street_86 : decode cX10_street 86 = .ok (.sipush 168, 3) := by decide +kernel
theorem dX10_street_89 : decode cX10_street 89 = .ok (.idiv, 1) := by decide +kernel
theorem dX10_street_90 : decode cX10_street 90 = .ok (.iastore, 1) := by decide +kernel
theorem dX10_street_91 : decode cX10_street 91 = .ok (.aload_n 0, 1) := by decide +kernel
theorem dX10_street_92 : decode cX10_street 92 = .ok (.dup, 1) := by decide +kernel
theorem dX10_street_93 : decode cX10_street 93 = .ok (.getfield 135, 3) := by decide +kernel
theorem dX10_street_96 : decode cX10_street 96 = .ok (.iconst 1, 1) := by decide +kernel
theorem dX10_street_97 : decode cX10_street 97 = .ok (.iadd, 1) := by decide +kernel
theorem dX10_street_98 : decode cX10_street 98 = .ok (.putfield 135, 3) := by decide +kernel
theorem dX10_street_101 : decode cX10_street 101 = .ok (.aload_n 0, 1) := by decide +kernel
theorem dX10_street_102 : decode cX10_street 102 = .ok (.getfield 135, 3) := by decide +kernel
theorem dX10_street_105 : decode cX10_street 105 = .ok (.iconst 1, 1) := by decide +kernel
theorem dX10_street_106 : decode cX10_street 106 = .ok (.isub, 1) := by decide +kernel
theorem dX10_street_107 : decode cX10_street 107 = .ok (.ireturn, 1) := by decide +kernel
theorem dX10_set_0 : decode cX10_set 0 = .ok (.iload_n 1, 1) := by decide +kernel
theorem dX10_set_1 : decode cX10_set 1 = .ok (.iconst 0, 1) := by decide +kernel
theorem dX10_set_2 : decode cX10_set 2 = .ok (.iconst 2, 1) := by decide +kernel
theorem dX10_set_3 : decode cX10_set 3 = .ok (.invokestatic 138, 3) := by decide +kernel
theorem dX10_set_6 : decode cX10_set 6 = .ok (.ifCond .ne 10, 3) := by decide +kernel
theorem dX10_set_9 : decode cX10_set 9 = .ok (.aload_n 0, 1) := by decide +kernel
theorem dX10_set_10 : decode cX10_set 10 = .ok (.bipush (-2), 2) := by decide +kernel
theorem dX10_set_12 : decode cX10_set 12 = .ok (.invokevirtual 145, 3) := by decide +kernel
theorem dX10_set_15 : decode cX10_set 15 = .ok (.ireturn, 1) := by decide +kernel
theorem dX10_set_16 : decode cX10_set 16 = .ok (.iload_n 2, 1) := by decide +kernel
theorem dX10_set_17 : decode cX10_set 17 = .ok (.iload_n 1, 1) := by decide +kernel
theorem dX10_set_18 : decode cX10_set 18 = .ok (.iconst 2, 1) := by decide +kernel
theorem dX10_set_19 : decode cX10_set 19 = .ok (.if_icmp .ne 7, 3) := by decide +kernel
theorem dX10_set_22 : decode cX10_set 22 = .ok (.iconst 1, 1) := by decide +kernel
theorem dX10_set_23 : decode cX10_set 23 = .ok (.goto 4, 3) := by decide +kernel
theorem dX10_set_26 : decode cX10_set 26 = .ok (.iconst 0, 1) := by decide +kernel
theorem dX10_set_27 : decode cX10_set 27 = .ok (.if_icmp .ge 10, 3) := by decide +kernel
theorem dX10_set_30 : decode cX10_set 30 = .ok (.aload_n 0, 1) := by decide +kernel
theorem dX10_set_31 : decode cX10_set 31 = .ok (.bipush (-4), 2) := by decide +kernel
theorem dX10_set_33 : decode cX10_set 33 = .ok (.invokevirtual 145, 3) := by decide +kernel
theorem dX10_set_36 : decode cX10_set 36 = .ok (.ireturn, 1) := by decide +kernel
theorem dX10_set_37 : decode cX10_set 37 = .ok (.iload_n 2, 1) := by decide +kernel
theorem dX10_set_38 : decode cX10_set 38 = .ok (.iload_n 1, 1) := by decide +kernel
theorem dX10_set_39 : decode cX10_set 39 = .ok (.ifCond .ne 9, 3) := by decide +kernel
theorem dX10_set_42 : decode cX10_set 42 = .ok (.sipush 5000, 3) := by decide +kernel
theorem dX10_set_45 : decode cX10_set 45 = .ok (.goto 15, 3) := by decide +kernel
theorem dX10_set_48 : decode cX10_set 48 = .ok (.iload_n 1, 1) := by decide +kernel
theorem dX10_set_49 : decode cX10_set 49 = .ok (.iconst 1, 1) := by decide +kernel
theorem dX10_set_50 : decode cX10_set 50 = .ok (.if_icmp .ne 8, 3) := by decide +kernel
theorem dX10_set_53 : decode cX10_set 53 = .ok (.bipush 50, 2) := by decide +kernel
theorem dX10_set_55 : decode cX10_set 55 = .ok (.goto 5, 3) := by decide +kernel
theorem dX10_set_58 : decode cX10_set 58 = .ok (.bipush 99, 2) := by decide +kernel
theorem dX10_set_60 : decode cX10_set 60 = .ok (.if_icmp .le 10, 3) := by decide +kernel
theorem dX10_set_63 : decode cX10_set 63 = .ok (.aload_n 0, 1) := by decide +kernel
theorem dX10_set_64 : decode cX10_set 64 = .ok (.bipush (-6), 2) := by decide +kernel
theorem dX10_set_66 : decode cX10_set 66 = .ok (.invokevirtual 145, 3) := by decide +kernel
theorem dX10_set_69 : decode cX10_set 69 = .ok (.ireturn, 1) := by decide +kernel
theorem dX10_set_70 : decode cX10_set 70 = .ok (.iload_n 1, 1) := by decide +kernel
theorem dX10_set_71 : decode cX10_set 71 = .ok (.ifCond .ne 10, 3) := by decide +kernel
theorem dX10_set_74 : decode cX10_set 74 = .ok (.aload_n 0, 1) := by decide +kernel
theorem dX10_set_75 : decode cX10_set 75 = .ok (.getfield 7, 3) := by decide +kernel
theorem dX10_set_78 : decode cX10_set 78 = .ok (.goto 19, 3) := by decide +kernel
theorem dX10_set_81 : decode cX10_set 81 = .ok (.iload_n 1, 1) := by decide +kernel
theorem dX10_set_82 : decode cX10_set 82 = .ok (.iconst 1, 1) := by decide +kernel
theorem dX10_set_83 : decode cX10_set 83 = .ok (.if_icmp .ne 10, 3) := by decide +kernel
theorem dX10_set_86 : decode cX10_set 86 = .ok (.aload_n 0, 1) := by decide +kernel
theorem dX10_set_87 : decode cX10_set 87 = .ok (.getfield 13, 3) := by decide +kernel
theorem dX10_set_90 : decode cX10_set 90 = .ok (.goto 7, 3) := by decide +kernel
theorem dX10_set_93 : decode cX10_set 93 = .ok (.aload_n 0, 1) := by decide +kernel
theorem dX10_set_94 : decode cX10_set 94 = .ok (.getfield 16, 3) := by decide +kernel
theorem dX10_set_97 : decode cX10_set 97 = .ok (.istore_n 3, 1) := by decide +kernel
theorem dX10_set_98 : decode cX10_set 98 = .ok (.aload_n 0, 1) := by decide +kernel
theorem dX10_set_99 : decode cX10_set 99 = .ok (.iload_n 1, 1) := by decide +kernel
theorem dX10_set_100 : decode cX10_set 100 = .ok (.ifCond .ne 7, 3) := by decide +kernel
theorem dX10_set_103 : decode cX10_set 103 = .ok (.iload_n 2, 1) := by decide +kernel
theorem dX10_set_104 : decode cX10_set 104 = .ok (.goto 7, 3) := by decide +kernel
theorem dX10_set_107 : decode cX10_set 107 = .ok (.aload_n 0, 1) := by decide +kernel
theorem dX10_set_108 : decode cX10_set 108 = .ok (.getfield 7, 3) := by decide +kernel
theorem dX10_set_111 : decode cX10_set 111 = .ok (.putfield 7, 3) := by decide +kernel
theorem dX10_set_114 : decode cX10_set 114 = .ok (.aload_n 0, 1) := by decide +kernel
theorem dX10_set_115 : decode cX10_set 115 = .ok (.iload_n 1, 1) := by decide +kernel
theorem dX10_set_116 : decode cX10_set 116 = .ok (.iconst 1, 1) := by decide +kernel
theorem dX10_set_117 : decode cX10_set 117 = .ok (.if_icmp .ne 7, 3) := by decide +kernel
theorem dX10_set_120 : decode cX10_set 120 = .ok (.iload_n 2, 1) := by decide +kernel
theorem dX10_set_121 : decode cX10_set 121 = .ok (.goto 7, 3) := by decide +kernel
theorem dX10_set_124 : decode cX10_set 124 = .ok (.aload_n 0, 1) := by decide +kernel
theorem dX10_set_125 : decode cX10_set 125 = .ok (.getfield 13, 3) := by decide +kernel
theorem dX10_set_128 : decode cX10_set 128 = .ok (.putfield 13, 3) := by decide +kernel
theorem dX10_set_131 : decode cX10_set 131 = .ok (.aload_n 0, 1) := by decide +kernel
theorem dX10_set_132 : decode cX10_set 132 = .ok (.iload_n 1, 1) := by decide +kernel
theorem dX10_set_133 : decode cX10_set 133 = .ok (.iconst 2, 1) := by decide +kernel
theorem dX10_set_134 : decode cX10_set 134 = .ok (.if_icmp .ne 7, 3) := by decide +kernel
theorem dX10_set_137 : decode cX10_set 137 = .ok (.iload_n 2, 1) := by decide +kernel
theorem dX10_set_138 : decode cX10_set 138 = .ok (.goto 7, 3) := by decide +kernel
theorem dX10_set_141 : decode cX10_set 141 = .ok (.aload_n 0, 1) := by decide +kernel
theorem dX10_set_142 : decode cX10_set 142 = .ok (.getfield 16, 3) := by decide +kernel
theorem dX10_set_145 : decode cX10_set 145 = .ok (.putfield 16, 3) := by decide +kernel
theorem dX10_set_148 : decode cX10_set 148 = .ok (.iload_n 3, 1) := by decide +kernel
theorem dX10_set_149 : decode cX10_set 149 = .ok (.ireturn, 1) := by decide +kernel
theorem dX10_coal_0 : decode cX10_coal 0 = .ok (.iload_n 1, 1) := by decide +kernel
theorem dX10_coal_1 : decode cX10_coal 1 = .ok (.ifCond .ge 10, 3) := by decide +kernel
theorem dX10_coal_4 : decode cX10_coal 4 = .ok (.aload_n 0, 1) := by decide +kernel
theorem dX10_coal_5 : decode cX10_coal 5 = .ok (.bipush (-4), 2) := by decide +kernel
theorem dX10_coal_7 : decode cX10_coal 7 = .ok (.invokevirtual 145, 3) := by decide +kernel
theorem dX10_coal_10 : decode cX10_coal 10 = .ok (.ireturn, 1) := by decide +kernel
theorem dX10_coal_11 : decode cX10_coal 11 = .ok (.iload_n 1, 1) := by decide +kernel
theorem dX10_coal_12 : decode cX10_coal 12 = .ok (.ldc 152, 2) := by decide +kernel
theorem dX10_coal_14 : decode cX10_coal 14 = .ok (.aload_n 0, 1) := by decide +kernel
theorem dX10_coal_15 : decode cX10_coal 15 = .ok (.getfield 153, 3) := by decide +kernel
theorem dX10_coal_18 : decode cX10_coal 18 = .ok (.isub, 1) := by decide +kernel
theorem dX10_coal_19 : decode cX10_coal 19 = .ok (.if_icmp .le 10, 3) := by decide +kernel
theorem dX10_coal_22 : decode cX10_coal 22 = .ok (.aload_n 0, 1) := by decide +kernel
theorem dX10_coal_23 : decode cX10_coal 23 = .ok (.bipush (-6), 2) := by decide +kernel
theorem dX10_coal_25 : decode cX10_coal 25 = .ok (.invokevirtual 145, 3) := by decide +kernel
theorem dX10_coal_28 : decode cX10_coal 28 = .ok (.ireturn, 1) := by decide +kernel
theorem dX10_coal_29 : decode cX10_coal 29 = .ok (.aload_n 0, 1) := by decide +kernel
theorem dX10_coal_30 : decode cX10_coal 30 = .ok (.dup, 1) := by decide +kernel
theorem dX10_coal_31 : decode cX10_coal 31 = .ok (.getfield 153, 3) := by decide +kernel
theorem dX10_coal_34 : decode cX10_coal 34 = .ok (.iload_n 1, 1) := by decide +kernel
theorem dX10_coal_35 : decode cX10_coal 35 = .ok (.iadd, 1) := by decide +kernel
theorem dX10_coal_36 : decode cX10_coal 36 = .ok (.putfield 153, 3) := by decide +kernel
theorem dX10_coal_39 : decode cX10_coal 39 = .ok (.aload_n 0, 1) := by decide +kernel
theorem dX10_coal_40 : decode cX10_coal 40 = .ok (.getfield 153, 3) := by decide +kernel
theorem dX10_coal_43 : decode cX10_coal 43 = .ok (.ireturn, 1) := by decide +kernel
theorem dX10_house_0 : decode cX10_house 0 = .ok (.aload_n 0, 1) := by decide +kernel
theorem dX10_house_1 : decode cX10_house 1 = .ok (.iload_n 1, 1) := by decide +kernel
theorem dX10_house_2 : decode cX10_house 2 = .ok (.invokevirtual 156, 3) := by decide +kernel
theorem dX10_house_5 : decode cX10_house 5 = .ok (.ifCond .ne 9, 3) := by decide +kernel
theorem dX10_house_8 : decode cX10_house 8 = .ok (.aload_n 0, 1) := by decide +kernel
theorem dX10_house_9 : decode cX10_house 9 = .ok (.iconst (-1), 1) := by decide +kernel
theorem dX10_house_10 : decode cX10_house 10 = .ok (.invokevirtual 145, 3) := by decide +kernel
theorem dX10_house_13 : decode cX10_house 13 = .ok (.ireturn, 1) := by decide +kernel
theorem dX10_house_14 : decode cX10_house 14 = .ok (.iload_n 2, 1) := by decide +kernel
theorem dX10_house_15 : decode cX10_house 15 = .ok (.bipush 10, 2) := by decide +kernel
theorem dX10_house_17 : decode cX10_house 17 = .ok (.if_icmp .lt 12, 3) := by decide +kernel
theorem dX10_house_20 : decode cX10_house 20 = .ok (.iload_n 3, 1) := by decide +kernel
theorem dX10_house_21 : decode cX10_house 21 = .ok (.ifCond .lt 8, 3) := by decide +kernel
theorem dX10_house_24 : decode cX10_house 24 = .ok (.iload 4, 2) := by decide +kernel
theorem dX10_house_26 : decode cX10_house 26 = .ok (.ifCond .ge 10, 3) := by decide +kernel
theorem dX10_house_29 : decode cX10_house 29 = .ok (.aload_n 0, 1) := by decide +kernel
theorem dX10_house_30 : decode cX10_house 30 = .ok (.bipush (-4), 2) := by decide +kernel
theorem dX10_house_32 : decode cX10_house 32 = .ok (.invokevirtual 145, 3) := by decide +kernel
theorem dX10_house_35 : decode cX10_house 35 = .ok (.ireturn, 1) := by decide +kernel
theorem dX10_house_36 : decode cX10_house 36 = .ok (.iload_n 2, 1) := by decide +kernel
theorem dX10_house_37 : decode cX10_house 37 = .ok (.sipush 500, 3) := by decide +kernel
theorem dX10_house_40 : decode cX10_house 40 = .ok (.if_icmp .gt 25, 3) := by decide +kernel
theorem dX10_house_43 : decode cX10_house 43 = .ok (.iload_n 3, 1) := by decide +kernel
theorem dX10_house_44 : decode cX10_house 44 = .ok (.bipush 9, 2) := by decide +kernel
theorem dX10_house_46 : decode cX10_house 46 = .ok (.if_icmp .gt 19, 3) := by decide +kernel
theorem dX10_house_49 : decode cX10_house 49 = .ok (.iload 4, 2) := by decide +kernel
theorem dX10_house_51 : decode cX10_house 51 = .ok (.bipush 20, 2) := by decide +kernel
theorem dX10_house_53 : decode cX10_house 53 = .ok (.if_icmp .gt 12, 3) := by decide +kernel
theorem dX10_house_56 : decode cX10_house 56 = .ok (.aload_n 0, 1) := by decide +kernel
theorem dX10_house_57 : decode cX10_house 57 = .ok (.getfield 142, 3) := by decide +kernel
theorem dX10_house_60 : decode cX10_house 60 = .ok (.bipush 24, 2) := by decide +kernel
theorem dX10_house_62 : decode cX10_house 62 = .ok (.if_icmp .ne 10, 3) := by decide +kernel
theorem dX10_house_65 : decode cX10_house 65 = .ok (.aload_n 0, 1) := by decide +kernel
theorem dX10_house_66 : decode cX10_house 66 = .ok (.bipush (-6), 2) := by decide +kernel
theorem dX10_house_68 : decode cX10_house 68 = .ok (.invokevirtual 145, 3) := by decide +kernel
theorem dX10_house_71 : decode cX10_house 71 = .ok (.ireturn, 1) := by decide +kernel
theorem dX10_house_72 : decode cX10_house 72 = .ok (.aload_n 0, 1) := by decide +kernel
theorem dX10_house_73 : decode cX10_house 73 = .ok (.getfield 45, 3) := by decide +kernel
theorem dX10_house_76 : decode cX10_house 76 = .ok (.aload_n 0, 1) := by decide +kernel
theorem dX10_house_77 : decode cX10_house 77 = .ok (.getfield 142, 3) := by decide +kernel
theorem dX10_house_80 : decode cX10_house 80 = .ok (.iload_n 1, 1) := by decide +kernel
theorem dX10_house_81 : decode cX10_house 81 = .ok (.iastore, 1) := by decide +kernel
theorem dX10_house_82 : decode cX10_house 82 = .ok (.aload_n 0, 1) := by decide +kernel
theorem dX10_house_83 : decode cX10_house 83 = .ok (.getfield 48, 3) := by decide +kernel
theorem dX10_house_86 : decode cX10_house 86 = .ok (.aload_n 0, 1) := by decide +kernel
theorem dX10_house_87 : decode cX10_house 87 = .ok (.getfield 142, 3) := by decide +kernel
theorem dX10_house_90 : decode cX10_house 90 = .ok (.iload_n 2, 1) := by decide +kernel
theorem dX10_house_91 : decode cX10_house 91 = .ok (.iastore, 1) := by decide +kernel
theorem dX10_house_92 : decode cX10_house 92 = .ok (.aload_n 0, 1) := by decide +kernel
theorem dX10_house_93 : decode cX10_house 93 = .ok (.getfield 51, 3) := by decide +kernel
theorem dX10_house_96 : decode cX10_house 96 = .ok (.aload_n 0, 1) := by decide +kernel
theorem dX10_house_97 : decode cX10_house 97 = .ok (.getfield 142, 3) := by decide +kernel
theorem dX10_house_100 : decode cX10_house 100 = .ok (.iload_n 3, 1) := by decide +kernel
theorem dX10_house_101 : decode cX10_house 101 = .ok (.iastore, 1) := by decide +kernel
theorem dX10_house_102 : decode cX10_house 102 = .ok (.aload_n 0, 1) := by decide +kernel
theorem dX10_house_103 : decode cX10_house 103 = .ok (.getfield 54, 3) := by decide +kernel
theorem dX10_house_106 : decode cX10_house 106 = .ok (.aload_n 0, 1) := by decide +kernel
theorem dX10_house_107 : decode cX10_house 107 = .ok (.getfield 142, 3) := by decide +kernel
theorem dX10_house_110 : decode cX10_house 110 = .ok (.iload 4, 2) := by decide +kernel
theorem dX10_house_112 : decode cX10_house 112 = .ok (.iastore, 1) := by decide +kernel
theorem dX10_house_113 : decode cX10_house 113 = .ok (.aload_n 0, 1) := by decide +kernel
theorem dX10_house_114 : decode cX10_house 114 = .ok (.getfield 57, 3) := by decide +kernel
theorem dX10_house_117 : decode cX10_house 117 = .ok (.aload_n 0, 1) := by decide +kernel
theorem dX10_house_118 : decode cX10_house 118 = .ok (.getfield 142, 3) := by decide +kernel
theorem dX10_house_121 : decode cX10_house 121 = .ok (.iload 5, 2) := by decide +kernel
theorem dX10_house_123 : decode cX10_house 123 = .ok (.bastore, 1) := by decide +kernel
theorem dX10_house_124 : decode cX10_house 124 = .ok (.aload_n 0, 1) := by decide +kernel
theorem dX10_house_125 : decode cX10_house 125 = .ok (.getfield 60, 3) := by decide +kernel
theorem dX10_house_128 : decode cX10_house 128 = .ok (.aload_n 0, 1) := by decide +kernel
theorem dX10_house_129 : decode cX10_house 129 = .ok (.getfield 142, 3) := by decide +kernel
theorem dX10_house_132 : decode cX10_house 132 = .ok (.iconst (-1), 1) := by decide +kernel
theorem dX10_house_133 : decode cX10_house 133 = .ok (.iastore, 1) := by decide +kernel
theorem dX10_house_134 : decode cX10_house 134 = .ok (.aload_n 0, 1) := by decide +kernel
theorem dX10_house_135 : decode cX10_house 135 = .ok (.dup, 1) := by decide +kernel
theorem dX10_house_136 : decode cX10_house 136 = .ok (.getfield 142, 3) := by decide +kernel
theorem dX10_house_139 : decode cX10_house 139 = .ok (.iconst 1, 1) := by decide +kernel
theorem dX10_house_140 : decode cX10_house 140 = .ok (.iadd, 1) := by decide +kernel
theorem dX10_house_141 : decode cX10_house 141 = .ok (.putfield 142, 3) := by decide +kernel
theorem dX10_house_144 : decode cX10_house 144 = .ok (.aload_n 0, 1) := by decide +kernel
theorem dX10_house_145 : decode cX10_house 145 = .ok (.getfield 142, 3) := by decide +kernel
theorem dX10_house_148 : decode cX10_house 148 = .ok (.iconst 1, 1) := by decide +kernel
theorem dX10_house_149 : decode cX10_house 149 = .ok (.isub, 1) := by decide +kernel
theorem dX10_house_150 : decode cX10_house 150 = .ok (.ireturn, 1) := by decide +kernel
theorem dX10_row_0 : decode cX10_row 0 = .ok (.iload_n 1, 1) := by decide +kernel
theorem dX10_row_1 : decode cX10_row 1 = .ok (.iconst 0, 1) := by decide +kernel
theorem dX10_row_2 : decode cX10_row 2 = .ok (.iconst 3, 1) := by decide +kernel
theorem dX10_row_3 : decode cX10_row 3 = .ok (.invokestatic 138, 3) := by decide +kernel
theorem dX10_row_6 : decode cX10_row 6 = .ok (.ifCond .ne 9, 3) := by decide +kernel
theorem dX10_row_9 : decode cX10_row 9 = .ok (.aload_n 0, 1) := by decide +kernel
theorem dX10_row_10 : decode cX10_row 10 = .ok (.iconst (-1), 1) := by decide +kernel
theorem dX10_row_11 : decode cX10_row 11 = .ok (.invokevirtual 145, 3) := by decide +kernel
theorem dX10_row_14 : decode cX10_row 14 = .ok (.ireturn, 1) := by decide +kernel
theorem dX10_row_15 : decode cX10_row 15 = .ok (.iload_n 2, 1) := by decide +kernel
theorem dX10_row_16 : decode cX10_row 16 = .ok (.ifCond .ge 10, 3) := by decide +kernel
theorem dX10_row_19 : decode cX10_row 19 = .ok (.aload_n 0, 1) := by decide +kernel
theorem dX10_row_20 : decode cX10_row 20 = .ok (.bipush (-4), 2) := by decide +kernel
theorem dX10_row_22 : decode cX10_row 22 = .ok (.invokevirtual 145, 3) := by decide +kernel
theorem dX10_row_25 : decode cX10_row 25 = .ok (.ireturn, 1) := by decide +kernel
theorem dX10_row_26 : decode cX10_row 26 = .ok (.iload_n 2, 1) := by decide +kernel
theorem dX10_row_27 : decode cX10_row 27 = .ok (.bipush 24, 2) := by decide +kernel
theorem dX10_row_29 : decode cX10_row 29 = .ok (.if_icmp .le 10, 3) := by decide +kernel
theorem dX10_row_32 : decode cX10_row 32 = .ok (.aload_n 0, 1) := by decide +kernel
theorem dX10_row_33 : decode cX10_row 33 = .ok (.bipush (-6), 2) := by decide +kernel
theorem dX10_row_35 : decode cX10_row 35 = .ok (.invokevirtual 145, 3) := by decide +kernel
theorem dX10_row_38 : decode cX10_row 38 = .ok (.ireturn, 1) := by decide +kernel
theorem dX10_row_39 : decode cX10_row 39 = .ok (.aload_n 0, 1) := by decide +kernel
theorem dX10_row_40 : decode cX10_row 40 = .ok (.getfield 69, 3) := by decide +kernel
theorem dX10_row_43 : decode cX10_row 43 = .ok (.iload_n 1, 1) := by decide +kernel
theorem dX10_row_44 : decode cX10_row 44 = .ok (.iload_n 2, 1) := by decide +kernel
theorem dX10_row_45 : decode cX10_row 45 = .ok (.iastore, 1) := by decide +kernel
theorem dX10_row_46 : decode cX10_row 46 = .ok (.iconst 0, 1) := by decide +kernel
theorem dX10_row_47 : decode cX10_row 47 = .ok (.istore_n 3, 1) := by decide +kernel
theorem dX10_row_48 : decode cX10_row 48 = .ok (.iload_n 3, 1) := by decide +kernel
theorem dX10_row_49 : decode cX10_row 49 = .ok (.iload_n 2, 1) := by decide +kernel
theorem dX10_row_50 : decode cX10_row 50 = .ok (.if_icmp .ge 21, 3) := by decide +kernel
theorem dX10_row_53 : decode cX10_row 53 = .ok (.aload_n 0, 1) := by decide +kernel
theorem dX10_row_54 : decode cX10_row 54 = .ok (.getfield 72, 3) := by decide +kernel
theorem dX10_row_57 : decode cX10_row 57 = .ok (.bipush 24, 2) := by decide +kernel
theorem dX10_row_59 : decode cX10_row 59 = .ok (.iload_n 1, 1) := by decide +kernel
theorem dX10_row_60 : decode cX10_row 60 = .ok (.imul, 1) := by decide +kernel
theorem dX10_row_61 : decode cX10_row 61 = .ok (.iload_n 3, 1) := by decide +kernel
theorem dX10_row_62 : decode cX10_row 62 = .ok (.iadd, 1) := by decide +kernel
theorem dX10_row_63 : decode cX10_row 63 = .ok (.iconst 0, 1) := by decide +kernel
theorem dX10_row_64 : decode cX10_row 64 = .ok (.iastore, 1) := by decide +kernel
theorem dX10_row_65 : decode cX10_row 65 = .ok (.iinc 3 1, 3) := by decide +kernel
theorem dX10_row_68 : decode cX10_row 68 = .ok (.goto (-20), 3) := by decide +kernel
theorem dX10_row_71 : decode cX10_row 71 = .ok (.iload_n 2, 1) := by decide +kernel
theorem dX10_row_72 : decode cX10_row 72 = .ok (.ireturn, 1) := by decide +kernel
theorem dX10_lose_0 : decode cX10_lose 0 = .ok (.iload_n 1, 1) := by decide +kernel
theorem dX10_lose_1 : decode cX10_lose 1 = .ok (.iconst 0, 1) := by decide +kernel
theorem dX10_lose_2 : decode cX10_lose 2 = .ok (.iconst 3, 1) := by decide +kernel
theorem dX10_lose_3 : decode cX10_lose 3 = .ok (.invokestatic 138, 3) := by decide +kernel
theorem dX10_lose_6 : decode cX10_lose 6 = .ok (.ifCond .ne 9, 3) := by decide +kernel
theorem dX10_lose_9 : decode cX10_lose 9 = .ok (.aload_n 0, 1) := by decide +kernel
theorem dX10_lose_10 : decode cX10_lose 10 = .ok (.iconst (-1), 1) := by decide +kernel
theorem dX10_lose_11 : decode cX10_lose 11 = .ok (.invokevirtual 145, 3) := by decide +kernel
theorem dX10_lose_14 : decode cX10_lose 14 = .ok (.ireturn, 1) := by decide +kernel
theorem dX10_lose_15 : decode cX10_lose 15 = .ok (.aload_n 0, 1) := by decide +kernel
theorem dX10_lose_16 : decode cX10_lose 16 = .ok (.getfield 69, 3) := by decide +kernel
theorem dX10_lose_19 : decode cX10_lose 19 = .ok (.iload_n 1, 1) := by decide +kernel
theorem dX10_lose_20 : decode cX10_lose 20 = .ok (.iaload, 1) := by decide +kernel
theorem dX10_lose_21 : decode cX10_lose 21 = .ok (.istore_n 2, 1) := by decide +kernel
theorem dX10_lose_22 : decode cX10_lose 22 = .ok (.aload_n 0, 1) := by decide +kernel
theorem dX10_lose_23 : decode cX10_lose 23 = .ok (.getfield 69, 3) := by decide +kernel
theorem dX10_lose_26 : decode cX10_lose 26 = .ok (.iload_n 1, 1) := by decide +kernel
theorem dX10_lose_27 : decode cX10_lose 27 = .ok (.iconst (-1), 1) := by decide +kernel
theorem dX10_lose_28 : decode cX10_lose 28 = .ok (.iastore, 1) := by decide +kernel
theorem dX10_lose_29 : decode cX10_lose 29 = .ok (.iload_n 2, 1) := by decide +kernel
theorem dX10_lose_30 : decode cX10_lose 30 = .ok (.ifCond .ge 7, 3) := by decide +kernel
theorem dX10_lose_33 : decode cX10_lose 33 = .ok (.iconst 0, 1) := by decide +kernel
theorem dX10_lose_34 : decode cX10_lose 34 = .ok (.goto 4, 3) := by decide +kernel
theorem dX10_lose_37 : decode cX10_lose 37 = .ok (.iconst 1, 1) := by decide +kernel
theorem dX10_lose_38 : decode cX10_lose 38 = .ok (.ireturn, 1) := by decide +kernel
theorem dX10_put_0 : decode cX10_put 0 = .ok (.iload_n 1, 1) := by decide +kernel
theorem dX10_put_1 : decode cX10_put 1 = .ok (.iconst 0, 1) := by decide +kernel
theorem dX10_put_2 : decode cX10_put 2 = .ok (.iconst 3, 1) := by decide +kernel
theorem dX10_put_3 : decode cX10_put 3 = .ok (.invokestatic 138, 3) := by decide +kernel
theorem dX10_put_6 : decode cX10_put 6 = .ok (.ifCond .ne 9, 3) := by decide +kernel
theorem dX10_put_9 : decode cX10_put 9 = .ok (.aload_n 0, 1) := by decide +kernel
theorem dX10_put_10 : decode cX10_put 10 = .ok (.iconst (-1), 1) := by decide +kernel
theorem dX10_put_11 : decode cX10_put 11 = .ok (.invokevirtual 145, 3) := by decide +kernel
theorem dX10_put_14 : decode cX10_put 14 = .ok (.ireturn, 1) := by decide +kernel
theorem dX10_put_15 : decode cX10_put 15 = .ok (.aload_n 0, 1) := by decide +kernel
theorem dX10_put_16 : decode cX10_put 16 = .ok (.getfield 69, 3) := by decide +kernel
theorem dX10_put_19 : decode cX10_put 19 = .ok (.iload_n 1, 1) := by decide +kernel
theorem dX10_put_20 : decode cX10_put 20 = .ok (.iaload, 1) := by decide +kernel
theorem dX10_put_21 : decode cX10_put 21 = .ok (.ifCond .ge 10, 3) := by decide +kernel
theorem dX10_put_24 : decode cX10_put 24 = .ok (.aload_n 0, 1) := by decide +kernel
theorem dX10_put_25 : decode cX10_put 25 = .ok (.bipush (-5), 2) := by decide +kernel
theorem dX10_put_27 : decode cX10_put 27 = .ok (.invokevirtual 145, 3) := by decide +kernel
theorem dX10_put_30 : decode cX10_put 30 = .ok (.ireturn, 1) := by decide +kernel
theorem dX10_put_31 : decode cX10_put 31 = .ok (.iload_n 2, 1) := by decide +kernel
theorem dX10_put_32 : decode cX10_put 32 = .ok (.iconst 0, 1) := by decide +kernel
theorem dX10_put_33 : decode cX10_put 33 = .ok (.aload_n 0, 1) := by decide +kernel
theorem dX10_put_34 : decode cX10_put 34 = .ok (.getfield 69, 3) := by decide +kernel
theorem dX10_put_37 : decode cX10_put 37 = .ok (.iload_n 1, 1) := by decide +kernel
theorem dX10_put_38 : decode cX10_put 38 = .ok (.iaload, 1) := by decide +kernel
theorem dX10_put_39 : decode cX10_put 39 = .ok (.iconst 1, 1) := by decide +kernel
theorem dX10_put_40 : decode cX10_put 40 = .ok (.isub, 1) := by decide +kernel
theorem dX10_put_41 : decode cX10_put 41 = .ok (.invokestatic 138, 3) := by decide +kernel
theorem dX10_put_44 : decode cX10_put 44 = .ok (.ifCond .ne 10, 3) := by decide +kernel
theorem dX10_put_47 : decode cX10_put 47 = .ok (.aload_n 0, 1) := by decide +kernel
theorem dX10_put_48 : decode cX10_put 48 = .ok (.bipush (-7), 2) := by decide +kernel
theorem dX10_put_50 : decode cX10_put 50 = .ok (.invokevirtual 145, 3) := by decide +kernel
theorem dX10_put_53 : decode cX10_put 53 = .ok (.ireturn, 1) := by decide +kernel
theorem dX10_put_54 : decode cX10_put 54 = .ok (.iload_n 3, 1) := by decide +kernel
theorem dX10_put_55 : decode cX10_put 55 = .ok (.ifCond .ge 10, 3) := by decide +kernel
theorem dX10_put_58 : decode cX10_put 58 = .ok (.aload_n 0, 1) := by decide +kernel
theorem dX10_put_59 : decode cX10_put 59 = .ok (.bipush (-4), 2) := by decide +kernel
theorem dX10_put_61 : decode cX10_put 61 = .ok (.invokevirtual 145, 3) := by decide +kernel
theorem dX10_put_64 : decode cX10_put 64 = .ok (.ireturn, 1) := by decide +kernel
theorem dX10_put_65 : decode cX10_put 65 = .ok (.iload_n 3, 1) := by decide +kernel
theorem dX10_put_66 : decode cX10_put 66 = .ok (.bipush 20, 2) := by decide +kernel
theorem dX10_put_68 : decode cX10_put 68 = .ok (.if_icmp .le 10, 3) := by decide +kernel
theorem dX10_put_71 : decode cX10_put 71 = .ok (.aload_n 0, 1) := by decide +kernel
theorem dX10_put_72 : decode cX10_put 72 = .ok (.bipush (-6), 2) := by decide +kernel
theorem dX10_put_74 : decode cX10_put 74 = .ok (.invokevirtual 145, 3) := by decide +kernel
theorem dX10_put_77 : decode cX10_put 77 = .ok (.ireturn, 1) := by decide +kernel
theorem dX10_put_78 : decode cX10_put 78 = .ok (.aload_n 0, 1) := by decide +kernel
theorem dX10_put_79 : decode cX10_put 79 = .ok (.getfield 72, 3) := by decide +kernel
theorem dX10_put_82 : decode cX10_put 82 = .ok (.bipush 24, 2) := by decide +kernel
theorem dX10_put_84 : decode cX10_put 84 = .ok (.iload_n 1, 1) := by decide +kernel
theorem dX10_put_85 : decode cX10_put 85 = .ok (.imul, 1) := by decide +kernel
theorem dX10_put_86 : decode cX10_put 86 = .ok (.iload_n 2, 1) := by decide +kernel
theorem dX10_put_87 : decode cX10_put 87 = .ok (.iadd, 1) := by decide +kernel
theorem dX10_put_88 : decode cX10_put 88 = .ok (.iaload, 1) := by decide +kernel
theorem dX10_put_89 : decode cX10_put 89 = .ok (.istore 4, 2) := by decide +kernel
theorem dX10_put_91 : decode cX10_put 91 = .ok (.aload_n 0, 1) := by decide +kernel
theorem dX10_put_92 : decode cX10_put 92 = .ok (.getfield 72, 3) := by decide +kernel
theorem dX10_put_95 : decode cX10_put 95 = .ok (.bipush 24, 2) := by decide +kernel
theorem dX10_put_97 : decode cX10_put 97 = .ok (.iload_n 1, 1) := by decide +kernel
theorem dX10_put_98 : decode cX10_put 98 = .ok (.imul, 1) := by decide +kernel
theorem dX10_put_99 : decode cX10_put 99 = .ok (.iload_n 2, 1) := by decide +kernel
theorem dX10_put_100 : decode cX10_put 100 = .ok (.iadd, 1) := by decide +kernel
theorem dX10_put_101 : decode cX10_put 101 = .ok (.iload_n 3, 1) := by decide +kernel
theorem dX10_put_102 : decode cX10_put 102 = .ok (.iastore, 1) := by decide +kernel
theorem dX10_put_103 : decode cX10_put 103 = .ok (.iload 4, 2) := by decide +kernel
theorem dX10_put_105 : decode cX10_put 105 = .ok (.ireturn, 1) := by decide +kernel
theorem dX10_copy_0 : decode cX10_copy 0 = .ok (.iload_n 1, 1) := by decide +kernel
theorem dX10_copy_1 : decode cX10_copy 1 = .ok (.iconst 0, 1) := by decide +kernel
theorem dX10_copy_2 : decode cX10_copy 2 = .ok (.iconst 3, 1) := by decide +kernel
theorem dX10_copy_3 : decode cX10_copy 3 = .ok (.invokestatic 138, 3) := by decide +kernel
theorem dX10_copy_6 : decode cX10_copy 6 = .ok (.ifCond .eq 12, 3) := by decide +kernel
theorem dX10_copy_9 : decode cX10_copy 9 = .ok (.iload_n 3, 1) := by decide +kernel
theorem dX10_copy_10 : decode cX10_copy 10 = .ok (.iconst 0, 1) := by decide +kernel
theorem dX10_copy_11 : decode cX10_copy 11 = .ok (.iconst 3, 1) := by decide +kernel
theorem dX10_copy_12 : decode cX10_copy 12 = .ok (.invokestatic 138, 3) := by decide +kernel
theorem dX10_copy_15 : decode cX10_copy 15 = .ok (.ifCond .ne 9, 3) := by decide +kernel
theorem dX10_copy_18 : decode cX10_copy 18 = .ok (.aload_n 0, 1) := by decide +kernel
theorem dX10_copy_19 : decode cX10_copy 19 = .ok (.iconst (-1), 1) := by decide +kernel
theorem dX10_copy_20 : decode cX10_copy 20 = .ok (.invokevirtual 145, 3) := by decide +kernel
theorem dX10_copy_23 : decode cX10_copy 23 = .ok (.ireturn, 1) := by decide +kernel
theorem dX10_copy_24 : decode cX10_copy 24 = .ok (.aload_n 0, 1) := by decide +kernel
theorem dX10_copy_25 : decode cX10_copy 25 = .ok (.getfield 69, 3) := by decide +kernel
theorem dX10_copy_28 : decode cX10_copy 28 = .ok (.iload_n 1, 1) := by decide +kernel
theorem dX10_copy_29 : decode cX10_copy 29 = .ok (.iaload, 1) := by decide +kernel
theorem dX10_copy_30 : decode cX10_copy 30 = .ok (.ifCond .lt 12, 3) := by decide +kernel
theorem dX10_copy_33 : decode cX10_copy 33 = .ok (.aload_n 0, 1) := by decide +kernel
theorem dX10_copy_34 : decode cX10_copy 34 = .ok (.getfield 69, 3) := by decide +kernel
theorem dX10_copy_37 : decode cX10_copy 37 = .ok (.iload_n 3, 1) := by decide +kernel
theorem dX10_copy_38 : decode cX10_copy 38 = .ok (.iaload, 1) := by decide +kernel
theorem dX10_copy_39 : decode cX10_copy 39 = .ok (.ifCond .ge 10, 3) := by decide +kernel
theorem dX10_copy_42 : decode cX10_copy 42 = .ok (.aload_n 0, 1) := by decide +kernel
theorem dX10_copy_43 : decode cX10_copy 43 = .ok (.bipush (-5), 2) := by decide +kernel
theorem dX10_copy_45 : decode cX10_copy 45 = .ok (.invokevirtual 145, 3) := by decide +kernel
theorem dX10_copy_48 : decode cX10_copy 48 = .ok (.ireturn, 1) := by decide +kernel
theorem dX10_copy_49 : decode cX10_copy 49 = .ok (.iload 5, 2) := by decide +kernel
theorem dX10_copy_51 : decode cX10_copy 51 = .ok (.ifCond .lt 46, 3) := by decide +kernel
theorem dX10_copy_54 : decode cX10_copy 54 = .ok (.iload 5, 2) := by decide +kernel
theorem dX10_copy_56 : decode cX10_copy 56 = .ok (.bipush 24, 2) := by decide +kernel
theorem dX10_copy_58 : decode cX10_copy 58 = .ok (.if_icmp .gt 39, 3) := by decide +kernel
theorem dX10_copy_61 : decode cX10_copy 61 = .ok (.iload_n 2, 1) := by decide +kernel
theorem dX10_copy_62 : decode cX10_copy 62 = .ok (.ifCond .lt 35, 3) := by decide +kernel
theorem dX10_copy_65 : decode cX10_copy 65 = .ok (.iload 4, 2) := by decide +kernel
theorem dX10_copy_67 : decode cX10_copy 67 = .ok (.ifCond .lt 30, 3) := by decide +kernel
theorem dX10_copy_70 : decode cX10_copy 70 = .ok (.iload_n 2, 1) := by decide +kernel
theorem dX10_copy_71 : decode cX10_copy 71 = .ok (.aload_n 0, 1) := by decide +kernel
theorem dX10_copy_72 : decode cX10_copy 72 = .ok (.getfield 69, 3) := by decide +kernel
theorem dX10_copy_75 : decode cX10_copy 75 = .ok (.iload_n 1, 1) := by decide +kernel
theorem dX10_copy_76 : decode cX10_copy 76 = .ok (.iaload, 1) := by decide +kernel
theorem dX10_copy_77 : decode cX10_copy 77 = .ok (.iload 5, 2) := by decide +kernel
theorem dX10_copy_79 : decode cX10_copy 79 = .ok (.isub, 1) := by decide +kernel
theorem dX10_copy_80 : decode cX10_copy 80 = .ok (.if_icmp .gt 17, 3) := by decide +kernel
theorem dX10_copy_83 : decode cX10_copy 83 = .ok (.iload 4, 2) := by decide +kernel
theorem dX10_copy_85 : decode cX10_copy 85 = .ok (.aload_n 0, 1) := by decide +kernel
theorem dX10_copy_86 : decode cX10_copy 86 = .ok (.getfield 69, 3) := by decide +kernel
theorem dX10_copy_89 : decode cX10_copy 89 = .ok (.iload_n 3, 1) := by decide +kernel
theorem dX10_copy_90 : decode cX10_copy 90 = .ok (.iaload, 1) := by decide +kernel
theorem dX10_copy_91 : decode cX10_copy 91 = .ok (.iload 5, 2) := by decide +kernel
theorem dX10_copy_93 : decode cX10_copy 93 = .ok (.isub, 1) := by decide +kernel
theorem dX10_copy_94 : decode cX10_copy 94 = .ok (.if_icmp .le 10, 3) := by decide +kernel
theorem dX10_copy_97 : decode cX10_copy 97 = .ok (.aload_n 0, 1) := by decide +kernel
theorem dX10_copy_98 : decode cX10_copy 98 = .ok (.bipush (-7), 2) := by decide +kernel
theorem dX10_copy_100 : decode cX10_copy 100 = .ok (.invokevirtual 145, 3) := by decide +kernel
theorem dX10_copy_103 : decode cX10_copy 103 = .ok (.ireturn, 1) := by decide +kernel
theorem dX10_copy_104 : decode cX10_copy 104 = .ok (.iconst 0, 1) := by decide +kernel
theorem dX10_copy_105 : decode cX10_copy 105 = .ok (.istore 6, 2) := by decide +kernel
theorem dX10_copy_107 : decode cX10_copy 107 = .ok (.iload 6, 2) := by decide +kernel
theorem dX10_copy_109 : decode cX10_copy 109 = .ok (.iload 5, 2) := by decide +kernel
theorem dX10_copy_111 : decode cX10_copy 111 = .ok (.if_icmp .ge 30, 3) := by decide +kernel
theorem dX10_copy_114 : decode cX10_copy 114 = .ok (.aload_n 0, 1) := by decide +kernel
theorem dX10_copy_115 : decode cX10_copy 115 = .ok (.getfield 114, 3) := by decide +kernel
theorem dX10_copy_118 : decode cX10_copy 118 = .ok (.iload 6, 2) := by decide +kernel
theorem dX10_copy_120 : decode cX10_copy 120 = .ok (.aload_n 0, 1) := by decide +kernel
theorem dX10_copy_121 : decode cX10_copy 121 = .ok (.getfield 72, 3) := by decide +kernel
theorem dX10_copy_124 : decode cX10_copy 124 = .ok (.bipush 24, 2) := by decide +kernel
theorem dX10_copy_126 : decode cX10_copy 126 = .ok (.iload_n 1, 1) := by decide +kernel
theorem dX10_copy_127 : decode cX10_copy 127 = .ok (.imul, 1) := by decide +kernel
theorem dX10_copy_128 : decode cX10_copy 128 = .ok (.iload_n 2, 1) := by decide +kernel
theorem dX10_copy_129 : decode cX10_copy 129 = .ok (.iadd, 1) := by decide +kernel
theorem dX10_copy_130 : decode cX10_copy 130 = .ok (.iload 6, 2) := by decide +kernel
theorem dX10_copy_132 : decode cX10_copy 132 = .ok (.iadd, 1) := by decide +kernel
theorem dX10_copy_133 : decode cX10_copy 133 = .ok (.iaload, 1) := by decide +kernel
theorem dX10_copy_134 : decode cX10_copy 134 = .ok (.iastore, 1) := by decide +kernel
theorem dX10_copy_135 : decode cX10_copy 135 = .ok (.iinc 6 1, 3) := by decide +kernel
theorem dX10_copy_138 : decode cX10_copy 138 = .ok (.goto (-31), 3) := by decide +kernel
theorem dX10_copy_141 : decode cX10_copy 141 = .ok (.iconst 0, 1) := by decide +kernel
theorem dX10_copy_142 : decode cX10_copy 142 = .ok (.istore 6, 2) := by decide +kernel
theorem dX10_copy_144 : decode cX10_copy 144 = .ok (.iload 6, 2) := by decide +kernel
theorem dX10_copy_146 : decode cX10_copy 146 = .ok (.iload 5, 2) := by decide +kernel
theorem dX10_copy_148 : decode cX10_copy 148 = .ok (.if_icmp .ge 31, 3) := by decide +kernel
theorem dX10_copy_151 : decode cX10_copy 151 = .ok (.aload_n 0, 1) := by decide +kernel
theorem dX10_copy_152 : decode cX10_copy 152 = .ok (.getfield 72, 3) := by decide +kernel
theorem dX10_copy_155 : decode cX10_copy 155 = .ok (.bipush 24, 2) := by decide +kernel
theorem dX10_copy_157 : decode cX10_copy 157 = .ok (.iload_n 3, 1) := by decide +kernel
theorem dX10_copy_158 : decode cX10_copy 158 = .ok (.imul, 1) := by decide +kernel
theorem dX10_copy_159 : decode cX10_copy 159 = .ok (.iload 4, 2) := by decide +kernel
theorem dX10_copy_161 : decode cX10_copy 161 = .ok (.iadd, 1) := by decide +kernel
theorem dX10_copy_162 : decode cX10_copy 162 = .ok (.iload 6, 2) := by decide +kernel
theorem dX10_copy_164 : decode cX10_copy 164 = .ok (.iadd, 1) := by decide +kernel
theorem dX10_copy_165 : decode cX10_copy 165 = .ok (.aload_n 0, 1) := by decide +kernel
theorem dX10_copy_166 : decode cX10_copy 166 = .ok (.getfield 114, 3) := by decide +kernel
theorem dX10_copy_169 : decode cX10_copy 169 = .ok (.iload 6, 2) := by decide +kernel
theorem dX10_copy_171 : decode cX10_copy 171 = .ok (.iaload, 1) := by decide +kernel
theorem dX10_copy_172 : decode cX10_copy 172 = .ok (.iastore, 1) := by decide +kernel
theorem dX10_copy_173 : decode cX10_copy 173 = .ok (.iinc 6 1, 3) := by decide +kernel
theorem dX10_copy_176 : decode cX10_copy 176 = .ok (.goto (-32), 3) := by decide +kernel
theorem dX10_copy_179 : decode cX10_copy 179 = .ok (.iload 5, 2) := by decide +kernel
theorem dX10_copy_181 : decode cX10_copy 181 = .ok (.ireturn, 1) := by decide +kernel
theorem dX10_lead_0 : decode cX10_lead 0 = .ok (.aload_n 0, 1) := by decide +kernel
theorem dX10_lead_1 : decode cX10_lead 1 = .ok (.iload_n 1, 1) := by decide +kernel
theorem dX10_lead_2 : decode cX10_lead 2 = .ok (.invokevirtual 160, 3) := by decide +kernel
theorem dX10_lead_5 : decode cX10_lead 5 = .ok (.ifCond .eq 12, 3) := by decide +kernel
theorem dX10_lead_8 : decode cX10_lead 8 = .ok (.iload_n 2, 1) := by decide +kernel
theorem dX10_lead_9 : decode cX10_lead 9 = .ok (.iconst (-1), 1) := by decide +kernel
theorem dX10_lead_10 : decode cX10_lead 10 = .ok (.iconst 3, 1) := by decide +kernel
theorem dX10_lead_11 : decode cX10_lead 11 = .ok (.invokestatic 138, 3) := by decide +kernel
theorem dX10_lead_14 : decode cX10_lead 14 = .ok (.ifCond .ne 16, 3) := by decide +kernel
theorem dX10_lead_17 : decode cX10_lead 17 = .ok (.aload_n 0, 1) := by decide +kernel
theorem dX10_lead_18 : decode cX10_lead 18 = .ok (.getfield 111, 3) := by decide +kernel
theorem dX10_lead_21 : decode cX10_lead 21 = .ok (.iconst 1, 1) := by decide +kernel
theorem dX10_lead_22 : decode cX10_lead 22 = .ok (.dup2, 1) := by decide +kernel
theorem dX10_lead_23 : decode cX10_lead 23 = .ok (.iaload, 1) := by decide +kernel
theorem dX10_lead_24 : decode cX10_lead 24 = .ok (.iconst 1, 1) := by decide +kernel
theorem dX10_lead_25 : decode cX10_lead 25 = .ok (.iadd, 1) := by decide +kernel
theorem dX10_lead_26 : decode cX10_lead 26 = .ok (.iastore, 1) := by decide +kernel
theorem dX10_lead_27 : decode cX10_lead 27 = .ok (.ldc 163, 2) := by decide +kernel
theorem dX10_lead_29 : decode cX10_lead 29 = .ok (.ireturn, 1) := by decide +kernel
theorem dX10_lead_30 : decode cX10_lead 30 = .ok (.aload_n 0, 1) := by decide +kernel
theorem dX10_lead_31 : decode cX10_lead 31 = .ok (.getfield 60, 3) := by decide +kernel
theorem dX10_lead_34 : decode cX10_lead 34 = .ok (.iload_n 1, 1) := by decide +kernel
theorem dX10_lead_35 : decode cX10_lead 35 = .ok (.iaload, 1) := by decide +kernel
theorem dX10_lead_36 : decode cX10_lead 36 = .ok (.istore_n 3, 1) := by decide +kernel
theorem dX10_lead_37 : decode cX10_lead 37 = .ok (.aload_n 0, 1) := by decide +kernel
theorem dX10_lead_38 : decode cX10_lead 38 = .ok (.getfield 60, 3) := by decide +kernel
theorem dX10_lead_41 : decode cX10_lead 41 = .ok (.iload_n 1, 1) := by decide +kernel
theorem dX10_lead_42 : decode cX10_lead 42 = .ok (.iload_n 2, 1) := by decide +kernel
theorem dX10_lead_43 : decode cX10_lead 43 = .ok (.iastore, 1) := by decide +kernel
theorem dX10_lead_44 : decode cX10_lead 44 = .ok (.iload_n 3, 1) := by decide +kernel
theorem dX10_lead_45 : decode cX10_lead 45 = .ok (.ireturn, 1) := by decide +kernel
theorem dX10_useOf_0 : decode cX10_useOf 0 = .ok (.aload_n 0, 1) := by decide +kernel
theorem dX10_useOf_1 : decode cX10_useOf 1 = .ok (.getfield 60, 3) := by decide +kernel
theorem dX10_useOf_4 : decode cX10_useOf 4 = .ok (.iload_n 1, 1) := by decide +kernel
theorem dX10_useOf_5 : decode cX10_useOf 5 = .ok (.iaload, 1) := by decide +kernel
theorem dX10_useOf_6 : decode cX10_useOf 6 = .ok (.istore_n 2, 1) := by decide +kernel
theorem dX10_useOf_7 : decode cX10_useOf 7 = .ok (.iload_n 2, 1) := by decide +kernel
theorem dX10_useOf_8 : decode cX10_useOf 8 = .ok (.ifCond .lt 39, 3) := by decide +kernel
theorem dX10_useOf_11 : decode cX10_useOf 11 = .ok (.aload_n 0, 1) := by decide +kernel
theorem dX10_useOf_12 : decode cX10_useOf 12 = .ok (.getfield 69, 3) := by decide +kernel
theorem dX10_useOf_15 : decode cX10_useOf 15 = .ok (.iload_n 2, 1) := by decide +kernel
theorem dX10_useOf_16 : decode cX10_useOf 16 = .ok (.iaload, 1) := by decide +kernel
theorem dX10_useOf_17 : decode cX10_useOf 17 = .ok (.ifCond .le 30, 3) := by decide +kernel
theorem dX10_useOf_20 : decode cX10_useOf 20 = .ok (.aload_n 0, 1) := by decide +kernel
theorem dX10_useOf_21 : decode cX10_useOf 21 = .ok (.getfield 72, 3) := by decide +kernel
theorem dX10_useOf_24 : decode cX10_useOf 24 = .ok (.bipush 24, 2) := by decide +kernel
theorem dX10_useOf_26 : decode cX10_useOf 26 = .ok (.iload_n 2, 1) := by decide +kernel
theorem dX10_useOf_27 : decode cX10_useOf 27 = .ok (.imul, 1) := by decide +kernel
theorem dX10_useOf_28 : decode cX10_useOf 28 = .ok (.aload_n 0, 1) := by decide +kernel
theorem dX10_useOf_29 : decode cX10_useOf 29 = .ok (.getfield 149, 3) := by decide +kernel
theorem dX10_useOf_32 : decode cX10_useOf 32 = .ok (.bipush 24, 2) := by decide +kernel
theorem dX10_useOf_34 : decode cX10_useOf 34 = .ok (.irem, 1) := by decide +kernel
theorem dX10_useOf_35 : decode cX10_useOf 35 = .ok (.aload_n 0, 1) := by decide +kernel
theorem dX10_useOf_36 : decode cX10_useOf 36 = .ok (.getfield 69, 3) := by decide +kernel
theorem dX10_useOf_39 : decode cX10_useOf 39 = .ok (.iload_n 2, 1) := by decide +kernel
theorem dX10_useOf_40 : decode cX10_useOf 40 = .ok (.iaload, 1) := by decide +kernel
theorem dX10_useOf_41 : decode cX10_useOf 41 = .ok (.irem, 1) := by decide +kernel
theorem dX10_useOf_42 : decode cX10_useOf 42 = .ok (.iadd, 1) := by decide +kernel
theorem dX10_useOf_43 : decode cX10_useOf 43 = .ok (.iaload, 1) := by decide +kernel
theorem dX10_useOf_44 : decode cX10_useOf 44 = .ok (.goto 9, 3) := by decide +kernel
theorem dX10_useOf_47 : decode cX10_useOf 47 = .ok (.aload_n 0, 1) := by decide +kernel
theorem dX10_useOf_48 : decode cX10_useOf 48 = .ok (.getfield 54, 3) := by decide +kernel
theorem dX10_useOf_51 : decode cX10_useOf 51 = .ok (.iload_n 1, 1) := by decide +kernel
theorem dX10_useOf_52 : decode cX10_useOf 52 = .ok (.iaload, 1) := by decide +kernel
theorem dX10_useOf_53 : decode cX10_useOf 53 = .ok (.ireturn, 1) := by decide +kernel
theorem dX10_end_0 : decode cX10_end 0 = .ok (.aload_n 0, 1) := by decide +kernel
theorem dX10_end_1 : decode cX10_end 1 = .ok (.iload_n 1, 1) := by decide +kernel
theorem dX10_end_2 : decode cX10_end 2 = .ok (.invokevirtual 156, 3) := by decide +kernel
theorem dX10_end_5 : decode cX10_end 5 = .ok (.ifCond .ne 9, 3) := by decide +kernel
theorem dX10_end_8 : decode cX10_end 8 = .ok (.aload_n 0, 1) := by decide +kernel
theorem dX10_end_9 : decode cX10_end 9 = .ok (.iconst (-1), 1) := by decide +kernel
theorem dX10_end_10 : decode cX10_end 10 = .ok (.invokevirtual 145, 3) := by decide +kernel
theorem dX10_end_13 : decode cX10_end 13 = .ok (.ireturn, 1) := by decide +kernel
theorem dX10_end_14 : decode cX10_end 14 = .ok (.aload_n 0, 1) := by decide +kernel
theorem dX10_end_15 : decode cX10_end 15 = .ok (.getfield 33, 3) := by decide +kernel
theorem dX10_end_18 : decode cX10_end 18 = .ok (.iload_n 1, 1) := by decide +kernel
theorem dX10_end_19 : decode cX10_end 19 = .ok (.iaload, 1) := by decide +kernel
theorem dX10_end_20 : decode cX10_end 20 = .ok (.ifCond .le 10, 3) := by decide +kernel
theorem dX10_end_23 : decode cX10_end 23 = .ok (.aload_n 0, 1) := by decide +kernel
theorem dX10_end_24 : decode cX10_end 24 = .ok (.bipush (-3), 2) := by decide +kernel
theorem dX10_end_26 : decode cX10_end 26 = .ok (.invokevirtual 145, 3) := by decide +kernel
theorem dX10_end_29 : decode cX10_end 29 = .ok (.ireturn, 1) := by decide +kernel
theorem dX10_end_30 : decode cX10_end 30 = .ok (.iload_n 2, 1) := by decide +kernel
theorem dX10_end_31 : decode cX10_end 31 = .ok (.ifCond .lt 13, 3) := by decide +kernel
theorem dX10_end_34 : decode cX10_end 34 = .ok (.iload_n 2, 1) := by decide +kernel
theorem dX10_end_35 : decode cX10_end 35 = .ok (.iconst 1, 1) := by decide +kernel
theorem dX10_end_36 : decode cX10_end 36 = .ok (.bipush 49, 2) := by decide +kernel
theorem dX10_end_38 : decode cX10_end 38 = .ok (.invokestatic 138, 3) := by decide +kernel
theorem dX10_end_41 : decode cX10_end 41 = .ok (.ifCond .eq 10, 3) := by decide +kernel
theorem dX10_end_44 : decode cX10_end 44 = .ok (.aload_n 0, 1) := by decide +kernel
theorem dX10_end_45 : decode cX10_end 45 = .ok (.bipush (-4), 2) := by decide +kernel
theorem dX10_end_47 : decode cX10_end 47 = .ok (.invokevirtual 145, 3) := by decide +kernel
theorem dX10_end_50 : decode cX10_end 50 = .ok (.ireturn, 1) := by decide +kernel
theorem dX10_end_51 : decode cX10_end 51 = .ok (.iload_n 2, 1) := by decide +kernel
theorem dX10_end_52 : decode cX10_end 52 = .ok (.sipush 2000, 3) := by decide +kernel
theorem dX10_end_55 : decode cX10_end 55 = .ok (.if_icmp .le 10, 3) := by decide +kernel
theorem dX10_end_58 : decode cX10_end 58 = .ok (.aload_n 0, 1) := by decide +kernel
theorem dX10_end_59 : decode cX10_end 59 = .ok (.bipush (-6), 2) := by decide +kernel
theorem dX10_end_61 : decode cX10_end 61 = .ok (.invokevirtual 145, 3) := by decide +kernel
theorem dX10_end_64 : decode cX10_end 64 = .ok (.ireturn, 1) := by decide +kernel
theorem dX10_end_65 : decode cX10_end 65 = .ok (.aload_n 0, 1) := by decide +kernel
theorem dX10_end_66 : decode cX10_end 66 = .ok (.getfield 33, 3) := by decide +kernel
theorem dX10_end_69 : decode cX10_end 69 = .ok (.iload_n 1, 1) := by decide +kernel
theorem dX10_end_70 : decode cX10_end 70 = .ok (.iload_n 2, 1) := by decide +kernel
theorem dX10_end_71 : decode cX10_end 71 = .ok (.ifCond .ne 7, 3) := by decide +kernel
theorem dX10_end_74 : decode cX10_end 74 = .ok (.iconst 1, 1) := by decide +kernel
theorem dX10_end_75 : decode cX10_end 75 = .ok (.goto 4, 3) := by decide +kernel
theorem dX10_end_78 : decode cX10_end 78 = .ok (.iconst 2, 1) := by decide +kernel
theorem dX10_end_79 : decode cX10_end 79 = .ok (.iastore, 1) := by decide +kernel
theorem dX10_end_80 : decode cX10_end 80 = .ok (.aload_n 0, 1) := by decide +kernel
theorem dX10_end_81 : decode cX10_end 81 = .ok (.getfield 36, 3) := by decide +kernel
theorem dX10_end_84 : decode cX10_end 84 = .ok (.iload_n 1, 1) := by decide +kernel
theorem dX10_end_85 : decode cX10_end 85 = .ok (.iload_n 2, 1) := by decide +kernel
theorem dX10_end_86 : decode cX10_end 86 = .ok (.iastore, 1) := by decide +kernel
theorem dX10_end_87 : decode cX10_end 87 = .ok (.aload_n 0, 1) := by decide +kernel
theorem dX10_end_88 : decode cX10_end 88 = .ok (.getfield 39, 3) := by decide +kernel
theorem dX10_end_91 : decode cX10_end 91 = .ok (.iload_n 1, 1) := by decide +kernel
theorem dX10_end_92 : decode cX10_end 92 = .ok (.iconst 0, 1) := by decide +kernel
theorem dX10_end_93 : decode cX10_end 93 = .ok (.iastore, 1) := by decide +kernel
theorem dX10_end_94 : decode cX10_end 94 = .ok (.aload_n 0, 1) := by decide +kernel
theorem dX10_end_95 : decode cX10_end 95 = .ok (.getfield 42, 3) := by decide +kernel
theorem dX10_end_98 : decode cX10_end 98 = .ok (.iload_n 1, 1) := by decide +kernel
theorem dX10_end_99 : decode cX10_end 99 = .ok (.iconst 0, 1) := by decide +kernel
theorem dX10_end_100 : decode cX10_end 100 = .ok (.bastore, 1) := by decide +kernel
theorem dX10_end_101 : decode cX10_end 101 = .ok (.iconst 1, 1) := by decide +kernel
theorem dX10_end_102 : decode cX10_end 102 = .ok (.ireturn, 1) := by decide +kernel
theorem dX10_clear_0 : decode cX10_clear 0 = .ok (.aload_n 0, 1) := by decide +kernel
theorem dX10_clear_1 : decode cX10_clear 1 = .ok (.iload_n 1, 1) := by decide +kernel
theorem dX10_clear_2 : decode cX10_clear 2 = .ok (.invokevirtual 156, 3) := by decide +kernel
theorem dX10_clear_5 : decode cX10_clear 5 = .ok (.ifCond .ne 9, 3) := by decide +kernel
theorem dX10_clear_8 : decode cX10_clear 8 = .ok (.aload_n 0, 1) := by decide +kernel
theorem dX10_clear_9 : decode cX10_clear 9 = .ok (.iconst (-1), 1) := by decide +kernel
theorem dX10_clear_10 : decode cX10_clear 10 = .ok (.invokevirtual 145, 3) := by decide +kernel
theorem dX10_clear_13 : decode cX10_clear 13 = .ok (.ireturn, 1) := by decide +kernel
theorem dX10_clear_14 : decode cX10_clear 14 = .ok (.aload_n 0, 1) := by decide +kernel
theorem dX10_clear_15 : decode cX10_clear 15 = .ok (.getfield 33, 3) := by decide +kernel
theorem dX10_clear_18 : decode cX10_clear 18 = .ok (.iload_n 1, 1) := by decide +kernel
theorem dX10_clear_19 : decode cX10_clear 19 = .ok (.iaload, 1) := by decide +kernel
theorem dX10_clear_20 : decode cX10_clear 20 = .ok (.ifCond .ne 10, 3) := by decide +kernel
theorem dX10_clear_23 : decode cX10_clear 23 = .ok (.aload_n 0, 1) := by decide +kernel
theorem dX10_clear_24 : decode cX10_clear 24 = .ok (.bipush (-5), 2) := by decide +kernel
theorem dX10_clear_26 : decode cX10_clear 26 = .ok (.invokevirtual 145, 3) := by decide +kernel
theorem dX10_clear_29 : decode cX10_clear 29 = .ok (.ireturn, 1) := by decide +kernel
theorem dX10_clear_30 : decode cX10_clear 30 = .ok (.aload_n 0, 1) := by decide +kernel
theorem dX10_clear_31 : decode cX10_clear 31 = .ok (.getfield 33, 3) := by decide +kernel
theorem dX10_clear_34 : decode cX10_clear 34 = .ok (.iload_n 1, 1) := by decide +kernel
theorem dX10_clear_35 : decode cX10_clear 35 = .ok (.iaload, 1) := by decide +kernel
theorem dX10_clear_36 : decode cX10_clear 36 = .ok (.iconst 2, 1) := by decide +kernel
theorem dX10_clear_37 : decode cX10_clear 37 = .ok (.if_icmp .ne 12, 3) := by decide +kernel
theorem dX10_clear_40 : decode cX10_clear 40 = .ok (.aload_n 0, 1) := by decide +kernel
theorem dX10_clear_41 : decode cX10_clear 41 = .ok (.getfield 39, 3) := by decide +kernel
theorem dX10_clear_44 : decode cX10_clear 44 = .ok (.iload_n 1, 1) := by decide +kernel
theorem dX10_clear_45 : decode cX10_clear 45 = .ok (.iaload, 1) := by decide +kernel
theorem dX10_clear_46 : decode cX10_clear 46 = .ok (.goto 4, 3) := by decide +kernel
theorem dX10_clear_49 : decode cX10_clear 49 = .ok (.iconst 0, 1) := by decide +kernel
theorem dX10_clear_50 : decode cX10_clear 50 = .ok (.istore_n 2, 1) := by decide +kernel
theorem dX10_clear_51 : decode cX10_clear 51 = .ok (.aload_n 0, 1) := by decide +kernel
theorem dX10_clear_52 : decode cX10_clear 52 = .ok (.getfield 33, 3) := by decide +kernel
theorem dX10_clear_55 : decode cX10_clear 55 = .ok (.iload_n 1, 1) := by decide +kernel
theorem dX10_clear_56 : decode cX10_clear 56 = .ok (.iconst 0, 1) := by decide +kernel
theorem dX10_clear_57 : decode cX10_clear 57 = .ok (.iastore, 1) := by decide +kernel
theorem dX10_clear_58 : decode cX10_clear 58 = .ok (.aload_n 0, 1) := by decide +kernel
theorem dX10_clear_59 : decode cX10_clear 59 = .ok (.getfield 39, 3) := by decide +kernel
theorem dX10_clear_62 : decode cX10_clear 62 = .ok (.iload_n 1, 1) := by decide +kernel
theorem dX10_clear_63 : decode cX10_clear 63 = .ok (.iconst 0, 1) := by decide +kernel
theorem dX10_clear_64 : decode cX10_clear 64 = .ok (.iastore, 1) := by decide +kernel
theorem dX10_clear_65 : decode cX10_clear 65 = .ok (.aload_n 0, 1) := by decide +kernel
theorem dX10_clear_66 : decode cX10_clear 66 = .ok (.getfield 42, 3) := by decide +kernel
theorem dX10_clear_69 : decode cX10_clear 69 = .ok (.iload_n 1, 1) := by decide +kernel
theorem dX10_clear_70 : decode cX10_clear 70 = .ok (.iconst 0, 1) := by decide +kernel
theorem dX10_clear_71 : decode cX10_clear 71 = .ok (.bastore, 1) := by decide +kernel
theorem dX10_clear_72 : decode cX10_clear 72 = .ok (.iload_n 2, 1) := by decide +kernel
theorem dX10_clear_73 : decode cX10_clear 73 = .ok (.ireturn, 1) := by decide +kernel
theorem dX10_draw_0 : decode cX10_draw 0 = .ok (.aload_n 0, 1) := by decide +kernel
theorem dX10_draw_1 : decode cX10_draw 1 = .ok (.iload_n 1, 1) := by decide +kernel
theorem dX10_draw_2 : decode cX10_draw 2 = .ok (.invokevirtual 156, 3) := by decide +kernel
theorem dX10_draw_5 : decode cX10_draw 5 = .ok (.ifCond .ne 9, 3) := by decide +kernel
theorem dX10_draw_8 : decode cX10_draw 8 = .ok (.aload_n 0, 1) := by decide +kernel
theorem dX10_draw_9 : decode cX10_draw 9 = .ok (.iconst (-1), 1) := by decide +kernel
theorem dX10_draw_10 : decode cX10_draw 10 = .ok (.invokevirtual 145, 3) := by decide +kernel
theorem dX10_draw_13 : decode cX10_draw 13 = .ok (.ireturn, 1) := by decide +kernel
theorem dX10_draw_14 : decode cX10_draw 14 = .ok (.aload_n 0, 1) := by decide +kernel
theorem dX10_draw_15 : decode cX10_draw 15 = .ok (.getfield 33, 3) := by decide +kernel
theorem dX10_draw_18 : decode cX10_draw 18 = .ok (.iload_n 1, 1) := by decide +kernel
theorem dX10_draw_19 : decode cX10_draw 19 = .ok (.iaload, 1) := by decide +kernel
theorem dX10_draw_20 : decode cX10_draw 20 = .ok (.ifCond .ne 10, 3) := by decide +kernel
theorem dX10_draw_23 : decode cX10_draw 23 = .ok (.aload_n 0, 1) := by decide +kernel
theorem dX10_draw_24 : decode cX10_draw 24 = .ok (.bipush (-5), 2) := by decide +kernel
theorem dX10_draw_26 : decode cX10_draw 26 = .ok (.invokevirtual 145, 3) := by decide +kernel
theorem dX10_draw_29 : decode cX10_draw 29 = .ok (.ireturn, 1) := by decide +kernel
theorem dX10_draw_30 : decode cX10_draw 30 = .ok (.aload_n 0, 1) := by decide +kernel
theorem dX10_draw_31 : decode cX10_draw 31 = .ok (.getfield 33, 3) := by decide +kernel
theorem dX10_draw_34 : decode cX10_draw 34 = .ok (.iload_n 1, 1) := by decide +kernel
theorem dX10_draw_35 : decode cX10_draw 35 = .ok (.iaload, 1) := by decide +kernel
theorem dX10_draw_36 : decode cX10_draw 36 = .ok (.iconst 2, 1) := by decide +kernel
theorem dX10_draw_37 : decode cX10_draw 37 = .ok (.if_icmp .ne 10, 3) := by decide +kernel
theorem dX10_draw_40 : decode cX10_draw 40 = .ok (.aload_n 0, 1) := by decide +kernel
theorem dX10_draw_41 : decode cX10_draw 41 = .ok (.bipush (-2), 2) := by decide +kernel
theorem dX10_draw_43 : decode cX10_draw 43 = .ok (.invokevirtual 145, 3) := by decide +kernel
theorem dX10_draw_46 : decode cX10_draw 46 = .ok (.ireturn, 1) := by decide +kernel
theorem dX10_draw_47 : decode cX10_draw 47 = .ok (.aload_n 0, 1) := by decide +kernel
theorem dX10_draw_48 : decode cX10_draw 48 = .ok (.getfield 42, 3) := by decide +kernel
theorem dX10_draw_51 : decode cX10_draw 51 = .ok (.iload_n 1, 1) := by decide +kernel
theorem dX10_draw_52 : decode cX10_draw 52 = .ok (.baload, 1) := by decide +kernel
theorem dX10_draw_53 : decode cX10_draw 53 = .ok (.istore_n 3, 1) := by decide +kernel
theorem dX10_draw_54 : decode cX10_draw 54 = .ok (.aload_n 0, 1) := by decide +kernel
theorem dX10_draw_55 : decode cX10_draw 55 = .ok (.getfield 42, 3) := by decide +kernel
theorem dX10_draw_58 : decode cX10_draw 58 = .ok (.iload_n 1, 1) := by decide +kernel
theorem dX10_draw_59 : decode cX10_draw 59 = .ok (.iload_n 2, 1) := by decide +kernel
theorem dX10_draw_60 : decode cX10_draw 60 = .ok (.bastore, 1) := by decide +kernel
theorem dX10_draw_61 : decode cX10_draw 61 = .ok (.iload_n 3, 1) := by decide +kernel
theorem dX10_draw_62 : decode cX10_draw 62 = .ok (.iload_n 2, 1) := by decide +kernel
theorem dX10_draw_63 : decode cX10_draw 63 = .ok (.if_icmp .ne 7, 3) := by decide +kernel
theorem dX10_draw_66 : decode cX10_draw 66 = .ok (.iconst 0, 1) := by decide +kernel
theorem dX10_draw_67 : decode cX10_draw 67 = .ok (.goto 4, 3) := by decide +kernel
theorem dX10_draw_70 : decode cX10_draw 70 = .ok (.iconst 1, 1) := by decide +kernel
theorem dX10_draw_71 : decode cX10_draw 71 = .ok (.ireturn, 1) := by decide +kernel
theorem dX10_brew_0 : decode cX10_brew 0 = .ok (.aload_n 0, 1) := by decide +kernel
theorem dX10_brew_1 : decode cX10_brew 1 = .ok (.iload_n 1, 1) := by decide +kernel
theorem dX10_brew_2 : decode cX10_brew 2 = .ok (.invokevirtual 156, 3) := by decide +kernel
theorem dX10_brew_5 : decode cX10_brew 5 = .ok (.ifCond .ne 9, 3) := by decide +kernel
theorem dX10_brew_8 : decode cX10_brew 8 = .ok (.aload_n 0, 1) := by decide +kernel
theorem dX10_brew_9 : decode cX10_brew 9 = .ok (.iconst (-1), 1) := by decide +kernel
theorem dX10_brew_10 : decode cX10_brew 10 = .ok (.invokevirtual 145, 3) := by decide +kernel
theorem dX10_brew_13 : decode cX10_brew 13 = .ok (.ireturn, 1) := by decide +kernel
theorem dX10_brew_14 : decode cX10_brew 14 = .ok (.aload_n 0, 1) := by decide +kernel
theorem dX10_brew_15 : decode cX10_brew 15 = .ok (.getfield 33, 3) := by decide +kernel
theorem dX10_brew_18 : decode cX10_brew 18 = .ok (.iload_n 1, 1) := by decide +kernel
theorem dX10_brew_19 : decode cX10_brew 19 = .ok (.iaload, 1) := by decide +kernel
theorem dX10_brew_20 : decode cX10_brew 20 = .ok (.ifCond .ne 10, 3) := by decide +kernel
theorem dX10_brew_23 : decode cX10_brew 23 = .ok (.aload_n 0, 1) := by decide +kernel
theorem dX10_brew_24 : decode cX10_brew 24 = .ok (.bipush (-5), 2) := by decide +kernel
theorem dX10_brew_26 : decode cX10_brew 26 = .ok (.invokevirtual 145, 3) := by decide +kernel
theorem dX10_brew_29 : decode cX10_brew 29 = .ok (.ireturn, 1) := by decide +kernel
theorem dX10_brew_30 : decode cX10_brew 30 = .ok (.aload_n 0, 1) := by decide +kernel
theorem dX10_brew_31 : decode cX10_brew 31 = .ok (.getfield 33, 3) := by decide +kernel
theorem dX10_brew_34 : decode cX10_brew 34 = .ok (.iload_n 1, 1) := by decide +kernel
theorem dX10_brew_35 : decode cX10_brew 35 = .ok (.iaload, 1) := by decide +kernel
theorem dX10_brew_36 : decode cX10_brew 36 = .ok (.iconst 1, 1) := by decide +kernel
theorem dX10_brew_37 : decode cX10_brew 37 = .ok (.if_icmp .ne 10, 3) := by decide +kernel
theorem dX10_brew_40 : decode cX10_brew 40 = .ok (.aload_n 0, 1) := by decide +kernel
theorem dX10_brew_41 : decode cX10_brew 41 = .ok (.bipush (-2), 2) := by decide +kernel
theorem dX10_brew_43 : decode cX10_brew 43 = .ok (.invokevirtual 145, 3) := by decide +kernel
theorem dX10_brew_46 : decode cX10_brew 46 = .ok (.ireturn, 1) := by decide +kernel
theorem dX10_brew_47 : decode cX10_brew 47 = .ok (.iload_n 2, 1) := by decide +kernel
theorem dX10_brew_48 : decode cX10_brew 48 = .ok (.ifCond .ge 10, 3) := by decide +kernel
theorem dX10_brew_51 : decode cX10_brew 51 = .ok (.aload_n 0, 1) := by decide +kernel
theorem dX10_brew_52 : decode cX10_brew 52 = .ok (.bipush (-4), 2) := by decide +kernel
theorem dX10_brew_54 : decode cX10_brew 54 = .ok (.invokevirtual 145, 3) := by decide +kernel
theorem dX10_brew_57 : decode cX10_brew 57 = .ok (.ireturn, 1) := by decide +kernel
theorem dX10_brew_58 : decode cX10_brew 58 = .ok (.iload_n 2, 1) := by decide +kernel
theorem dX10_brew_59 : decode cX10_brew 59 = .ok (.aload_n 0, 1) := by decide +kernel
theorem dX10_brew_60 : decode cX10_brew 60 = .ok (.getfield 39, 3) := by decide +kernel
theorem dX10_brew_63 : decode cX10_brew 63 = .ok (.iload_n 1, 1) := by decide +kernel
theorem dX10_brew_64 : decode cX10_brew 64 = .ok (.iaload, 1) := by decide +kernel
theorem dX10_brew_65 : decode cX10_brew 65 = .ok (.if_icmp .le 10, 3) := by decide +kernel
theorem dX10_brew_68 : decode cX10_brew 68 = .ok (.aload_n 0, 1) := by decide +kernel
theorem dX10_brew_69 : decode cX10_brew 69 = .ok (.bipush (-6), 2) := by decide +kernel
theorem dX10_brew_71 : decode cX10_brew 71 = .ok (.invokevirtual 145, 3) := by decide +kernel
theorem dX10_brew_74 : decode cX10_brew 74 = .ok (.ireturn, 1) := by decide +kernel
theorem dX10_brew_75 : decode cX10_brew 75 = .ok (.aload_n 0, 1) := by decide +kernel
theorem dX10_brew_76 : decode cX10_brew 76 = .ok (.getfield 39, 3) := by decide +kernel
theorem dX10_brew_79 : decode cX10_brew 79 = .ok (.iload_n 1, 1) := by decide +kernel
theorem dX10_brew_80 : decode cX10_brew 80 = .ok (.dup2, 1) := by decide +kernel
theorem dX10_brew_81 : decode cX10_brew 81 = .ok (.iaload, 1) := by decide +kernel
theorem dX10_brew_82 : decode cX10_brew 82 = .ok (.iload_n 2, 1) := by decide +kernel
theorem dX10_brew_83 : decode cX10_brew 83 = .ok (.isub, 1) := by decide +kernel
theorem dX10_brew_84 : decode cX10_brew 84 = .ok (.iastore, 1) := by decide +kernel
theorem dX10_brew_85 : decode cX10_brew 85 = .ok (.aload_n 0, 1) := by decide +kernel
theorem dX10_brew_86 : decode cX10_brew 86 = .ok (.getfield 39, 3) := by decide +kernel
theorem dX10_brew_89 : decode cX10_brew 89 = .ok (.iload_n 1, 1) := by decide +kernel
theorem dX10_brew_90 : decode cX10_brew 90 = .ok (.iaload, 1) := by decide +kernel
theorem dX10_brew_91 : decode cX10_brew 91 = .ok (.ireturn, 1) := by decide +kernel
theorem dX10_turn_0 : decode cX10_turn 0 = .ok (.aload_n 0, 1) := by decide +kernel
theorem dX10_turn_1 : decode cX10_turn 1 = .ok (.iload_n 1, 1) := by decide +kernel
theorem dX10_turn_2 : decode cX10_turn 2 = .ok (.invokevirtual 156, 3) := by decide +kernel
theorem dX10_turn_5 : decode cX10_turn 5 = .ok (.ifCond .eq 12, 3) := by decide +kernel
theorem dX10_turn_8 : decode cX10_turn 8 = .ok (.iload_n 2, 1) := by decide +kernel
theorem dX10_turn_9 : decode cX10_turn 9 = .ok (.iconst 0, 1) := by decide +kernel
theorem dX10_turn_10 : decode cX10_turn 10 = .ok (.iconst 2, 1) := by decide +kernel
theorem dX10_turn_11 : decode cX10_turn 11 = .ok (.invokestatic 138, 3) := by decide +kernel
theorem dX10_turn_14 : decode cX10_turn 14 = .ok (.ifCond .ne 9, 3) := by decide +kernel
theorem dX10_turn_17 : decode cX10_turn 17 = .ok (.aload_n 0, 1) := by decide +kernel
theorem dX10_turn_18 : decode cX10_turn 18 = .ok (.iconst (-1), 1) := by decide +kernel
theorem dX10_turn_19 : decode cX10_turn 19 = .ok (.invokevirtual 145, 3) := by decide +kernel
theorem dX10_turn_22 : decode cX10_turn 22 = .ok (.ireturn, 1) := by decide +kernel
theorem dX10_turn_23 : decode cX10_turn 23 = .ok (.iload_n 3, 1) := by decide +kernel
theorem dX10_turn_24 : decode cX10_turn 24 = .ok (.ifCond .lt 14, 3) := by decide +kernel
theorem dX10_turn_27 : decode cX10_turn 27 = .ok (.iload 4, 2) := by decide +kernel
theorem dX10_turn_29 : decode cX10_turn 29 = .ok (.ifCond .lt 9, 3) := by decide +kernel
theorem dX10_turn_32 : decode cX10_turn 32 = .ok (.iload 5, 2) := by decide +kernel
theorem dX10_turn_34 : decode cX10_turn 34 = .ok (.iconst 1, 1) := by decide +kernel
theorem dX10_turn_35 : decode cX10_turn 35 = .ok (.if_icmp .ge 10, 3) := by decide +kernel
theorem dX10_turn_38 : decode cX10_turn 38 = .ok (.aload_n 0, 1) := by decide +kernel
theorem dX10_turn_39 : decode cX10_turn 39 = .ok (.bipush (-4), 2) := by decide +kernel
theorem dX10_turn_41 : decode cX10_turn 41 = .ok (.invokevirtual 145, 3) := by decide +kernel
theorem dX10_turn_44 : decode cX10_turn 44 = .ok (.ireturn, 1) := by decide +kernel
theorem dX10_turn_45 : decode cX10_turn 45 = .ok (.iload_n 3, 1) := by decide +kernel
theorem dX10_turn_46 : decode cX10_turn 46 = .ok (.bipush 6, 2) := by decide +kernel
theorem dX10_turn_48 : decode cX10_turn 48 = .ok (.if_icmp .gt 26, 3) := by decide +kernel
theorem dX10_turn_51 : decode cX10_turn 51 = .ok (.iload 4, 2) := by decide +kernel
theorem dX10_turn_53 : decode cX10_turn 53 = .ok (.bipush 23, 2) := by decide +kernel
theorem dX10_turn_55 : decode cX10_turn 55 = .ok (.if_icmp .gt 19, 3) := by decide +kernel
theorem dX10_turn_58 : decode cX10_turn 58 = .ok (.iload 5, 2) := by decide +kernel
theorem dX10_turn_60 : decode cX10_turn 60 = .ok (.bipush 6, 2) := by decide +kernel
theorem dX10_turn_62 : decode cX10_turn 62 = .ok (.if_icmp .gt 12, 3) := by decide +kernel
theorem dX10_turn_65 : decode cX10_turn 65 = .ok (.aload_n 0, 1) := by decide +kernel
theorem dX10_turn_66 : decode cX10_turn 66 = .ok (.getfield 164, 3) := by decide +kernel
theorem dX10_turn_69 : decode cX10_turn 69 = .ok (.bipush 30, 2) := by decide +kernel
theorem dX10_turn_71 : decode cX10_turn 71 = .ok (.if_icmp .ne 10, 3) := by decide +kernel
theorem dX10_turn_74 : decode cX10_turn 74 = .ok (.aload_n 0, 1) := by decide +kernel
theorem dX10_turn_75 : decode cX10_turn 75 = .ok (.bipush (-6), 2) := by decide +kernel
theorem dX10_turn_77 : decode cX10_turn 77 = .ok (.invokevirtual 145, 3) := by decide +kernel
theorem dX10_turn_80 : decode cX10_turn 80 = .ok (.ireturn, 1) := by decide +kernel
theorem dX10_turn_81 : decode cX10_turn 81 = .ok (.aload_n 0, 1) := by decide +kernel
theorem dX10_turn_82 : decode cX10_turn 82 = .ok (.getfield 75, 3) := by decide +kernel
theorem dX10_turn_85 : decode cX10_turn 85 = .ok (.aload_n 0, 1) := by decide +kernel
theorem dX10_turn_86 : decode cX10_turn 86 = .ok (.getfield 164, 3) := by decide +kernel
theorem dX10_turn_89 : decode cX10_turn 89 = .ok (.iload_n 1, 1) := by decide +kernel
theorem dX10_turn_90 : decode cX10_turn 90 = .ok (.iastore, 1) := by decide +kernel
theorem dX10_turn_91 : decode cX10_turn 91 = .ok (.aload_n 0, 1) := by decide +kernel
theorem dX10_turn_92 : decode cX10_turn 92 = .ok (.getfield 78, 3) := by decide +kernel
theorem dX10_turn_95 : decode cX10_turn 95 = .ok (.aload_n 0, 1) := by decide +kernel
theorem dX10_turn_96 : decode cX10_turn 96 = .ok (.getfield 164, 3) := by decide +kernel
theorem dX10_turn_99 : decode cX10_turn 99 = .ok (.iload_n 2, 1) := by decide +kernel
theorem dX10_turn_100 : decode cX10_turn 100 = .ok (.iastore, 1) := by decide +kernel
theorem dX10_turn_101 : decode cX10_turn 101 = .ok (.aload_n 0, 1) := by decide +kernel
theorem dX10_turn_102 : decode cX10_turn 102 = .ok (.getfield 81, 3) := by decide +kernel
theorem dX10_turn_105 : decode cX10_turn 105 = .ok (.aload_n 0, 1) := by decide +kernel
theorem dX10_turn_106 : decode cX10_turn 106 = .ok (.getfield 164, 3) := by decide +kernel
theorem dX10_turn_109 : decode cX10_turn 109 = .ok (.bipush 24, 2) := by decide +kernel
theorem dX10_turn_111 : decode cX10_turn 111 = .ok (.iload_n 3, 1) := by decide +kernel
theorem dX10_turn_112 : decode cX10_turn 112 = .ok (.imul, 1) := by decide +kernel
theorem dX10_turn_113 : decode cX10_turn 113 = .ok (.iload 4, 2) := by decide +kernel
theorem dX10_turn_115 : decode cX10_turn 115 = .ok (.iadd, 1) := by decide +kernel
theorem dX10_turn_116 : decode cX10_turn 116 = .ok (.iastore, 1) := by decide +kernel
theorem dX10_turn_117 : decode cX10_turn 117 = .ok (.aload_n 0, 1) := by decide +kernel
theorem dX10_turn_118 : decode cX10_turn 118 = .ok (.getfield 84, 3) := by decide +kernel
theorem dX10_turn_121 : decode cX10_turn 121 = .ok (.aload_n 0, 1) := by decide +kernel
theorem dX10_turn_122 : decode cX10_turn 122 = .ok (.getfield 164, 3) := by decide +kernel
theorem dX10_turn_125 : decode cX10_turn 125 = .ok (.iload 5, 2) := by decide +kernel
theorem dX10_turn_127 : decode cX10_turn 127 = .ok (.iastore, 1) := by decide +kernel
theorem dX10_turn_128 : decode cX10_turn 128 = .ok (.aload_n 0, 1) := by decide +kernel
theorem dX10_turn_129 : decode cX10_turn 129 = .ok (.dup, 1) := by decide +kernel
theorem dX10_turn_130 : decode cX10_turn 130 = .ok (.getfield 164, 3) := by decide +kernel
theorem dX10_turn_133 : decode cX10_turn 133 = .ok (.iconst 1, 1) := by decide +kernel
theorem dX10_turn_134 : decode cX10_turn 134 = .ok (.iadd, 1) := by decide +kernel
theorem dX10_turn_135 : decode cX10_turn 135 = .ok (.putfield 164, 3) := by decide +kernel
theorem dX10_turn_138 : decode cX10_turn 138 = .ok (.aload_n 0, 1) := by decide +kernel
theorem dX10_turn_139 : decode cX10_turn 139 = .ok (.getfield 164, 3) := by decide +kernel
theorem dX10_turn_142 : decode cX10_turn 142 = .ok (.iconst 1, 1) := by decide +kernel
theorem dX10_turn_143 : decode cX10_turn 143 = .ok (.isub, 1) := by decide +kernel
theorem dX10_turn_144 : decode cX10_turn 144 = .ok (.ireturn, 1) := by decide +kernel
theorem dX10_isLet_0 : decode cX10_isLet 0 = .ok (.iconst 0, 1) := by decide +kernel
theorem dX10_isLet_1 : decode cX10_isLet 1 = .ok (.istore_n 3, 1) := by decide +kernel
theorem dX10_isLet_2 : decode cX10_isLet 2 = .ok (.iload_n 3, 1) := by decide +kernel
theorem dX10_isLet_3 : decode cX10_isLet 3 = .ok (.aload_n 0, 1) := by decide +kernel
theorem dX10_isLet_4 : decode cX10_isLet 4 = .ok (.getfield 164, 3) := by decide +kernel
theorem dX10_isLet_7 : decode cX10_isLet 7 = .ok (.if_icmp .ge 46, 3) := by decide +kernel
theorem dX10_isLet_10 : decode cX10_isLet 10 = .ok (.aload_n 0, 1) := by decide +kernel
theorem dX10_isLet_11 : decode cX10_isLet 11 = .ok (.getfield 75, 3) := by decide +kernel
theorem dX10_isLet_14 : decode cX10_isLet 14 = .ok (.iload_n 3, 1) := by decide +kernel
theorem dX10_isLet_15 : decode cX10_isLet 15 = .ok (.iaload, 1) := by decide +kernel
theorem dX10_isLet_16 : decode cX10_isLet 16 = .ok (.iload_n 1, 1) := by decide +kernel
theorem dX10_isLet_17 : decode cX10_isLet 17 = .ok (.if_icmp .ne 30, 3) := by decide +kernel
theorem dX10_isLet_20 : decode cX10_isLet 20 = .ok (.iload_n 2, 1) := by decide +kernel
theorem dX10_isLet_21 : decode cX10_isLet 21 = .ok (.aload_n 0, 1) := by decide +kernel
theorem dX10_isLet_22 : decode cX10_isLet 22 = .ok (.getfield 81, 3) := by decide +kernel
theorem dX10_isLet_25 : decode cX10_isLet 25 = .ok (.iload_n 3, 1) := by decide +kernel
theorem dX10_isLet_26 : decode cX10_isLet 26 = .ok (.iaload, 1) := by decide +kernel
theorem dX10_isLet_27 : decode cX10_isLet 27 = .ok (.isub, 1) := by decide +kernel
theorem dX10_isLet_28 : decode cX10_isLet 28 = .ok (.sipush 168, 3) := by decide +kernel
theorem dX10_isLet_31 : decode cX10_isLet 31 = .ok (.iadd, 1) := by decide +kernel
theorem dX10_isLet_32 : decode cX10_isLet 32 = .ok (.sipush 168, 3) := by decide +kernel
theorem dX10_isLet_35 : decode cX10_isLet 35 = .ok (.irem, 1) := by decide +kernel
theorem dX10_isLet_36 : decode cX10_isLet 36 = .ok (.aload_n 0, 1) := by decide +kernel
theorem dX10_isLet_37 : decode cX10_isLet 37 = .ok (.getfield 84, 3) := by decide +kernel
theorem dX10_isLet_40 : decode cX10_isLet 40 = .ok (.iload_n 3, 1) := by decide +kernel
theorem dX10_isLet_41 : decode cX10_isLet 41 = .ok (.iaload, 1) := by decide +kernel
theorem dX10_isLet_42 : decode cX10_isLet 42 = .ok (.if_icmp .ge 5, 3) := by decide +kernel
theorem dX10_isLet_45 : decode cX10_isLet 45 = .ok (.iconst 1, 1) := by decide +kernel
theorem dX10_isLet_46 : decode cX10_isLet 46 = .ok (.ireturn, 1) := by decide +kernel
theorem dX10_isLet_47 : decode cX10_isLet 47 = .ok (.iinc 3 1, 3) := by decide +kernel
theorem dX10_isLet_50 : decode cX10_isLet 50 = .ok (.goto (-48), 3) := by decide +kernel
theorem dX10_isLet_53 : decode cX10_isLet 53 = .ok (.iconst 0, 1) := by decide +kernel
theorem dX10_isLet_54 : decode cX10_isLet 54 = .ok (.ireturn, 1) := by decide +kernel
theorem dX10_isOpen_0 : decode cX10_isOpen 0 = .ok (.iconst 1, 1) := by decide +kernel
theorem dX10_isOpen_1 : decode cX10_isOpen 1 = .ok (.istore_n 3, 1) := by decide +kernel
theorem dX10_isOpen_2 : decode cX10_isOpen 2 = .ok (.iload_n 1, 1) := by decide +kernel
theorem dX10_isOpen_3 : decode cX10_isOpen 3 = .ok (.istore 4, 2) := by decide +kernel
theorem dX10_isOpen_5 : decode cX10_isOpen 5 = .ok (.iload 4, 2) := by decide +kernel
theorem dX10_isOpen_7 : decode cX10_isOpen 7 = .ok (.ifCond .lt 27, 3) := by decide +kernel
theorem dX10_isOpen_10 : decode cX10_isOpen 10 = .ok (.iload_n 3, 1) := by decide +kernel
theorem dX10_isOpen_11 : decode cX10_isOpen 11 = .ok (.ifCond .eq 23, 3) := by decide +kernel
theorem dX10_isOpen_14 : decode cX10_isOpen 14 = .ok (.aload_n 0, 1) := by decide +kernel
theorem dX10_isOpen_15 : decode cX10_isOpen 15 = .ok (.iload 4, 2) := by decide +kernel
theorem dX10_isOpen_17 : decode cX10_isOpen 17 = .ok (.iload_n 2, 1) := by decide +kernel
theorem dX10_isOpen_18 : decode cX10_isOpen 18 = .ok (.invokevirtual 167, 3) := by decide +kernel
theorem dX10_isOpen_21 : decode cX10_isOpen 21 = .ok (.istore_n 3, 1) := by decide +kernel
theorem dX10_isOpen_22 : decode cX10_isOpen 22 = .ok (.aload_n 0, 1) := by decide +kernel
theorem dX10_isOpen_23 : decode cX10_isOpen 23 = .ok (.getfield 19, 3) := by decide +kernel
theorem dX10_isOpen_26 : decode cX10_isOpen 26 = .ok (.iload 4, 2) := by decide +kernel
theorem dX10_isOpen_28 : decode cX10_isOpen 28 = .ok (.iaload, 1) := by decide +kernel
theorem dX10_isOpen_29 : decode cX10_isOpen 29 = .ok (.istore 4, 2) := by decide +kernel
theorem dX10_isOpen_31 : decode cX10_isOpen 31 = .ok (.goto (-26), 3) := by decide +kernel
theorem dX10_isOpen_34 : decode cX10_isOpen 34 = .ok (.iload_n 3, 1) := by decide +kernel
theorem dX10_isOpen_35 : decode cX10_isOpen 35 = .ok (.ireturn, 1) := by decide +kernel
theorem dX10_let_0 : decode cX10_let 0 = .ok (.aload_n 0, 1) := by decide +kernel
theorem dX10_let_1 : decode cX10_let 1 = .ok (.iload_n 1, 1) := by decide +kernel
theorem dX10_let_2 : decode cX10_let 2 = .ok (.invokevirtual 156, 3) := by decide +kernel
theorem dX10_let_5 : decode cX10_let 5 = .ok (.ifCond .ne 9, 3) := by decide +kernel
theorem dX10_let_8 : decode cX10_let 8 = .ok (.aload_n 0, 1) := by decide +kernel
theorem dX10_let_9 : decode cX10_let 9 = .ok (.iconst (-1), 1) := by decide +kernel
theorem dX10_let_10 : decode cX10_let 10 = .ok (.invokevirtual 145, 3) := by decide +kernel
theorem dX10_let_13 : decode cX10_let 13 = .ok (.ireturn, 1) := by decide +kernel
theorem dX10_let_14 : decode cX10_let 14 = .ok (.iload_n 2, 1) := by decide +kernel
theorem dX10_let_15 : decode cX10_let 15 = .ok (.ifCond .ge 10, 3) := by decide +kernel
theorem dX10_let_18 : decode cX10_let 18 = .ok (.aload_n 0, 1) := by decide +kernel
theorem dX10_let_19 : decode cX10_let 19 = .ok (.bipush (-4), 2) := by decide +kernel
theorem dX10_let_21 : decode cX10_let 21 = .ok (.invokevirtual 145, 3) := by decide +kernel
theorem dX10_let_24 : decode cX10_let 24 = .ok (.ireturn, 1) := by decide +kernel
theorem dX10_let_25 : decode cX10_let 25 = .ok (.iload_n 2, 1) := by decide +kernel
theorem dX10_let_26 : decode cX10_let 26 = .ok (.sipush 167, 3) := by decide +kernel
theorem dX10_let_29 : decode cX10_let 29 = .ok (.if_icmp .le 10, 3) := by decide +kernel
theorem dX10_let_32 : decode cX10_let 32 = .ok (.aload_n 0, 1) := by decide +kernel
theorem dX10_let_33 : decode cX10_let 33 = .ok (.bipush (-6), 2) := by decide +kernel
theorem dX10_let_35 : decode cX10_let 35 = .ok (.invokevirtual 145, 3) := by decide +kernel
theorem dX10_let_38 : decode cX10_let 38 = .ok (.ireturn, 1) := by decide +kernel
theorem dX10_let_39 : decode cX10_let 39 = .ok (.iload_n 3, 1) := by decide +kernel
theorem dX10_let_40 : decode cX10_let 40 = .ok (.iconst 0, 1) := by decide +kernel
theorem dX10_let_41 : decode cX10_let 41 = .ok (.iconst 1, 1) := by decide +kernel
theorem dX10_let_42 : decode cX10_let 42 = .ok (.invokestatic 138, 3) := by decide +kernel
theorem dX10_let_45 : decode cX10_let 45 = .ok (.ifCond .ne 10, 3) := by decide +kernel
theorem dX10_let_48 : decode cX10_let 48 = .ok (.aload_n 0, 1) := by decide +kernel
theorem dX10_let_49 : decode cX10_let 49 = .ok (.bipush (-2), 2) := by decide +kernel
theorem dX10_let_51 : decode cX10_let 51 = .ok (.invokevirtual 145, 3) := by decide +kernel
theorem dX10_let_54 : decode cX10_let 54 = .ok (.ireturn, 1) := by decide +kernel
theorem dX10_let_55 : decode cX10_let 55 = .ok (.iload_n 3, 1) := by decide +kernel
theorem dX10_let_56 : decode cX10_let 56 = .ok (.ifCond .ne 20, 3) := by decide +kernel
theorem dX10_let_59 : decode cX10_let 59 = .ok (.aload_n 0, 1) := by decide +kernel
theorem dX10_let_60 : decode cX10_let 60 = .ok (.iload_n 1, 1) := by decide +kernel
theorem dX10_let_61 : decode cX10_let 61 = .ok (.iload_n 2, 1) := by decide +kernel
theorem dX10_let_62 : decode cX10_let 62 = .ok (.invokevirtual 167, 3) := by decide +kernel
theorem dX10_let_65 : decode cX10_let 65 = .ok (.ifCond .eq 7, 3) := by decide +kernel
theorem dX10_let_68 : decode cX10_let 68 = .ok (.iconst 1, 1) := by decide +kernel
theorem dX10_let_69 : decode cX10_let 69 = .ok (.goto 21, 3) := by decide +kernel
theorem dX10_let_72 : decode cX10_let 72 = .ok (.iconst 0, 1) := by decide +kernel
theorem dX10_let_73 : decode cX10_let 73 = .ok (.goto 17, 3) := by decide +kernel
theorem dX10_let_76 : decode cX10_let 76 = .ok (.aload_n 0, 1) := by decide +kernel
theorem dX10_let_77 : decode cX10_let 77 = .ok (.iload_n 1, 1) := by decide +kernel
theorem dX10_let_78 : decode cX10_let 78 = .ok (.iload_n 2, 1) := by decide +kernel
theorem dX10_let_79 : decode cX10_let 79 = .ok (.invokevirtual 171, 3) := by decide +kernel
theorem dX10_let_82 : decode cX10_let 82 = .ok (.ifCond .eq 7, 3) := by decide +kernel
theorem dX10_let_85 : decode cX10_let 85 = .ok (.iconst 1, 1) := by decide +kernel
theorem dX10_let_86 : decode cX10_let 86 = .ok (.goto 4, 3) := by decide +kernel
theorem dX10_let_89 : decode cX10_let 89 = .ok (.iconst 0, 1) := by decide +kernel
theorem dX10_let_90 : decode cX10_let 90 = .ok (.ireturn, 1) := by decide +kernel
theorem dX10_isOnWay_0 : decode cX10_isOnWay 0 = .ok (.iload_n 2, 1) := by decide +kernel
theorem dX10_isOnWay_1 : decode cX10_isOnWay 1 = .ok (.istore_n 3, 1) := by decide +kernel
theorem dX10_isOnWay_2 : decode cX10_isOnWay 2 = .ok (.iload_n 3, 1) := by decide +kernel
theorem dX10_isOnWay_3 : decode cX10_isOnWay 3 = .ok (.ifCond .lt 20, 3) := by decide +kernel
theorem dX10_isOnWay_6 : decode cX10_isOnWay 6 = .ok (.iload_n 3, 1) := by decide +kernel
theorem dX10_isOnWay_7 : decode cX10_isOnWay 7 = .ok (.iload_n 1, 1) := by decide +kernel
theorem dX10_isOnWay_8 : decode cX10_isOnWay 8 = .ok (.if_icmp .ne 5, 3) := by decide +kernel
theorem dX10_isOnWay_11 : decode cX10_isOnWay 11 = .ok (.iconst 1, 1) := by decide +kernel
theorem dX10_isOnWay_12 : decode cX10_isOnWay 12 = .ok (.ireturn, 1) := by decide +kernel
theorem dX10_isOnWay_13 : decode cX10_isOnWay 13 = .ok (.aload_n 0, 1) := by decide +kernel
theorem dX10_isOnWay_14 : decode cX10_isOnWay 14 = .ok (.getfield 19, 3) := by decide +kernel
theorem dX10_isOnWay_17 : decode cX10_isOnWay 17 = .ok (.iload_n 3, 1) := by decide +kernel
theorem dX10_isOnWay_18 : decode cX10_isOnWay 18 = .ok (.iaload, 1) := by decide +kernel
theorem dX10_isOnWay_19 : decode cX10_isOnWay 19 = .ok (.istore_n 3, 1) := by decide +kernel
theorem dX10_isOnWay_20 : decode cX10_isOnWay 20 = .ok (.goto (-18), 3) := by decide +kernel
theorem dX10_isOnWay_23 : decode cX10_isOnWay 23 = .ok (.iload_n 1, 1) := by decide +kernel
theorem dX10_isOnWay_24 : decode cX10_isOnWay 24 = .ok (.iconst (-1), 1) := by decide +kernel
theorem dX10_isOnWay_25 : decode cX10_isOnWay 25 = .ok (.if_icmp .ne 7, 3) := by decide +kernel
theorem dX10_isOnWay_28 : decode cX10_isOnWay 28 = .ok (.iconst 1, 1) := by decide +kernel
theorem dX10_isOnWay_29 : decode cX10_isOnWay 29 = .ok (.goto 4, 3) := by decide +kernel
theorem dX10_isOnWay_32 : decode cX10_isOnWay 32 = .ok (.iconst 0, 1) := by decide +kernel
theorem dX10_isOnWay_33 : decode cX10_isOnWay 33 = .ok (.ireturn, 1) := by decide +kernel
theorem dX10_wayOf_0 : decode cX10_wayOf 0 = .ok (.iconst 0, 1) := by decide +kernel
theorem dX10_wayOf_1 : decode cX10_wayOf 1 = .ok (.istore_n 3, 1) := by decide +kernel
theorem dX10_wayOf_2 : decode cX10_wayOf 2 = .ok (.iload_n 1, 1) := by decide +kernel
theorem dX10_wayOf_3 : decode cX10_wayOf 3 = .ok (.istore 4, 2) := by decide +kernel
theorem dX10_wayOf_5 : decode cX10_wayOf 5 = .ok (.aload_n 0, 1) := by decide +kernel
theorem dX10_wayOf_6 : decode cX10_wayOf 6 = .ok (.iload 4, 2) := by decide +kernel
theorem dX10_wayOf_8 : decode cX10_wayOf 8 = .ok (.iload_n 2, 1) := by decide +kernel
theorem dX10_wayOf_9 : decode cX10_wayOf 9 = .ok (.invokevirtual 174, 3) := by decide +kernel
theorem dX10_wayOf_12 : decode cX10_wayOf 12 = .ok (.ifCond .ne 18, 3) := by decide +kernel
theorem dX10_wayOf_15 : decode cX10_wayOf 15 = .ok (.aload_n 0, 1) := by decide +kernel
theorem dX10_wayOf_16 : decode cX10_wayOf 16 = .ok (.getfield 19, 3) := by decide +kernel
theorem dX10_wayOf_19 : decode cX10_wayOf 19 = .ok (.iload 4, 2) := by decide +kernel
theorem dX10_wayOf_21 : decode cX10_wayOf 21 = .ok (.iaload, 1) := by decide +kernel
theorem dX10_wayOf_22 : decode cX10_wayOf 22 = .ok (.istore 4, 2) := by decide +kernel
theorem dX10_wayOf_24 : decode cX10_wayOf 24 = .ok (.iinc 3 1, 3) := by decide +kernel
theorem dX10_wayOf_27 : decode cX10_wayOf 27 = .ok (.goto (-22), 3) := by decide +kernel
theorem dX10_wayOf_30 : decode cX10_wayOf 30 = .ok (.iload_n 2, 1) := by decide +kernel
theorem dX10_wayOf_31 : decode cX10_wayOf 31 = .ok (.istore 5, 2) := by decide +kernel
theorem dX10_wayOf_33 : decode cX10_wayOf 33 = .ok (.iload 5, 2) := by decide +kernel
theorem dX10_wayOf_35 : decode cX10_wayOf 35 = .ok (.iload 4, 2) := by decide +kernel
theorem dX10_wayOf_37 : decode cX10_wayOf 37 = .ok (.if_icmp .eq 18, 3) := by decide +kernel
theorem dX10_wayOf_40 : decode cX10_wayOf 40 = .ok (.iinc 3 1, 3) := by decide +kernel
theorem dX10_wayOf_43 : decode cX10_wayOf 43 = .ok (.aload_n 0, 1) := by decide +kernel
theorem dX10_wayOf_44 : decode cX10_wayOf 44 = .ok (.getfield 19, 3) := by decide +kernel
theorem dX10_wayOf_47 : decode cX10_wayOf 47 = .ok (.iload 5, 2) := by decide +kernel
theorem dX10_wayOf_49 : decode cX10_wayOf 49 = .ok (.iaload, 1) := by decide +kernel
theorem dX10_wayOf_50 : decode cX10_wayOf 50 = .ok (.istore 5, 2) := by decide +kernel
theorem dX10_wayOf_52 : decode cX10_wayOf 52 = .ok (.goto (-19), 3) := by decide +kernel
theorem dX10_wayOf_55 : decode cX10_wayOf 55 = .ok (.iload_n 3, 1) := by decide +kernel
theorem dX10_wayOf_56 : decode cX10_wayOf 56 = .ok (.ireturn, 1) := by decide +kernel
theorem dX10_way_0 : decode cX10_way 0 = .ok (.iload_n 1, 1) := by decide +kernel
theorem dX10_way_1 : decode cX10_way 1 = .ok (.iconst (-1), 1) := by decide +kernel
theorem dX10_way_2 : decode cX10_way 2 = .ok (.aload_n 0, 1) := by decide +kernel
theorem dX10_way_3 : decode cX10_way 3 = .ok (.getfield 135, 3) := by decide +kernel
theorem dX10_way_6 : decode cX10_way 6 = .ok (.iconst 1, 1) := by decide +kernel
theorem dX10_way_7 : decode cX10_way 7 = .ok (.isub, 1) := by decide +kernel
theorem dX10_way_8 : decode cX10_way 8 = .ok (.invokestatic 138, 3) := by decide +kernel
theorem dX10_way_11 : decode cX10_way 11 = .ok (.ifCond .eq 26, 3) := by decide +kernel
theorem dX10_way_14 : decode cX10_way 14 = .ok (.iload_n 2, 1) := by decide +kernel
theorem dX10_way_15 : decode cX10_way 15 = .ok (.iconst (-1), 1) := by decide +kernel
theorem dX10_way_16 : decode cX10_way 16 = .ok (.aload_n 0, 1) := by decide +kernel
theorem dX10_way_17 : decode cX10_way 17 = .ok (.getfield 135, 3) := by decide +kernel
theorem dX10_way_20 : decode cX10_way 20 = .ok (.iconst 1, 1) := by decide +kernel
theorem dX10_way_21 : decode cX10_way 21 = .ok (.isub, 1) := by decide +kernel
theorem dX10_way_22 : decode cX10_way 22 = .ok (.invokestatic 138, 3) := by decide +kernel
theorem dX10_way_25 : decode cX10_way 25 = .ok (.ifCond .eq 12, 3) := by decide +kernel
theorem dX10_way_28 : decode cX10_way 28 = .ok (.aload_n 0, 1) := by decide +kernel
theorem dX10_way_29 : decode cX10_way 29 = .ok (.iload_n 1, 1) := by decide +kernel
theorem dX10_way_30 : decode cX10_way 30 = .ok (.iload_n 2, 1) := by decide +kernel
theorem dX10_way_31 : decode cX10_way 31 = .ok (.invokevirtual 177, 3) := by decide +kernel
theorem dX10_way_34 : decode cX10_way 34 = .ok (.goto 8, 3) := by decide +kernel
theorem dX10_way_37 : decode cX10_way 37 = .ok (.aload_n 0, 1) := by decide +kernel
theorem dX10_way_38 : decode cX10_way 38 = .ok (.iconst (-1), 1) := by decide +kernel
theorem dX10_way_39 : decode cX10_way 39 = .ok (.invokevirtual 145, 3) := by decide +kernel
theorem dX10_way_42 : decode cX10_way 42 = .ok (.ireturn, 1) := by decide +kernel
theorem dX10_clash_0 : decode cX10_clash 0 = .ok (.aload_n 0, 1) := by decide +kernel
theorem dX10_clash_1 : decode cX10_clash 1 = .ok (.aload_n 0, 1) := by decide +kernel
theorem dX10_clash_2 : decode cX10_clash 2 = .ok (.getfield 75, 3) := by decide +kernel
theorem dX10_clash_5 : decode cX10_clash 5 = .ok (.iload_n 1, 1) := by decide +kernel
theorem dX10_clash_6 : decode cX10_clash 6 = .ok (.iaload, 1) := by decide +kernel
theorem dX10_clash_7 : decode cX10_clash 7 = .ok (.aload_n 0, 1) := by decide +kernel
theorem dX10_clash_8 : decode cX10_clash 8 = .ok (.getfield 75, 3) := by decide +kernel
theorem dX10_clash_11 : decode cX10_clash 11 = .ok (.iload_n 2, 1) := by decide +kernel
theorem dX10_clash_12 : decode cX10_clash 12 = .ok (.iaload, 1) := by decide +kernel
theorem dX10_clash_13 : decode cX10_clash 13 = .ok (.invokevirtual 177, 3) := by decide +kernel
theorem dX10_clash_16 : decode cX10_clash 16 = .ok (.iconst 1, 1) := by decide +kernel
theorem dX10_clash_17 : decode cX10_clash 17 = .ok (.iadd, 1) := by decide +kernel
theorem dX10_clash_18 : decode cX10_clash 18 = .ok (.iconst 2, 1) := by decide +kernel
theorem dX10_clash_19 : decode cX10_clash 19 = .ok (.idiv, 1) := by decide +kernel
theorem dX10_clash_20 : decode cX10_clash 20 = .ok (.istore_n 3, 1) := by decide +kernel
theorem dX10_clash_21 : decode cX10_clash 21 = .ok (.aload_n 0, 1) := by decide +kernel
theorem dX10_clash_22 : decode cX10_clash 22 = .ok (.getfield 81, 3) := by decide +kernel
theorem dX10_clash_25 : decode cX10_clash 25 = .ok (.iload_n 2, 1) := by decide +kernel
theorem dX10_clash_26 : decode cX10_clash 26 = .ok (.iaload, 1) := by decide +kernel
theorem dX10_clash_27 : decode cX10_clash 27 = .ok (.aload_n 0, 1) := by decide +kernel
theorem dX10_clash_28 : decode cX10_clash 28 = .ok (.getfield 81, 3) := by decide +kernel
theorem dX10_clash_31 : decode cX10_clash 31 = .ok (.iload_n 1, 1) := by decide +kernel
theorem dX10_clash_32 : decode cX10_clash 32 = .ok (.iaload, 1) := by decide +kernel
theorem dX10_clash_33 : decode cX10_clash 33 = .ok (.isub, 1) := by decide +kernel
theorem dX10_clash_34 : decode cX10_clash 34 = .ok (.sipush 168, 3) := by decide +kernel
theorem dX10_clash_37 : decode cX10_clash 37 = .ok (.iadd, 1) := by decide +kernel
theorem dX10_clash_38 : decode cX10_clash 38 = .ok (.sipush 168, 3) := by decide +kernel
theorem dX10_clash_41 : decode cX10_clash 41 = .ok (.irem, 1) := by decide +kernel
theorem dX10_clash_42 : decode cX10_clash 42 = .ok (.istore 4, 2) := by decide +kernel
theorem dX10_clash_44 : decode cX10_clash 44 = .ok (.aload_n 0, 1) := by decide +kernel
theorem dX10_clash_45 : decode cX10_clash 45 = .ok (.getfield 81, 3) := by decide +kernel
theorem dX10_clash_48 : decode cX10_clash 48 = .ok (.iload_n 1, 1) := by decide +kernel
theorem dX10_clash_49 : decode cX10_clash 49 = .ok (.iaload, 1) := by decide +kernel
theorem dX10_clash_50 : decode cX10_clash 50 = .ok (.aload_n 0, 1) := by decide +kernel
theorem dX10_clash_51 : decode cX10_clash 51 = .ok (.getfield 81, 3) := by decide +kernel
theorem dX10_clash_54 : decode cX10_clash 54 = .ok (.iload_n 2, 1) := by decide +kernel
theorem dX10_clash_55 : decode cX10_clash 55 = .ok (.iaload, 1) := by decide +kernel
theorem dX10_clash_56 : decode cX10_clash 56 = .ok (.isub, 1) := by decide +kernel
theorem dX10_clash_57 : decode cX10_clash 57 = .ok (.sipush 168, 3) := by decide +kernel
theorem dX10_clash_60 : decode cX10_clash 60 = .ok (.iadd, 1) := by decide +kernel
theorem dX10_clash_61 : decode cX10_clash 61 = .ok (.sipush 168, 3) := by decide +kernel
theorem dX10_clash_64 : decode cX10_clash 64 = .ok (.irem, 1) := by decide +kernel
theorem dX10_clash_65 : decode cX10_clash 65 = .ok (.istore 5, 2) := by decide +kernel
theorem dX10_clash_67 : decode cX10_clash 67 = .ok (.iload 4, 2) := by decide +kernel
theorem dX10_clash_69 : decode cX10_clash 69 = .ok (.aload_n 0, 1) := by decide +kernel
theorem dX10_clash_70 : decode cX10_clash 70 = .ok (.getfield 84, 3) := by decide +kernel
theorem dX10_clash_73 : decode cX10_clash 73 = .ok (.iload_n 1, 1) := by decide +kernel
theorem dX10_clash_74 : decode cX10_clash 74 = .ok (.iaload, 1) := by decide +kernel
theorem dX10_clash_75 : decode cX10_clash 75 = .ok (.if_icmp .lt 26, 3) := by decide +kernel
theorem dX10_clash_78 : decode cX10_clash 78 = .ok (.iload 5, 2) := by decide +kernel
theorem dX10_clash_80 : decode cX10_clash 80 = .ok (.aload_n 0, 1) := by decide +kernel
theorem dX10_clash_81 : decode cX10_clash 81 = .ok (.getfield 84, 3) := by decide +kernel
theorem dX10_clash_84 : decode cX10_clash 84 = .ok (.iload_n 2, 1) := by decide +kernel
theorem dX10_clash_85 : decode cX10_clash 85 = .ok (.iaload, 1) := by decide +kernel
theorem dX10_clash_86 : decode cX10_clash 86 = .ok (.if_icmp .lt 15, 3) := by decide +kernel
theorem dX10_clash_89 : decode cX10_clash 89 = .ok (.iload 4, 2) := by decide +kernel
theorem dX10_clash_91 : decode cX10_clash 91 = .ok (.iload_n 3, 1) := by decide +kernel
theorem dX10_clash_92 : decode cX10_clash 92 = .ok (.if_icmp .lt 9, 3) := by decide +kernel
theorem dX10_clash_95 : decode cX10_clash 95 = .ok (.iload 5, 2) := by decide +kernel
theorem dX10_clash_97 : decode cX10_clash 97 = .ok (.iload_n 3, 1) := by decide +kernel
theorem dX10_clash_98 : decode cX10_clash 98 = .ok (.if_icmp .ge 7, 3) := by decide +kernel
theorem dX10_clash_101 : decode cX10_clash 101 = .ok (.iconst 1, 1) := by decide +kernel
theorem dX10_clash_102 : decode cX10_clash 102 = .ok (.goto 4, 3) := by decide +kernel
theorem dX10_clash_105 : decode cX10_clash 105 = .ok (.iconst 0, 1) := by decide +kernel
theorem dX10_clash_106 : decode cX10_clash 106 = .ok (.ireturn, 1) := by decide +kernel
theorem dX10_clashes_0 : decode cX10_clashes 0 = .ok (.iload_n 1, 1) := by decide +kernel
theorem dX10_clashes_1 : decode cX10_clashes 1 = .ok (.iconst 0, 1) := by decide +kernel
theorem dX10_clashes_2 : decode cX10_clashes 2 = .ok (.iconst 2, 1) := by decide +kernel
theorem dX10_clashes_3 : decode cX10_clashes 3 = .ok (.invokestatic 138, 3) := by decide +kernel
theorem dX10_clashes_6 : decode cX10_clashes 6 = .ok (.ifCond .ne 9, 3) := by decide +kernel
theorem dX10_clashes_9 : decode cX10_clashes 9 = .ok (.aload_n 0, 1) := by decide +kernel
theorem dX10_clashes_10 : decode cX10_clashes 10 = .ok (.iconst (-1), 1) := by decide +kernel
theorem dX10_clashes_11 : decode cX10_clashes 11 = .ok (.invokevirtual 145, 3) := by decide +kernel
theorem dX10_clashes_14 : decode cX10_clashes 14 = .ok (.ireturn, 1) := by decide +kernel
theorem dX10_clashes_15 : decode cX10_clashes 15 = .ok (.iconst 0, 1) := by decide +kernel
theorem dX10_clashes_16 : decode cX10_clashes 16 = .ok (.istore_n 2, 1) := by decide +kernel
theorem dX10_clashes_17 : decode cX10_clashes 17 = .ok (.iconst 0, 1) := by decide +kernel
theorem dX10_clashes_18 : decode cX10_clashes 18 = .ok (.istore_n 3, 1) := by decide +kernel
theorem dX10_clashes_19 : decode cX10_clashes 19 = .ok (.iload_n 3, 1) := by decide +kernel
theorem dX10_clashes_20 : decode cX10_clashes 20 = .ok (.aload_n 0, 1) := by decide +kernel
theorem dX10_clashes_21 : decode cX10_clashes 21 = .ok (.getfield 164, 3) := by decide +kernel
theorem dX10_clashes_24 : decode cX10_clashes 24 = .ok (.if_icmp .ge 79, 3) := by decide +kernel
theorem dX10_clashes_27 : decode cX10_clashes 27 = .ok (.iconst 0, 1) := by decide +kernel
theorem dX10_clashes_28 : decode cX10_clashes 28 = .ok (.istore 4, 2) := by decide +kernel
theorem dX10_clashes_30 : decode cX10_clashes 30 = .ok (.iload 4, 2) := by decide +kernel
theorem dX10_clashes_32 : decode cX10_clashes 32 = .ok (.iload_n 3, 1) := by decide +kernel
theorem dX10_clashes_33 : decode cX10_clashes 33 = .ok (.if_icmp .ge 64, 3) := by decide +kernel
theorem dX10_clashes_36 : decode cX10_clashes 36 = .ok (.iload_n 2, 1) := by decide +kernel
theorem dX10_clashes_37 : decode cX10_clashes 37 = .ok (.aload_n 0, 1) := by decide +kernel
theorem dX10_clashes_38 : decode cX10_clashes 38 = .ok (.getfield 78, 3) := by decide +kernel
theorem dX10_clashes_41 : decode cX10_clashes 41 = .ok (.iload_n 3, 1) := by decide +kernel
theorem dX10_clashes_42 : decode cX10_clashes 42 = .ok (.iaload, 1) := by decide +kernel
theorem dX10_clashes_43 : decode cX10_clashes 43 = .ok (.iload_n 1, 1) := by decide +kernel
theorem dX10_clashes_44 : decode cX10_clashes 44 = .ok (.if_icmp .ne 44, 3) := by decide +kernel
theorem dX10_clashes_47 : decode cX10_clashes 47 = .ok (.aload_n 0, 1) := by decide +kernel
theorem dX10_clashes_48 : decode cX10_clashes 48 = .ok (.getfield 78, 3) := by decide +kernel
theorem dX10_clashes_51 : decode cX10_clashes 51 = .ok (.iload 4, 2) := by decide +kernel
theorem dX10_clashes_53 : decode cX10_clashes 53 = .ok (.iaload, 1) := by decide +kernel
theorem dX10_clashes_54 : decode cX10_clashes 54 = .ok (.iload_n 1, 1) := by decide +kernel
theorem dX10_clashes_55 : decode cX10_clashes 55 = .ok (.if_icmp .ne 33, 3) := by decide +kernel
theorem dX10_clashes_58 : decode cX10_clashes 58 = .ok (.aload_n 0, 1) := by decide +kernel
theorem dX10_clashes_59 : decode cX10_clashes 59 = .ok (.getfield 75, 3) := by decide +kernel
theorem dX10_clashes_62 : decode cX10_clashes 62 = .ok (.iload_n 3, 1) := by decide +kernel
theorem dX10_clashes_63 : decode cX10_clashes 63 = .ok (.iaload, 1) := by decide +kernel
theorem dX10_clashes_64 : decode cX10_clashes 64 = .ok (.aload_n 0, 1) := by decide +kernel
theorem dX10_clashes_65 : decode cX10_clashes 65 = .ok (.getfield 75, 3) := by decide +kernel
theorem dX10_clashes_68 : decode cX10_clashes 68 = .ok (.iload 4, 2) := by decide +kernel
theorem dX10_clashes_70 : decode cX10_clashes 70 = .ok (.iaload, 1) := by decide +kernel
theorem dX10_clashes_71 : decode cX10_clashes 71 = .ok (.if_icmp .eq 17, 3) := by decide +kernel
theorem dX10_clashes_74 : decode cX10_clashes 74 = .ok (.aload_n 0, 1) := by decide +kernel
theorem dX10_clashes_75 : decode cX10_clashes 75 = .ok (.iload_n 3, 1) := by decide +kernel
theorem dX10_clashes_76 : decode cX10_clashes 76 = .ok (.iload 4, 2) := by decide +kernel
theorem dX10_clashes_78 : decode cX10_clashes 78 = .ok (.invokevirtual 181, 3) := by decide +kernel
theorem dX10_clashes_81 : decode cX10_clashes 81 = .ok (.ifCond .eq 7, 3) := by decide +kernel
theorem dX10_clashes_84 : decode cX10_clashes 84 = .ok (.iconst 1, 1) := by decide +kernel
theorem dX10_clashes_85 : decode cX10_clashes 85 = .ok (.goto 4, 3) := by decide +kernel
theorem dX10_clashes_88 : decode cX10_clashes 88 = .ok (.iconst 0, 1) := by decide +kernel
theorem dX10_clashes_89 : decode cX10_clashes 89 = .ok (.iadd, 1) := by decide +kernel
theorem dX10_clashes_90 : decode cX10_clashes 90 = .ok (.istore_n 2, 1) := by decide +kernel
theorem dX10_clashes_91 : decode cX10_clashes 91 = .ok (.iinc 4 1, 3) := by decide +kernel
theorem dX10_clashes_94 : decode cX10_clashes 94 = .ok (.goto (-64), 3) := by decide +kernel
theorem dX10_clashes_97 : decode cX10_clashes 97 = .ok (.iinc 3 1, 3) := by decide +kernel
theorem dX10_clashes_100 : decode cX10_clashes 100 = .ok (.goto (-81), 3) := by decide +kernel
theorem dX10_clashes_103 : decode cX10_clashes 103 = .ok (.iload_n 2, 1) := by decide +kernel
theorem dX10_clashes_104 : decode cX10_clashes 104 = .ok (.ireturn, 1) := by decide +kernel
theorem dX10_dripOf_0 : decode cX10_dripOf 0 = .ok (.aload_n 0, 1) := by decide +kernel
theorem dX10_dripOf_1 : decode cX10_dripOf 1 = .ok (.getfield 29, 3) := by decide +kernel
theorem dX10_dripOf_4 : decode cX10_dripOf 4 = .ok (.iload_n 1, 1) := by decide +kernel
theorem dX10_dripOf_5 : decode cX10_dripOf 5 = .ok (.baload, 1) := by decide +kernel
theorem dX10_dripOf_6 : decode cX10_dripOf 6 = .ok (.ifCond .eq 7, 3) := by decide +kernel
theorem dX10_dripOf_9 : decode cX10_dripOf 9 = .ok (.iconst 0, 1) := by decide +kernel
theorem dX10_dripOf_10 : decode cX10_dripOf 10 = .ok (.goto 32, 3) := by decide +kernel
theorem dX10_dripOf_13 : decode cX10_dripOf 13 = .ok (.aload_n 0, 1) := by decide +kernel
theorem dX10_dripOf_14 : decode cX10_dripOf 14 = .ok (.getfield 23, 3) := by decide +kernel
theorem dX10_dripOf_17 : decode cX10_dripOf 17 = .ok (.iload_n 1, 1) := by decide +kernel
theorem dX10_dripOf_18 : decode cX10_dripOf 18 = .ok (.iaload, 1) := by decide +kernel
theorem dX10_dripOf_19 : decode cX10_dripOf 19 = .ok (.iconst 1, 1) := by decide +kernel
theorem dX10_dripOf_20 : decode cX10_dripOf 20 = .ok (.aload_n 0, 1) := by decide +kernel
theorem dX10_dripOf_21 : decode cX10_dripOf 21 = .ok (.getfield 149, 3) := by decide +kernel
theorem dX10_dripOf_24 : decode cX10_dripOf 24 = .ok (.sipush 168, 3) := by decide +kernel
theorem dX10_dripOf_27 : decode cX10_dripOf 27 = .ok (.idiv, 1) := by decide +kernel
theorem dX10_dripOf_28 : decode cX10_dripOf 28 = .ok (.aload_n 0, 1) := by decide +kernel
theorem dX10_dripOf_29 : decode cX10_dripOf 29 = .ok (.getfield 26, 3) := by decide +kernel
theorem dX10_dripOf_32 : decode cX10_dripOf 32 = .ok (.iload_n 1, 1) := by decide +kernel
theorem dX10_dripOf_33 : decode cX10_dripOf 33 = .ok (.iaload, 1) := by decide +kernel
theorem dX10_dripOf_34 : decode cX10_dripOf 34 = .ok (.isub, 1) := by decide +kernel
theorem dX10_dripOf_35 : decode cX10_dripOf 35 = .ok (.iconst 4, 1) := by decide +kernel
theorem dX10_dripOf_36 : decode cX10_dripOf 36 = .ok (.idiv, 1) := by decide +kernel
theorem dX10_dripOf_37 : decode cX10_dripOf 37 = .ok (.iadd, 1) := by decide +kernel
theorem dX10_dripOf_38 : decode cX10_dripOf 38 = .ok (.imul, 1) := by decide +kernel
theorem dX10_dripOf_39 : decode cX10_dripOf 39 = .ok (.bipush 10, 2) := by decide +kernel
theorem dX10_dripOf_41 : decode cX10_dripOf 41 = .ok (.idiv, 1) := by decide +kernel
theorem dX10_dripOf_42 : decode cX10_dripOf 42 = .ok (.ireturn, 1) := by decide +kernel
theorem dX10_take_0 : decode cX10_take 0 = .ok (.iload_n 1, 1) := by decide +kernel
theorem dX10_take_1 : decode cX10_take 1 = .ok (.aload_n 0, 1) := by decide +kernel
theorem dX10_take_2 : decode cX10_take 2 = .ok (.getfield 184, 3) := by decide +kernel
theorem dX10_take_5 : decode cX10_take 5 = .ok (.invokestatic 187, 3) := by decide +kernel
theorem dX10_take_8 : decode cX10_take 8 = .ok (.istore_n 2, 1) := by decide +kernel
theorem dX10_take_9 : decode cX10_take 9 = .ok (.aload_n 0, 1) := by decide +kernel
theorem dX10_take_10 : decode cX10_take 10 = .ok (.dup, 1) := by decide +kernel
theorem dX10_take_11 : decode cX10_take 11 = .ok (.getfield 184, 3) := by decide +kernel
theorem dX10_take_14 : decode cX10_take 14 = .ok (.iload_n 2, 1) := by decide +kernel
theorem dX10_take_15 : decode cX10_take 15 = .ok (.isub, 1) := by decide +kernel
theorem dX10_take_16 : decode cX10_take 16 = .ok (.putfield 184, 3) := by decide +kernel
theorem dX10_take_19 : decode cX10_take 19 = .ok (.iload_n 2, 1) := by decide +kernel
theorem dX10_take_20 : decode cX10_take 20 = .ok (.ireturn, 1) := by decide +kernel
theorem dX10_fillHouse_0 : decode cX10_fillHouse 0 = .ok (.aload_n 0, 1) := by decide +kernel
theorem dX10_fillHouse_1 : decode cX10_fillHouse 1 = .ok (.getfield 57, 3) := by decide +kernel
theorem dX10_fillHouse_4 : decode cX10_fillHouse 4 = .ok (.iload_n 1, 1) := by decide +kernel
theorem dX10_fillHouse_5 : decode cX10_fillHouse 5 = .ok (.baload, 1) := by decide +kernel
theorem dX10_fillHouse_6 : decode cX10_fillHouse 6 = .ok (.ifCond .eq 35, 3) := by decide +kernel
theorem dX10_fillHouse_9 : decode cX10_fillHouse 9 = .ok (.aload_n 0, 1) := by decide +kernel
theorem dX10_fillHouse_10 : decode cX10_fillHouse 10 = .ok (.getfield 63, 3) := by decide +kernel
theorem dX10_fillHouse_13 : decode cX10_fillHouse 13 = .ok (.iload_n 1, 1) := by decide +kernel
theorem dX10_fillHouse_14 : decode cX10_fillHouse 14 = .ok (.dup2, 1) := by decide +kernel
theorem dX10_fillHouse_15 : decode cX10_fillHouse 15 = .ok (.iaload, 1) := by decide +kernel
theorem dX10_fillHouse_16 : decode cX10_fillHouse 16 = .ok (.aload_n 0, 1) := by decide +kernel
theorem dX10_fillHouse_17 : decode cX10_fillHouse 17 = .ok (.bipush 30, 2) := by decide +kernel
theorem dX10_fillHouse_19 : decode cX10_fillHouse 19 = .ok (.aload_n 0, 1) := by decide +kernel
theorem dX10_fillHouse_20 : decode cX10_fillHouse 20 = .ok (.getfield 48, 3) := by decide +kernel
theorem dX10_fillHouse_23 : decode cX10_fillHouse 23 = .ok (.iload_n 1, 1) := by decide +kernel
theorem dX10_fillHouse_24 : decode cX10_fillHouse 24 = .ok (.iaload, 1) := by decide +kernel
theorem dX10_fillHouse_25 : decode cX10_fillHouse 25 = .ok (.aload_n 0, 1) := by decide +kernel
theorem dX10_fillHouse_26 : decode cX10_fillHouse 26 = .ok (.getfield 63, 3) := by decide +kernel
theorem dX10_fillHouse_29 : decode cX10_fillHouse 29 = .ok (.iload_n 1, 1) := by decide +kernel
theorem dX10_fillHouse_30 : decode cX10_fillHouse 30 = .ok (.iaload, 1) := by decide +kernel
theorem dX10_fillHouse_31 : decode cX10_fillHouse 31 = .ok (.isub, 1) := by decide +kernel
theorem dX10_fillHouse_32 : decode cX10_fillHouse 32 = .ok (.invokestatic 187, 3) := by decide +kernel
theorem dX10_fillHouse_35 : decode cX10_fillHouse 35 = .ok (.invokevirtual 190, 3) := by decide +kernel
theorem dX10_fillHouse_38 : decode cX10_fillHouse 38 = .ok (.iadd, 1) := by decide +kernel
theorem dX10_fillHouse_39 : decode cX10_fillHouse 39 = .ok (.iastore, 1) := by decide +kernel
theorem dX10_fillHouse_40 : decode cX10_fillHouse 40 = .ok (.return_, 1) := by decide +kernel
theorem dX10_fillHouse_41 : decode cX10_fillHouse 41 = .ok (.aload_n 0, 1) := by decide +kernel
theorem dX10_fillHouse_42 : decode cX10_fillHouse 42 = .ok (.getfield 63, 3) := by decide +kernel
theorem dX10_fillHouse_45 : decode cX10_fillHouse 45 = .ok (.iload_n 1, 1) := by decide +kernel
theorem dX10_fillHouse_46 : decode cX10_fillHouse 46 = .ok (.dup2, 1) := by decide +kernel
theorem dX10_fillHouse_47 : decode cX10_fillHouse 47 = .ok (.iaload, 1) := by decide +kernel
theorem dX10_fillHouse_48 : decode cX10_fillHouse 48 = .ok (.aload_n 0, 1) := by decide +kernel
theorem dX10_fillHouse_49 : decode cX10_fillHouse 49 = .ok (.bipush 30, 2) := by decide +kernel
theorem dX10_fillHouse_51 : decode cX10_fillHouse 51 = .ok (.invokevirtual 190, 3) := by decide +kernel
theorem dX10_fillHouse_54 : decode cX10_fillHouse 54 = .ok (.iadd, 1) := by decide +kernel
theorem dX10_fillHouse_55 : decode cX10_fillHouse 55 = .ok (.iastore, 1) := by decide +kernel
theorem dX10_fillHouse_56 : decode cX10_fillHouse 56 = .ok (.aload_n 0, 1) := by decide +kernel
theorem dX10_fillHouse_57 : decode cX10_fillHouse 57 = .ok (.getfield 63, 3) := by decide +kernel
theorem dX10_fillHouse_60 : decode cX10_fillHouse 60 = .ok (.iload_n 1, 1) := by decide +kernel
theorem dX10_fillHouse_61 : decode cX10_fillHouse 61 = .ok (.iaload, 1) := by decide +kernel
theorem dX10_fillHouse_62 : decode cX10_fillHouse 62 = .ok (.aload_n 0, 1) := by decide +kernel
theorem dX10_fillHouse_63 : decode cX10_fillHouse 63 = .ok (.getfield 48, 3) := by decide +kernel
theorem dX10_fillHouse_66 : decode cX10_fillHouse 66 = .ok (.iload_n 1, 1) := by decide +kernel
theorem dX10_fillHouse_67 : decode cX10_fillHouse 67 = .ok (.iaload, 1) := by decide +kernel
theorem dX10_fillHouse_68 : decode cX10_fillHouse 68 = .ok (.if_icmp .le 37, 3) := by decide +kernel
theorem dX10_fillHouse_71 : decode cX10_fillHouse 71 = .ok (.aload_n 0, 1) := by decide +kernel
theorem dX10_fillHouse_72 : decode cX10_fillHouse 72 = .ok (.dup, 1) := by decide +kernel
theorem dX10_fillHouse_73 : decode cX10_fillHouse 73 = .ok (.getfield 193, 3) := by decide +kernel
theorem dX10_fillHouse_76 : decode cX10_fillHouse 76 = .ok (.aload_n 0, 1) := by decide +kernel
theorem dX10_fillHouse_77 : decode cX10_fillHouse 77 = .ok (.getfield 63, 3) := by decide +kernel
theorem dX10_fillHouse_80 : decode cX10_fillHouse 80 = .ok (.iload_n 1, 1) := by decide +kernel
theorem dX10_fillHouse_81 : decode cX10_fillHouse 81 = .ok (.iaload, 1) := by decide +kernel
theorem dX10_fillHouse_82 : decode cX10_fillHouse 82 = .ok (.aload_n 0, 1) := by decide +kernel
theorem dX10_fillHouse_83 : decode cX10_fillHouse 83 = .ok (.getfield 48, 3) := by decide +kernel
theorem dX10_fillHouse_86 : decode cX10_fillHouse 86 = .ok (.iload_n 1, 1) := by decide +kernel
theorem dX10_fillHouse_87 : decode cX10_fillHouse 87 = .ok (.iaload, 1) := by decide +kernel
theorem dX10_fillHouse_88 : decode cX10_fillHouse 88 = .ok (.isub, 1) := by decide +kernel
theorem dX10_fillHouse_89 : decode cX10_fillHouse 89 = .ok (.iadd, 1) := by decide +kernel
theorem dX10_fillHouse_90 : decode cX10_fillHouse 90 = .ok (.putfield 193, 3) := by decide +kernel
theorem dX10_fillHouse_93 : decode cX10_fillHouse 93 = .ok (.aload_n 0, 1) := by decide +kernel
theorem dX10_fillHouse_94 : decode cX10_fillHouse 94 = .ok (.getfield 63, 3) := by decide +kernel
theorem dX10_fillHouse_97 : decode cX10_fillHouse 97 = .ok (.iload_n 1, 1) := by decide +kernel
theorem dX10_fillHouse_98 : decode cX10_fillHouse 98 = .ok (.aload_n 0, 1) := by decide +kernel
theorem dX10_fillHouse_99 : decode cX10_fillHouse 99 = .ok (.getfield 48, 3) := by decide +kernel
theorem dX10_fillHouse_102 : decode cX10_fillHouse 102 = .ok (.iload_n 1, 1) := by decide +kernel
theorem dX10_fillHouse_103 : decode cX10_fillHouse 103 = .ok (.iaload, 1) := by decide +kernel
theorem dX10_fillHouse_104 : decode cX10_fillHouse 104 = .ok (.iastore, 1) := by decide +kernel
theorem dX10_fillHouse_105 : decode cX10_fillHouse 105 = .ok (.return_, 1) := by decide +kernel
theorem dX10_serve_0 : decode cX10_serve 0 = .ok (.aload_n 0, 1) := by decide +kernel
theorem dX10_serve_1 : decode cX10_serve 1 = .ok (.getfield 42, 3) := by decide +kernel
theorem dX10_serve_4 : decode cX10_serve 4 = .ok (.iload_n 1, 1) := by decide +kernel
theorem dX10_serve_5 : decode cX10_serve 5 = .ok (.baload, 1) := by decide +kernel
theorem dX10_serve_6 : decode cX10_serve 6 = .ok (.ifCond .eq 18, 3) := by decide +kernel
theorem dX10_serve_9 : decode cX10_serve 9 = .ok (.aload_n 0, 1) := by decide +kernel
theorem dX10_serve_10 : decode cX10_serve 10 = .ok (.dup, 1) := by decide +kernel
theorem dX10_serve_11 : decode cX10_serve 11 = .ok (.getfield 196, 3) := by decide +kernel
theorem dX10_serve_14 : decode cX10_serve 14 = .ok (.aload_n 0, 1) := by decide +kernel
theorem dX10_serve_15 : decode cX10_serve 15 = .ok (.bipush 60, 2) := by decide +kernel
theorem dX10_serve_17 : decode cX10_serve 17 = .ok (.invokevirtual 190, 3) := by decide +kernel
theorem dX10_serve_20 : decode cX10_serve 20 = .ok (.iadd, 1) := by decide +kernel
theorem dX10_serve_21 : decode cX10_serve 21 = .ok (.putfield 196, 3) := by decide +kernel
theorem dX10_serve_24 : decode cX10_serve 24 = .ok (.aload_n 0, 1) := by decide +kernel
theorem dX10_serve_25 : decode cX10_serve 25 = .ok (.getfield 33, 3) := by decide +kernel
theorem dX10_serve_28 : decode cX10_serve 28 = .ok (.iload_n 1, 1) := by decide +kernel
theorem dX10_serve_29 : decode cX10_serve 29 = .ok (.iaload, 1) := by decide +kernel
theorem dX10_serve_30 : decode cX10_serve 30 = .ok (.iconst 2, 1) := by decide +kernel
theorem dX10_serve_31 : decode cX10_serve 31 = .ok (.if_icmp .ne 46, 3) := by decide +kernel
theorem dX10_serve_34 : decode cX10_serve 34 = .ok (.aload_n 0, 1) := by decide +kernel
theorem dX10_serve_35 : decode cX10_serve 35 = .ok (.bipush 40, 2) := by decide +kernel
theorem dX10_serve_37 : decode cX10_serve 37 = .ok (.aload_n 0, 1) := by decide +kernel
theorem dX10_serve_38 : decode cX10_serve 38 = .ok (.getfield 36, 3) := by decide +kernel
theorem dX10_serve_41 : decode cX10_serve 41 = .ok (.iload_n 1, 1) := by decide +kernel
theorem dX10_serve_42 : decode cX10_serve 42 = .ok (.iaload, 1) := by decide +kernel
theorem dX10_serve_43 : decode cX10_serve 43 = .ok (.aload_n 0, 1) := by decide +kernel
theorem dX10_serve_44 : decode cX10_serve 44 = .ok (.getfield 39, 3) := by decide +kernel
theorem dX10_serve_47 : decode cX10_serve 47 = .ok (.iload_n 1, 1) := by decide +kernel
theorem dX10_serve_48 : decode cX10_serve 48 = .ok (.iaload, 1) := by decide +kernel
theorem dX10_serve_49 : decode cX10_serve 49 = .ok (.isub, 1) := by decide +kernel
theorem dX10_serve_50 : decode cX10_serve 50 = .ok (.invokestatic 187, 3) := by decide +kernel
theorem dX10_serve_53 : decode cX10_serve 53 = .ok (.invokevirtual 190, 3) := by decide +kernel
theorem dX10_serve_56 : decode cX10_serve 56 = .ok (.istore_n 2, 1) := by decide +kernel
theorem dX10_serve_57 : decode cX10_serve 57 = .ok (.aload_n 0, 1) := by decide +kernel
theorem dX10_serve_58 : decode cX10_serve 58 = .ok (.getfield 39, 3) := by decide +kernel
theorem dX10_serve_61 : decode cX10_serve 61 = .ok (.iload_n 1, 1) := by decide +kernel
theorem dX10_serve_62 : decode cX10_serve 62 = .ok (.dup2, 1) := by decide +kernel
theorem dX10_serve_63 : decode cX10_serve 63 = .ok (.iaload, 1) := by decide +kernel
theorem dX10_serve_64 : decode cX10_serve 64 = .ok (.iload_n 2, 1) := by decide +kernel
theorem dX10_serve_65 : decode cX10_serve 65 = .ok (.iadd, 1) := by decide +kernel
theorem dX10_serve_66 : decode cX10_serve 66 = .ok (.iastore, 1) := by decide +kernel
theorem dX10_serve_67 : decode cX10_serve 67 = .ok (.aload_n 0, 1) := by decide +kernel
theorem dX10_serve_68 : decode cX10_serve 68 = .ok (.dup, 1) := by decide +kernel
theorem dX10_serve_69 : decode cX10_serve 69 = .ok (.getfield 199, 3) := by decide +kernel
theorem dX10_serve_72 : decode cX10_serve 72 = .ok (.iload_n 2, 1) := by decide +kernel
theorem dX10_serve_73 : decode cX10_serve 73 = .ok (.iadd, 1) := by decide +kernel
theorem dX10_serve_74 : decode cX10_serve 74 = .ok (.putfield 199, 3) := by decide +kernel
theorem dX10_serve_77 : decode cX10_serve 77 = .ok (.iconst 0, 1) := by decide +kernel
theorem dX10_serve_78 : decode cX10_serve 78 = .ok (.istore_n 2, 1) := by decide +kernel
theorem dX10_serve_79 : decode cX10_serve 79 = .ok (.iload_n 2, 1) := by decide +kernel
theorem dX10_serve_80 : decode cX10_serve 80 = .ok (.bipush 10, 2) := by decide +kernel
theorem dX10_serve_82 : decode cX10_serve 82 = .ok (.if_icmp .ge 50, 3) := by decide +kernel
theorem dX10_serve_85 : decode cX10_serve 85 = .ok (.iconst 0, 1) := by decide +kernel
theorem dX10_serve_86 : decode cX10_serve 86 = .ok (.istore_n 3, 1) := by decide +kernel
theorem dX10_serve_87 : decode cX10_serve 87 = .ok (.iload_n 3, 1) := by decide +kernel
theorem dX10_serve_88 : decode cX10_serve 88 = .ok (.aload_n 0, 1) := by decide +kernel
theorem dX10_serve_89 : decode cX10_serve 89 = .ok (.getfield 142, 3) := by decide +kernel
theorem dX10_serve_92 : decode cX10_serve 92 = .ok (.if_icmp .ge 34, 3) := by decide +kernel
theorem dX10_serve_95 : decode cX10_serve 95 = .ok (.aload_n 0, 1) := by decide +kernel
theorem dX10_serve_96 : decode cX10_serve 96 = .ok (.getfield 45, 3) := by decide +kernel
theorem dX10_serve_99 : decode cX10_serve 99 = .ok (.iload_n 3, 1) := by decide +kernel
theorem dX10_serve_100 : decode cX10_serve 100 = .ok (.iaload, 1) := by decide +kernel
theorem dX10_serve_101 : decode cX10_serve 101 = .ok (.iload_n 1, 1) := by decide +kernel
theorem dX10_serve_102 : decode cX10_serve 102 = .ok (.if_icmp .ne 18, 3) := by decide +kernel
theorem dX10_serve_105 : decode cX10_serve 105 = .ok (.aload_n 0, 1) := by decide +kernel
theorem dX10_serve_106 : decode cX10_serve 106 = .ok (.getfield 51, 3) := by decide +kernel
theorem dX10_serve_109 : decode cX10_serve 109 = .ok (.iload_n 3, 1) := by decide +kernel
theorem dX10_serve_110 : decode cX10_serve 110 = .ok (.iaload, 1) := by decide +kernel
theorem dX10_serve_111 : decode cX10_serve 111 = .ok (.iload_n 2, 1) := by decide +kernel
theorem dX10_serve_112 : decode cX10_serve 112 = .ok (.if_icmp .ne 8, 3) := by decide +kernel
theorem dX10_serve_115 : decode cX10_serve 115 = .ok (.aload_n 0, 1) := by decide +kernel
theorem dX10_serve_116 : decode cX10_serve 116 = .ok (.iload_n 3, 1) := by decide +kernel
theorem dX10_serve_117 : decode cX10_serve 117 = .ok (.invokevirtual 202, 3) := by decide +kernel
theorem dX10_serve_120 : decode cX10_serve 120 = .ok (.iinc 3 1, 3) := by decide +kernel
theorem dX10_serve_123 : decode cX10_serve 123 = .ok (.goto (-36), 3) := by decide +kernel
theorem dX10_serve_126 : decode cX10_serve 126 = .ok (.iinc 2 1, 3) := by decide +kernel
theorem dX10_serve_129 : decode cX10_serve 129 = .ok (.goto (-50), 3) := by decide +kernel
theorem dX10_serve_132 : decode cX10_serve 132 = .ok (.return_, 1) := by decide +kernel
theorem dX10_pass_0 : decode cX10_pass 0 = .ok (.aload_n 0, 1) := by decide +kernel
theorem dX10_pass_1 : decode cX10_pass 1 = .ok (.getfield 149, 3) := by decide +kernel
theorem dX10_pass_4 : decode cX10_pass 4 = .ok (.sipush 168, 3) := by decide +kernel
theorem dX10_pass_7 : decode cX10_pass 7 = .ok (.irem, 1) := by decide +kernel
theorem dX10_pass_8 : decode cX10_pass 8 = .ok (.istore_n 1, 1) := by decide +kernel
theorem dX10_pass_9 : decode cX10_pass 9 = .ok (.iconst 0, 1) := by decide +kernel
theorem dX10_pass_10 : decode cX10_pass 10 = .ok (.istore_n 2, 1) := by decide +kernel
theorem dX10_pass_11 : decode cX10_pass 11 = .ok (.iconst 0, 1) := by decide +kernel
theorem dX10_pass_12 : decode cX10_pass 12 = .ok (.istore_n 3, 1) := by decide +kernel
theorem dX10_pass_13 : decode cX10_pass 13 = .ok (.iload_n 3, 1) := by decide +kernel
theorem dX10_pass_14 : decode cX10_pass 14 = .ok (.aload_n 0, 1) := by decide +kernel
theorem dX10_pass_15 : decode cX10_pass 15 = .ok (.getfield 135, 3) := by decide +kernel
theorem dX10_pass_18 : decode cX10_pass 18 = .ok (.if_icmp .ge 28, 3) := by decide +kernel
theorem dX10_pass_21 : decode cX10_pass 21 = .ok (.iload_n 2, 1) := by decide +kernel
theorem dX10_pass_22 : decode cX10_pass 22 = .ok (.ifCond .ne 12, 3) := by decide +kernel
theorem dX10_pass_25 : decode cX10_pass 25 = .ok (.aload_n 0, 1) := by decide +kernel
theorem dX10_pass_26 : decode cX10_pass 26 = .ok (.iload_n 3, 1) := by decide +kernel
theorem dX10_pass_27 : decode cX10_pass 27 = .ok (.iload_n 1, 1) := by decide +kernel
theorem dX10_pass_28 : decode cX10_pass 28 = .ok (.invokevirtual 171, 3) := by decide +kernel
theorem dX10_pass_31 : decode cX10_pass 31 = .ok (.ifCond .eq 7, 3) := by decide +kernel
theorem dX10_pass_34 : decode cX10_pass 34 = .ok (.iconst 1, 1) := by decide +kernel
theorem dX10_pass_35 : decode cX10_pass 35 = .ok (.goto 4, 3) := by decide +kernel
theorem dX10_pass_38 : decode cX10_pass 38 = .ok (.iconst 0, 1) := by decide +kernel
theorem dX10_pass_39 : decode cX10_pass 39 = .ok (.istore_n 2, 1) := by decide +kernel
theorem dX10_pass_40 : decode cX10_pass 40 = .ok (.iinc 3 1, 3) := by decide +kernel
theorem dX10_pass_43 : decode cX10_pass 43 = .ok (.goto (-30), 3) := by decide +kernel
theorem dX10_pass_46 : decode cX10_pass 46 = .ok (.aload_n 0, 1) := by decide +kernel
theorem dX10_pass_47 : decode cX10_pass 47 = .ok (.iconst 0, 1) := by decide +kernel
theorem dX10_pass_48 : decode cX10_pass 48 = .ok (.putfield 184, 3) := by decide +kernel
theorem dX10_pass_51 : decode cX10_pass 51 = .ok (.iload_n 2, 1) := by decide +kernel
theorem dX10_pass_52 : decode cX10_pass 52 = .ok (.ifCond .eq 45, 3) := by decide +kernel
theorem dX10_pass_55 : decode cX10_pass 55 = .ok (.aload_n 0, 1) := by decide +kernel
theorem dX10_pass_56 : decode cX10_pass 56 = .ok (.getfield 153, 3) := by decide +kernel
theorem dX10_pass_59 : decode cX10_pass 59 = .ok (.aload_n 0, 1) := by decide +kernel
theorem dX10_pass_60 : decode cX10_pass 60 = .ok (.getfield 13, 3) := by decide +kernel
theorem dX10_pass_63 : decode cX10_pass 63 = .ok (.if_icmp .lt 34, 3) := by decide +kernel
theorem dX10_pass_66 : decode cX10_pass 66 = .ok (.aload_n 0, 1) := by decide +kernel
theorem dX10_pass_67 : decode cX10_pass 67 = .ok (.dup, 1) := by decide +kernel
theorem dX10_pass_68 : decode cX10_pass 68 = .ok (.getfield 153, 3) := by decide +kernel
theorem dX10_pass_71 : decode cX10_pass 71 = .ok (.aload_n 0, 1) := by decide +kernel
theorem dX10_pass_72 : decode cX10_pass 72 = .ok (.getfield 13, 3) := by decide +kernel
theorem dX10_pass_75 : decode cX10_pass 75 = .ok (.isub, 1) := by decide +kernel
theorem dX10_pass_76 : decode cX10_pass 76 = .ok (.putfield 153, 3) := by decide +kernel
theorem dX10_pass_79 : decode cX10_pass 79 = .ok (.aload_n 0, 1) := by decide +kernel
theorem dX10_pass_80 : decode cX10_pass 80 = .ok (.aload_n 0, 1) := by decide +kernel
theorem dX10_pass_81 : decode cX10_pass 81 = .ok (.getfield 7, 3) := by decide +kernel
theorem dX10_pass_84 : decode cX10_pass 84 = .ok (.putfield 184, 3) := by decide +kernel
theorem dX10_pass_87 : decode cX10_pass 87 = .ok (.aload_n 0, 1) := by decide +kernel
theorem dX10_pass_88 : decode cX10_pass 88 = .ok (.dup, 1) := by decide +kernel
theorem dX10_pass_89 : decode cX10_pass 89 = .ok (.getfield 206, 3) := by decide +kernel
theorem dX10_pass_92 : decode cX10_pass 92 = .ok (.iconst 1, 1) := by decide +kernel
theorem dX10_pass_93 : decode cX10_pass 93 = .ok (.iadd, 1) := by decide +kernel
theorem dX10_pass_94 : decode cX10_pass 94 = .ok (.putfield 206, 3) := by decide +kernel
theorem dX10_pass_97 : decode cX10_pass 97 = .ok (.iconst 0, 1) := by decide +kernel
theorem dX10_pass_98 : decode cX10_pass 98 = .ok (.istore_n 3, 1) := by decide +kernel
theorem dX10_pass_99 : decode cX10_pass 99 = .ok (.iload_n 3, 1) := by decide +kernel
theorem dX10_pass_100 : decode cX10_pass 100 = .ok (.aload_n 0, 1) := by decide +kernel
theorem dX10_pass_101 : decode cX10_pass 101 = .ok (.getfield 135, 3) := by decide +kernel
theorem dX10_pass_104 : decode cX10_pass 104 = .ok (.if_icmp .ge 40, 3) := by decide +kernel
theorem dX10_pass_107 : decode cX10_pass 107 = .ok (.aload_n 0, 1) := by decide +kernel
theorem dX10_pass_108 : decode cX10_pass 108 = .ok (.dup, 1) := by decide +kernel
theorem dX10_pass_109 : decode cX10_pass 109 = .ok (.getfield 209, 3) := by decide +kernel
theorem dX10_pass_112 : decode cX10_pass 112 = .ok (.aload_n 0, 1) := by decide +kernel
theorem dX10_pass_113 : decode cX10_pass 113 = .ok (.iload_n 3, 1) := by decide +kernel
theorem dX10_pass_114 : decode cX10_pass 114 = .ok (.iload_n 1, 1) := by decide +kernel
theorem dX10_pass_115 : decode cX10_pass 115 = .ok (.invokevirtual 171, 3) := by decide +kernel
theorem dX10_pass_118 : decode cX10_pass 118 = .ok (.ifCond .eq 15, 3) := by decide +kernel
theorem dX10_pass_121 : decode cX10_pass 121 = .ok (.aload_n 0, 1) := by decide +kernel
theorem dX10_pass_122 : decode cX10_pass 122 = .ok (.aload_n 0, 1) := by decide +kernel
theorem dX10_pass_123 : decode cX10_pass 123 = .ok (.iload_n 3, 1) := by decide +kernel
theorem dX10_pass_124 : decode cX10_pass 124 = .ok (.invokevirtual 212, 3) := by decide +kernel
theorem dX10_pass_127 : decode cX10_pass 127 = .ok (.invokevirtual 190, 3) := by decide +kernel
theorem dX10_pass_130 : decode cX10_pass 130 = .ok (.goto 4, 3) := by decide +kernel
theorem dX10_pass_133 : decode cX10_pass 133 = .ok (.iconst 0, 1) := by decide +kernel
theorem dX10_pass_134 : decode cX10_pass 134 = .ok (.iadd, 1) := by decide +kernel
theorem dX10_pass_135 : decode cX10_pass 135 = .ok (.putfield 209, 3) := by decide +kernel
theorem dX10_pass_138 : decode cX10_pass 138 = .ok (.iinc 3 1, 3) := by decide +kernel
theorem dX10_pass_141 : decode cX10_pass 141 = .ok (.goto (-42), 3) := by decide +kernel
theorem dX10_pass_144 : decode cX10_pass 144 = .ok (.iconst 0, 1) := by decide +kernel
theorem dX10_pass_145 : decode cX10_pass 145 = .ok (.istore_n 3, 1) := by decide +kernel
theorem dX10_pass_146 : decode cX10_pass 146 = .ok (.iload_n 3, 1) := by decide +kernel
theorem dX10_pass_147 : decode cX10_pass 147 = .ok (.aload_n 0, 1) := by decide +kernel
theorem dX10_pass_148 : decode cX10_pass 148 = .ok (.getfield 135, 3) := by decide +kernel
theorem dX10_pass_151 : decode cX10_pass 151 = .ok (.if_icmp .ge 23, 3) := by decide +kernel
theorem dX10_pass_154 : decode cX10_pass 154 = .ok (.aload_n 0, 1) := by decide +kernel
theorem dX10_pass_155 : decode cX10_pass 155 = .ok (.iload_n 3, 1) := by decide +kernel
theorem dX10_pass_156 : decode cX10_pass 156 = .ok (.iload_n 1, 1) := by decide +kernel
theorem dX10_pass_157 : decode cX10_pass 157 = .ok (.invokevirtual 171, 3) := by decide +kernel
theorem dX10_pass_160 : decode cX10_pass 160 = .ok (.ifCond .eq 8, 3) := by decide +kernel
theorem dX10_pass_163 : decode cX10_pass 163 = .ok (.aload_n 0, 1) := by decide +kernel
theorem dX10_pass_164 : decode cX10_pass 164 = .ok (.iload_n 3, 1) := by decide +kernel
theorem dX10_pass_165 : decode cX10_pass 165 = .ok (.invokevirtual 215, 3) := by decide +kernel
theorem dX10_pass_168 : decode cX10_pass 168 = .ok (.iinc 3 1, 3) := by decide +kernel
theorem dX10_pass_171 : decode cX10_pass 171 = .ok (.goto (-25), 3) := by decide +kernel
theorem dX10_pass_174 : decode cX10_pass 174 = .ok (.aload_n 0, 1) := by decide +kernel
theorem dX10_pass_175 : decode cX10_pass 175 = .ok (.dup, 1) := by decide +kernel
theorem dX10_pass_176 : decode cX10_pass 176 = .ok (.getfield 218, 3) := by decide +kernel
theorem dX10_pass_179 : decode cX10_pass 179 = .ok (.aload_n 0, 1) := by decide +kernel
theorem dX10_pass_180 : decode cX10_pass 180 = .ok (.getfield 184, 3) := by decide +kernel
theorem dX10_pass_183 : decode cX10_pass 183 = .ok (.iadd, 1) := by decide +kernel
theorem dX10_pass_184 : decode cX10_pass 184 = .ok (.putfield 218, 3) := by decide +kernel
theorem dX10_pass_187 : decode cX10_pass 187 = .ok (.iconst 0, 1) := by decide +kernel
theorem dX10_pass_188 : decode cX10_pass 188 = .ok (.istore_n 3, 1) := by decide +kernel
theorem dX10_pass_189 : decode cX10_pass 189 = .ok (.iload_n 3, 1) := by decide +kernel
theorem dX10_pass_190 : decode cX10_pass 190 = .ok (.aload_n 0, 1) := by decide +kernel
theorem dX10_pass_191 : decode cX10_pass 191 = .ok (.getfield 142, 3) := by decide +kernel
theorem dX10_pass_194 : decode cX10_pass 194 = .ok (.if_icmp .ge 71, 3) := by decide +kernel
theorem dX10_pass_197 : decode cX10_pass 197 = .ok (.aload_n 0, 1) := by decide +kernel
theorem dX10_pass_198 : decode cX10_pass 198 = .ok (.iload_n 3, 1) := by decide +kernel
theorem dX10_pass_199 : decode cX10_pass 199 = .ok (.invokevirtual 221, 3) := by decide +kernel
theorem dX10_pass_202 : decode cX10_pass 202 = .ok (.istore 4, 2) := by decide +kernel
theorem dX10_pass_204 : decode cX10_pass 204 = .ok (.aload_n 0, 1) := by decide +kernel
theorem dX10_pass_205 : decode cX10_pass 205 = .ok (.getfield 66, 3) := by decide +kernel
theorem dX10_pass_208 : decode cX10_pass 208 = .ok (.iload_n 3, 1) := by decide +kernel
theorem dX10_pass_209 : decode cX10_pass 209 = .ok (.dup2, 1) := by decide +kernel
theorem dX10_pass_210 : decode cX10_pass 210 = .ok (.iaload, 1) := by decide +kernel
theorem dX10_pass_211 : decode cX10_pass 211 = .ok (.aload_n 0, 1) := by decide +kernel
theorem dX10_pass_212 : decode cX10_pass 212 = .ok (.getfield 63, 3) := by decide +kernel
theorem dX10_pass_215 : decode cX10_pass 215 = .ok (.iload_n 3, 1) := by decide +kernel
theorem dX10_pass_216 : decode cX10_pass 216 = .ok (.iaload, 1) := by decide +kernel
theorem dX10_pass_217 : decode cX10_pass 217 = .ok (.iload 4, 2) := by decide +kernel
theorem dX10_pass_219 : decode cX10_pass 219 = .ok (.if_icmp .ge 7, 3) := by decide +kernel
theorem dX10_pass_222 : decode cX10_pass 222 = .ok (.iconst 1, 1) := by decide +kernel
theorem dX10_pass_223 : decode cX10_pass 223 = .ok (.goto 4, 3) := by decide +kernel
theorem dX10_pass_226 : decode cX10_pass 226 = .ok (.iconst 0, 1) := by decide +kernel
theorem dX10_pass_227 : decode cX10_pass 227 = .ok (.iadd, 1) := by decide +kernel
theorem dX10_pass_228 : decode cX10_pass 228 = .ok (.iastore, 1) := by decide +kernel
theorem dX10_pass_229 : decode cX10_pass 229 = .ok (.aload_n 0, 1) := by decide +kernel
theorem dX10_pass_230 : decode cX10_pass 230 = .ok (.getfield 63, 3) := by decide +kernel
theorem dX10_pass_233 : decode cX10_pass 233 = .ok (.iload_n 3, 1) := by decide +kernel
theorem dX10_pass_234 : decode cX10_pass 234 = .ok (.aload_n 0, 1) := by decide +kernel
theorem dX10_pass_235 : decode cX10_pass 235 = .ok (.getfield 63, 3) := by decide +kernel
theorem dX10_pass_238 : decode cX10_pass 238 = .ok (.iload_n 3, 1) := by decide +kernel
theorem dX10_pass_239 : decode cX10_pass 239 = .ok (.iaload, 1) := by decide +kernel
theorem dX10_pass_240 : decode cX10_pass 240 = .ok (.iload 4, 2) := by decide +kernel
theorem dX10_pass_242 : decode cX10_pass 242 = .ok (.if_icmp .ge 7, 3) := by decide +kernel
theorem dX10_pass_245 : decode cX10_pass 245 = .ok (.iconst 0, 1) := by decide +kernel
theorem dX10_pass_246 : decode cX10_pass 246 = .ok (.goto 12, 3) := by decide +kernel
theorem dX10_pass_249 : decode cX10_pass 249 = .ok (.aload_n 0, 1) := by decide +kernel
theorem dX10_pass_250 : decode cX10_pass 250 = .ok (.getfield 63, 3) := by decide +kernel
theorem dX10_pass_253 : decode cX10_pass 253 = .ok (.iload_n 3, 1) := by decide +kernel
theorem dX10_pass_254 : decode cX10_pass 254 = .ok (.iaload, 1) := by decide +kernel
theorem dX10_pass_255 : decode cX10_pass 255 = .ok (.iload 4, 2) := by decide +kernel
theorem dX10_pass_257 : decode cX10_pass 257 = .ok (.isub, 1) := by decide +kernel
theorem dX10_pass_258 : decode cX10_pass 258 = .ok (.iastore, 1) := by decide +kernel
theorem dX10_pass_259 : decode cX10_pass 259 = .ok (.iinc 3 1, 3) := by decide +kernel
theorem dX10_pass_262 : decode cX10_pass 262 = .ok (.goto (-73), 3) := by decide +kernel
theorem dX10_pass_265 : decode cX10_pass 265 = .ok (.aload_n 0, 1) := by decide +kernel
theorem dX10_pass_266 : decode cX10_pass 266 = .ok (.dup, 1) := by decide +kernel
theorem dX10_pass_267 : decode cX10_pass 267 = .ok (.getfield 149, 3) := by decide +kernel
theorem dX10_pass_270 : decode cX10_pass 270 = .ok (.iconst 1, 1) := by decide +kernel
theorem dX10_pass_271 : decode cX10_pass 271 = .ok (.iadd, 1) := by decide +kernel
theorem dX10_pass_272 : decode cX10_pass 272 = .ok (.putfield 149, 3) := by decide +kernel
theorem dX10_pass_275 : decode cX10_pass 275 = .ok (.return_, 1) := by decide +kernel
theorem dX10_hours_0 : decode cX10_hours 0 = .ok (.iload_n 1, 1) := by decide +kernel
theorem dX10_hours_1 : decode cX10_hours 1 = .ok (.iconst 1, 1) := by decide +kernel
theorem dX10_hours_2 : decode cX10_hours 2 = .ok (.if_icmp .ge 10, 3) := by decide +kernel
theorem dX10_hours_5 : decode cX10_hours 5 = .ok (.aload_n 0, 1) := by decide +kernel
theorem dX10_hours_6 : decode cX10_hours 6 = .ok (.bipush (-4), 2) := by decide +kernel
theorem dX10_hours_8 : decode cX10_hours 8 = .ok (.invokevirtual 145, 3) := by decide +kernel
theorem dX10_hours_11 : decode cX10_hours 11 = .ok (.ireturn, 1) := by decide +kernel
theorem dX10_hours_12 : decode cX10_hours 12 = .ok (.iload_n 1, 1) := by decide +kernel
theorem dX10_hours_13 : decode cX10_hours 13 = .ok (.sipush 5000, 3) := by decide +kernel
theorem dX10_hours_16 : decode cX10_hours 16 = .ok (.aload_n 0, 1) := by decide +kernel
theorem dX10_hours_17 : decode cX10_hours 17 = .ok (.getfield 149, 3) := by decide +kernel
theorem dX10_hours_20 : decode cX10_hours 20 = .ok (.isub, 1) := by decide +kernel
theorem dX10_hours_21 : decode cX10_hours 21 = .ok (.if_icmp .le 10, 3) := by decide +kernel
theorem dX10_hours_24 : decode cX10_hours 24 = .ok (.aload_n 0, 1) := by decide +kernel
theorem dX10_hours_25 : decode cX10_hours 25 = .ok (.bipush (-6), 2) := by decide +kernel
theorem dX10_hours_27 : decode cX10_hours 27 = .ok (.invokevirtual 145, 3) := by decide +kernel
theorem dX10_hours_30 : decode cX10_hours 30 = .ok (.ireturn, 1) := by decide +kernel
theorem dX10_hours_31 : decode cX10_hours 31 = .ok (.iconst 0, 1) := by decide +kernel
theorem dX10_hours_32 : decode cX10_hours 32 = .ok (.istore_n 2, 1) := by decide +kernel
theorem dX10_hours_33 : decode cX10_hours 33 = .ok (.iload_n 2, 1) := by decide +kernel
theorem dX10_hours_34 : decode cX10_hours 34 = .ok (.iload_n 1, 1) := by decide +kernel
theorem dX10_hours_35 : decode cX10_hours 35 = .ok (.if_icmp .ge 13, 3) := by decide +kernel
theorem dX10_hours_38 : decode cX10_hours 38 = .ok (.aload_n 0, 1) := by decide +kernel
theorem dX10_hours_39 : decode cX10_hours 39 = .ok (.invokevirtual 224, 3) := by decide +kernel
theorem dX10_hours_42 : decode cX10_hours 42 = .ok (.iinc 2 1, 3) := by decide +kernel
theorem dX10_hours_45 : decode cX10_hours 45 = .ok (.goto (-12), 3) := by decide +kernel
theorem dX10_hours_48 : decode cX10_hours 48 = .ok (.aload_n 0, 1) := by decide +kernel
theorem dX10_hours_49 : decode cX10_hours 49 = .ok (.getfield 149, 3) := by decide +kernel
theorem dX10_hours_52 : decode cX10_hours 52 = .ok (.ireturn, 1) := by decide +kernel
theorem dX10_iron_0 : decode cX10_iron 0 = .ok (.aload_n 0, 1) := by decide +kernel
theorem dX10_iron_1 : decode cX10_iron 1 = .ok (.iload_n 1, 1) := by decide +kernel
theorem dX10_iron_2 : decode cX10_iron 2 = .ok (.invokevirtual 156, 3) := by decide +kernel
theorem dX10_iron_5 : decode cX10_iron 5 = .ok (.ifCond .ne 9, 3) := by decide +kernel
theorem dX10_iron_8 : decode cX10_iron 8 = .ok (.aload_n 0, 1) := by decide +kernel
theorem dX10_iron_9 : decode cX10_iron 9 = .ok (.iconst (-1), 1) := by decide +kernel
theorem dX10_iron_10 : decode cX10_iron 10 = .ok (.invokevirtual 145, 3) := by decide +kernel
theorem dX10_iron_13 : decode cX10_iron 13 = .ok (.ireturn, 1) := by decide +kernel
theorem dX10_iron_14 : decode cX10_iron 14 = .ok (.aload_n 0, 1) := by decide +kernel
theorem dX10_iron_15 : decode cX10_iron 15 = .ok (.getfield 29, 3) := by decide +kernel
theorem dX10_iron_18 : decode cX10_iron 18 = .ok (.iload_n 1, 1) := by decide +kernel
theorem dX10_iron_19 : decode cX10_iron 19 = .ok (.baload, 1) := by decide +kernel
theorem dX10_iron_20 : decode cX10_iron 20 = .ok (.ifCond .eq 10, 3) := by decide +kernel
theorem dX10_iron_23 : decode cX10_iron 23 = .ok (.aload_n 0, 1) := by decide +kernel
theorem dX10_iron_24 : decode cX10_iron 24 = .ok (.bipush (-3), 2) := by decide +kernel
theorem dX10_iron_26 : decode cX10_iron 26 = .ok (.invokevirtual 145, 3) := by decide +kernel
theorem dX10_iron_29 : decode cX10_iron 29 = .ok (.ireturn, 1) := by decide +kernel
theorem dX10_iron_30 : decode cX10_iron 30 = .ok (.aload_n 0, 1) := by decide +kernel
theorem dX10_iron_31 : decode cX10_iron 31 = .ok (.getfield 29, 3) := by decide +kernel
theorem dX10_iron_34 : decode cX10_iron 34 = .ok (.iload_n 1, 1) := by decide +kernel
theorem dX10_iron_35 : decode cX10_iron 35 = .ok (.iconst 1, 1) := by decide +kernel
theorem dX10_iron_36 : decode cX10_iron 36 = .ok (.bastore, 1) := by decide +kernel
theorem dX10_iron_37 : decode cX10_iron 37 = .ok (.aload_n 0, 1) := by decide +kernel
theorem dX10_iron_38 : decode cX10_iron 38 = .ok (.getfield 149, 3) := by decide +kernel
theorem dX10_iron_41 : decode cX10_iron 41 = .ok (.sipush 168, 3) := by decide +kernel
theorem dX10_iron_44 : decode cX10_iron 44 = .ok (.idiv, 1) := by decide +kernel
theorem dX10_iron_45 : decode cX10_iron 45 = .ok (.aload_n 0, 1) := by decide +kernel
theorem dX10_iron_46 : decode cX10_iron 46 = .ok (.getfield 26, 3) := by decide +kernel
theorem dX10_iron_49 : decode cX10_iron 49 = .ok (.iload_n 1, 1) := by decide +kernel
theorem dX10_iron_50 : decode cX10_iron 50 = .ok (.iaload, 1) := by decide +kernel
theorem dX10_iron_51 : decode cX10_iron 51 = .ok (.isub, 1) := by decide +kernel
theorem dX10_iron_52 : decode cX10_iron 52 = .ok (.istore_n 2, 1) := by decide +kernel
theorem dX10_iron_53 : decode cX10_iron 53 = .ok (.aload_n 0, 1) := by decide +kernel
theorem dX10_iron_54 : decode cX10_iron 54 = .ok (.getfield 26, 3) := by decide +kernel
theorem dX10_iron_57 : decode cX10_iron 57 = .ok (.iload_n 1, 1) := by decide +kernel
theorem dX10_iron_58 : decode cX10_iron 58 = .ok (.aload_n 0, 1) := by decide +kernel
theorem dX10_iron_59 : decode cX10_iron 59 = .ok (.getfield 149, 3) := by decide +kernel
theorem dX10_iron_62 : decode cX10_iron 62 = .ok (.sipush 168, 3) := by decide +kernel
theorem dX10_iron_65 : decode cX10_iron 65 = .ok (.idiv, 1) := by decide +kernel
theorem dX10_iron_66 : decode cX10_iron 66 = .ok (.iastore, 1) := by decide +kernel
theorem dX10_iron_67 : decode cX10_iron 67 = .ok (.iload_n 2, 1) := by decide +kernel
theorem dX10_iron_68 : decode cX10_iron 68 = .ok (.ireturn, 1) := by decide +kernel
theorem dX10_renew_0 : decode cX10_renew 0 = .ok (.aload_n 0, 1) := by decide +kernel
theorem dX10_renew_1 : decode cX10_renew 1 = .ok (.iload_n 1, 1) := by decide +kernel
theorem dX10_renew_2 : decode cX10_renew 2 = .ok (.invokevirtual 156, 3) := by decide +kernel
theorem dX10_renew_5 : decode cX10_renew 5 = .ok (.ifCond .ne 9, 3) := by decide +kernel
theorem dX10_renew_8 : decode cX10_renew 8 = .ok (.aload_n 0, 1) := by decide +kernel
theorem dX10_renew_9 : decode cX10_renew 9 = .ok (.iconst (-1), 1) := by decide +kernel
theorem dX10_renew_10 : decode cX10_renew 10 = .ok (.invokevirtual 145, 3) := by decide +kernel
theorem dX10_renew_13 : decode cX10_renew 13 = .ok (.ireturn, 1) := by decide +kernel
theorem dX10_renew_14 : decode cX10_renew 14 = .ok (.aload_n 0, 1) := by decide +kernel
theorem dX10_renew_15 : decode cX10_renew 15 = .ok (.getfield 29, 3) := by decide +kernel
theorem dX10_renew_18 : decode cX10_renew 18 = .ok (.iload_n 1, 1) := by decide +kernel
theorem dX10_renew_19 : decode cX10_renew 19 = .ok (.baload, 1) := by decide +kernel
theorem dX10_renew_20 : decode cX10_renew 20 = .ok (.ifCond .eq 10, 3) := by decide +kernel
theorem dX10_renew_23 : decode cX10_renew 23 = .ok (.aload_n 0, 1) := by decide +kernel
theorem dX10_renew_24 : decode cX10_renew 24 = .ok (.bipush (-3), 2) := by decide +kernel
theorem dX10_renew_26 : decode cX10_renew 26 = .ok (.invokevirtual 145, 3) := by decide +kernel
theorem dX10_renew_29 : decode cX10_renew 29 = .ok (.ireturn, 1) := by decide +kernel
theorem dX10_renew_30 : decode cX10_renew 30 = .ok (.aload_n 0, 1) := by decide +kernel
theorem dX10_renew_31 : decode cX10_renew 31 = .ok (.getfield 149, 3) := by decide +kernel
theorem dX10_renew_34 : decode cX10_renew 34 = .ok (.sipush 168, 3) := by decide +kernel
theorem dX10_renew_37 : decode cX10_renew 37 = .ok (.idiv, 1) := by decide +kernel
theorem dX10_renew_38 : decode cX10_renew 38 = .ok (.aload_n 0, 1) := by decide +kernel
theorem dX10_renew_39 : decode cX10_renew 39 = .ok (.getfield 26, 3) := by decide +kernel
theorem dX10_renew_42 : decode cX10_renew 42 = .ok (.iload_n 1, 1) := by decide +kernel
theorem dX10_renew_43 : decode cX10_renew 43 = .ok (.iaload, 1) := by decide +kernel
theorem dX10_renew_44 : decode cX10_renew 44 = .ok (.isub, 1) := by decide +kernel
theorem dX10_renew_45 : decode cX10_renew 45 = .ok (.istore_n 2, 1) := by decide +kernel
theorem dX10_renew_46 : decode cX10_renew 46 = .ok (.aload_n 0, 1) := by decide +kernel
theorem dX10_renew_47 : decode cX10_renew 47 = .ok (.getfield 26, 3) := by decide +kernel
theorem dX10_renew_50 : decode cX10_renew 50 = .ok (.iload_n 1, 1) := by decide +kernel
theorem dX10_renew_51 : decode cX10_renew 51 = .ok (.aload_n 0, 1) := by decide +kernel
theorem dX10_renew_52 : decode cX10_renew 52 = .ok (.getfield 149, 3) := by decide +kernel
theorem dX10_renew_55 : decode cX10_renew 55 = .ok (.sipush 168, 3) := by decide +kernel
theorem dX10_renew_58 : decode cX10_renew 58 = .ok (.idiv, 1) := by decide +kernel
theorem dX10_renew_59 : decode cX10_renew 59 = .ok (.iastore, 1) := by decide +kernel
theorem dX10_renew_60 : decode cX10_renew 60 = .ok (.iload_n 2, 1) := by decide +kernel
theorem dX10_renew_61 : decode cX10_renew 61 = .ok (.ireturn, 1) := by decide +kernel
theorem dX10_stand_0 : decode cX10_stand 0 = .ok (.iload_n 1, 1) := by decide +kernel
theorem dX10_stand_1 : decode cX10_stand 1 = .ok (.iconst 0, 1) := by decide +kernel
theorem dX10_stand_2 : decode cX10_stand 2 = .ok (.iconst 2, 1) := by decide +kernel
theorem dX10_stand_3 : decode cX10_stand 3 = .ok (.invokestatic 138, 3) := by decide +kernel
theorem dX10_stand_6 : decode cX10_stand 6 = .ok (.ifCond .eq 17, 3) := by decide +kernel
theorem dX10_stand_9 : decode cX10_stand 9 = .ok (.iload_n 2, 1) := by decide +kernel
theorem dX10_stand_10 : decode cX10_stand 10 = .ok (.iconst (-1), 1) := by decide +kernel
theorem dX10_stand_11 : decode cX10_stand 11 = .ok (.aload_n 0, 1) := by decide +kernel
theorem dX10_stand_12 : decode cX10_stand 12 = .ok (.getfield 135, 3) := by decide +kernel
theorem dX10_stand_15 : decode cX10_stand 15 = .ok (.iconst 1, 1) := by decide +kernel
theorem dX10_stand_16 : decode cX10_stand 16 = .ok (.isub, 1) := by decide +kernel
theorem dX10_stand_17 : decode cX10_stand 17 = .ok (.invokestatic 138, 3) := by decide +kernel
theorem dX10_stand_20 : decode cX10_stand 20 = .ok (.ifCond .ne 16, 3) := by decide +kernel
theorem dX10_stand_23 : decode cX10_stand 23 = .ok (.aload_n 0, 1) := by decide +kernel
theorem dX10_stand_24 : decode cX10_stand 24 = .ok (.getfield 111, 3) := by decide +kernel
theorem dX10_stand_27 : decode cX10_stand 27 = .ok (.iconst 1, 1) := by decide +kernel
theorem dX10_stand_28 : decode cX10_stand 28 = .ok (.dup2, 1) := by decide +kernel
theorem dX10_stand_29 : decode cX10_stand 29 = .ok (.iaload, 1) := by decide +kernel
theorem dX10_stand_30 : decode cX10_stand 30 = .ok (.iconst 1, 1) := by decide +kernel
theorem dX10_stand_31 : decode cX10_stand 31 = .ok (.iadd, 1) := by decide +kernel
theorem dX10_stand_32 : decode cX10_stand 32 = .ok (.iastore, 1) := by decide +kernel
theorem dX10_stand_33 : decode cX10_stand 33 = .ok (.ldc 163, 2) := by decide +kernel
theorem dX10_stand_35 : decode cX10_stand 35 = .ok (.ireturn, 1) := by decide +kernel
theorem dX10_stand_36 : decode cX10_stand 36 = .ok (.aload_n 0, 1) := by decide +kernel
theorem dX10_stand_37 : decode cX10_stand 37 = .ok (.getfield 87, 3) := by decide +kernel
theorem dX10_stand_40 : decode cX10_stand 40 = .ok (.iload_n 1, 1) := by decide +kernel
theorem dX10_stand_41 : decode cX10_stand 41 = .ok (.iaload, 1) := by decide +kernel
theorem dX10_stand_42 : decode cX10_stand 42 = .ok (.istore_n 3, 1) := by decide +kernel
theorem dX10_stand_43 : decode cX10_stand 43 = .ok (.aload_n 0, 1) := by decide +kernel
theorem dX10_stand_44 : decode cX10_stand 44 = .ok (.getfield 87, 3) := by decide +kernel
theorem dX10_stand_47 : decode cX10_stand 47 = .ok (.iload_n 1, 1) := by decide +kernel
theorem dX10_stand_48 : decode cX10_stand 48 = .ok (.iload_n 2, 1) := by decide +kernel
theorem dX10_stand_49 : decode cX10_stand 49 = .ok (.iastore, 1) := by decide +kernel
theorem dX10_stand_50 : decode cX10_stand 50 = .ok (.iload_n 3, 1) := by decide +kernel
theorem dX10_stand_51 : decode cX10_stand 51 = .ok (.ireturn, 1) := by decide +kernel
theorem dX10_fire_0 : decode cX10_fire 0 = .ok (.aload_n 0, 1) := by decide +kernel
theorem dX10_fire_1 : decode cX10_fire 1 = .ok (.iload_n 1, 1) := by decide +kernel
theorem dX10_fire_2 : decode cX10_fire 2 = .ok (.invokevirtual 156, 3) := by decide +kernel
theorem dX10_fire_5 : decode cX10_fire 5 = .ok (.ifCond .ne 9, 3) := by decide +kernel
theorem dX10_fire_8 : decode cX10_fire 8 = .ok (.aload_n 0, 1) := by decide +kernel
theorem dX10_fire_9 : decode cX10_fire 9 = .ok (.iconst (-1), 1) := by decide +kernel
theorem dX10_fire_10 : decode cX10_fire 10 = .ok (.invokevirtual 145, 3) := by decide +kernel
theorem dX10_fire_13 : decode cX10_fire 13 = .ok (.ireturn, 1) := by decide +kernel
theorem dX10_fire_14 : decode cX10_fire 14 = .ok (.aload_n 0, 1) := by decide +kernel
theorem dX10_fire_15 : decode cX10_fire 15 = .ok (.getfield 33, 3) := by decide +kernel
theorem dX10_fire_18 : decode cX10_fire 18 = .ok (.iload_n 1, 1) := by decide +kernel
theorem dX10_fire_19 : decode cX10_fire 19 = .ok (.iaload, 1) := by decide +kernel
theorem dX10_fire_20 : decode cX10_fire 20 = .ok (.ifCond .ne 10, 3) := by decide +kernel
theorem dX10_fire_23 : decode cX10_fire 23 = .ok (.aload_n 0, 1) := by decide +kernel
theorem dX10_fire_24 : decode cX10_fire 24 = .ok (.bipush (-5), 2) := by decide +kernel
theorem dX10_fire_26 : decode cX10_fire 26 = .ok (.invokevirtual 145, 3) := by decide +kernel
theorem dX10_fire_29 : decode cX10_fire 29 = .ok (.ireturn, 1) := by decide +kernel
theorem dX10_fire_30 : decode cX10_fire 30 = .ok (.aload_n 0, 1) := by decide +kernel
theorem dX10_fire_31 : decode cX10_fire 31 = .ok (.getfield 33, 3) := by decide +kernel
theorem dX10_fire_34 : decode cX10_fire 34 = .ok (.iload_n 1, 1) := by decide +kernel
theorem dX10_fire_35 : decode cX10_fire 35 = .ok (.iaload, 1) := by decide +kernel
theorem dX10_fire_36 : decode cX10_fire 36 = .ok (.iconst 2, 1) := by decide +kernel
theorem dX10_fire_37 : decode cX10_fire 37 = .ok (.if_icmp .eq 12, 3) := by decide +kernel
theorem dX10_fire_40 : decode cX10_fire 40 = .ok (.iload_n 2, 1) := by decide +kernel
theorem dX10_fire_41 : decode cX10_fire 41 = .ok (.iconst 0, 1) := by decide +kernel
theorem dX10_fire_42 : decode cX10_fire 42 = .ok (.iconst 2, 1) := by decide +kernel
theorem dX10_fire_43 : decode cX10_fire 43 = .ok (.invokestatic 138, 3) := by decide +kernel
theorem dX10_fire_46 : decode cX10_fire 46 = .ok (.ifCond .ne 10, 3) := by decide +kernel
theorem dX10_fire_49 : decode cX10_fire 49 = .ok (.aload_n 0, 1) := by decide +kernel
theorem dX10_fire_50 : decode cX10_fire 50 = .ok (.bipush (-2), 2) := by decide +kernel
theorem dX10_fire_52 : decode cX10_fire 52 = .ok (.invokevirtual 145, 3) := by decide +kernel
theorem dX10_fire_55 : decode cX10_fire 55 = .ok (.ireturn, 1) := by decide +kernel
theorem dX10_fire_56 : decode cX10_fire 56 = .ok (.iconst (-1), 1) := by decide +kernel
theorem dX10_fire_57 : decode cX10_fire 57 = .ok (.istore_n 3, 1) := by decide +kernel
theorem dX10_fire_58 : decode cX10_fire 58 = .ok (.iconst (-1), 1) := by decide +kernel
theorem dX10_fire_59 : decode cX10_fire 59 = .ok (.istore 4, 2) := by decide +kernel
theorem dX10_fire_61 : decode cX10_fire 61 = .ok (.iconst 0, 1) := by decide +kernel
theorem dX10_fire_62 : decode cX10_fire 62 = .ok (.istore 5, 2) := by decide +kernel
theorem dX10_fire_64 : decode cX10_fire 64 = .ok (.iload_n 1, 1) := by decide +kernel
theorem dX10_fire_65 : decode cX10_fire 65 = .ok (.istore 6, 2) := by decide +kernel
theorem dX10_fire_67 : decode cX10_fire 67 = .ok (.iload 6, 2) := by decide +kernel
theorem dX10_fire_69 : decode cX10_fire 69 = .ok (.ifCond .lt 51, 3) := by decide +kernel
theorem dX10_fire_72 : decode cX10_fire 72 = .ok (.aload_n 0, 1) := by decide +kernel
theorem dX10_fire_73 : decode cX10_fire 73 = .ok (.iload 6, 2) := by decide +kernel
theorem dX10_fire_75 : decode cX10_fire 75 = .ok (.aload_n 0, 1) := by decide +kernel
theorem dX10_fire_76 : decode cX10_fire 76 = .ok (.getfield 149, 3) := by decide +kernel
theorem dX10_fire_79 : decode cX10_fire 79 = .ok (.sipush 168, 3) := by decide +kernel
theorem dX10_fire_82 : decode cX10_fire 82 = .ok (.irem, 1) := by decide +kernel
theorem dX10_fire_83 : decode cX10_fire 83 = .ok (.invokevirtual 167, 3) := by decide +kernel
theorem dX10_fire_86 : decode cX10_fire 86 = .ok (.ifCond .ne 22, 3) := by decide +kernel
theorem dX10_fire_89 : decode cX10_fire 89 = .ok (.iload 5, 2) := by decide +kernel
theorem dX10_fire_91 : decode cX10_fire 91 = .ok (.ifCond .ne 8, 3) := by decide +kernel
theorem dX10_fire_94 : decode cX10_fire 94 = .ok (.iload 6, 2) := by decide +kernel
theorem dX10_fire_96 : decode cX10_fire 96 = .ok (.goto 4, 3) := by decide +kernel
theorem dX10_fire_99 : decode cX10_fire 99 = .ok (.iload_n 3, 1) := by decide +kernel
theorem dX10_fire_100 : decode cX10_fire 100 = .ok (.istore_n 3, 1) := by decide +kernel
theorem dX10_fire_101 : decode cX10_fire 101 = .ok (.iload 6, 2) := by decide +kernel
theorem dX10_fire_103 : decode cX10_fire 103 = .ok (.istore 4, 2) := by decide +kernel
theorem dX10_fire_105 : decode cX10_fire 105 = .ok (.iinc 5 1, 3) := by decide +kernel
theorem dX10_fire_108 : decode cX10_fire 108 = .ok (.aload_n 0, 1) := by decide +kernel
theorem dX10_fire_109 : decode cX10_fire 109 = .ok (.getfield 19, 3) := by decide +kernel
theorem dX10_fire_112 : decode cX10_fire 112 = .ok (.iload 6, 2) := by decide +kernel
theorem dX10_fire_114 : decode cX10_fire 114 = .ok (.iaload, 1) := by decide +kernel
theorem dX10_fire_115 : decode cX10_fire 115 = .ok (.istore 6, 2) := by decide +kernel
theorem dX10_fire_117 : decode cX10_fire 117 = .ok (.goto (-50), 3) := by decide +kernel
theorem dX10_fire_120 : decode cX10_fire 120 = .ok (.iconst (-1), 1) := by decide +kernel
theorem dX10_fire_121 : decode cX10_fire 121 = .ok (.istore 6, 2) := by decide +kernel
theorem dX10_fire_123 : decode cX10_fire 123 = .ok (.iconst 0, 1) := by decide +kernel
theorem dX10_fire_124 : decode cX10_fire 124 = .ok (.istore 7, 2) := by decide +kernel
theorem dX10_fire_126 : decode cX10_fire 126 = .ok (.iconst 0, 1) := by decide +kernel
theorem dX10_fire_127 : decode cX10_fire 127 = .ok (.istore 8, 2) := by decide +kernel
theorem dX10_fire_129 : decode cX10_fire 129 = .ok (.iload 8, 2) := by decide +kernel
theorem dX10_fire_131 : decode cX10_fire 131 = .ok (.iconst 3, 1) := by decide +kernel
theorem dX10_fire_132 : decode cX10_fire 132 = .ok (.if_icmp .ge 76, 3) := by decide +kernel
theorem dX10_fire_135 : decode cX10_fire 135 = .ok (.iload 5, 2) := by decide +kernel
theorem dX10_fire_137 : decode cX10_fire 137 = .ok (.ifCond .ne 7, 3) := by decide +kernel
theorem dX10_fire_140 : decode cX10_fire 140 = .ok (.iconst 0, 1) := by decide +kernel
theorem dX10_fire_141 : decode cX10_fire 141 = .ok (.goto 39, 3) := by decide +kernel
theorem dX10_fire_144 : decode cX10_fire 144 = .ok (.aload_n 0, 1) := by decide +kernel
theorem dX10_fire_145 : decode cX10_fire 145 = .ok (.iload_n 3, 1) := by decide +kernel
theorem dX10_fire_146 : decode cX10_fire 146 = .ok (.iload 4, 2) := by decide +kernel
theorem dX10_fire_148 : decode cX10_fire 148 = .ok (.invokevirtual 177, 3) := by decide +kernel
theorem dX10_fire_151 : decode cX10_fire 151 = .ok (.aload_n 0, 1) := by decide +kernel
theorem dX10_fire_152 : decode cX10_fire 152 = .ok (.aload_n 0, 1) := by decide +kernel
theorem dX10_fire_153 : decode cX10_fire 153 = .ok (.getfield 87, 3) := by decide +kernel
theorem dX10_fire_156 : decode cX10_fire 156 = .ok (.iload 8, 2) := by decide +kernel
theorem dX10_fire_158 : decode cX10_fire 158 = .ok (.iaload, 1) := by decide +kernel
theorem dX10_fire_159 : decode cX10_fire 159 = .ok (.iload_n 3, 1) := by decide +kernel
theorem dX10_fire_160 : decode cX10_fire 160 = .ok (.invokevirtual 177, 3) := by decide +kernel
theorem dX10_fire_163 : decode cX10_fire 163 = .ok (.aload_n 0, 1) := by decide +kernel
theorem dX10_fire_164 : decode cX10_fire 164 = .ok (.aload_n 0, 1) := by decide +kernel
theorem dX10_fire_165 : decode cX10_fire 165 = .ok (.getfield 87, 3) := by decide +kernel
theorem dX10_fire_168 : decode cX10_fire 168 = .ok (.iload 8, 2) := by decide +kernel
theorem dX10_fire_170 : decode cX10_fire 170 = .ok (.iaload, 1) := by decide +kernel
theorem dX10_fire_171 : decode cX10_fire 171 = .ok (.iload 4, 2) := by decide +kernel
theorem dX10_fire_173 : decode cX10_fire 173 = .ok (.invokevirtual 177, 3) := by decide +kernel
theorem dX10_fire_176 : decode cX10_fire 176 = .ok (.invokestatic 187, 3) := by decide +kernel
theorem dX10_fire_179 : decode cX10_fire 179 = .ok (.iadd, 1) := by decide +kernel
theorem dX10_fire_180 : decode cX10_fire 180 = .ok (.istore 9, 2) := by decide +kernel
theorem dX10_fire_182 : decode cX10_fire 182 = .ok (.iload 6, 2) := by decide +kernel
theorem dX10_fire_184 : decode cX10_fire 184 = .ok (.ifCond .lt 10, 3) := by decide +kernel
theorem dX10_fire_187 : decode cX10_fire 187 = .ok (.iload 9, 2) := by decide +kernel
theorem dX10_fire_189 : decode cX10_fire 189 = .ok (.iload 6, 2) := by decide +kernel
theorem dX10_fire_191 : decode cX10_fire 191 = .ok (.if_icmp .ge 11, 3) := by decide +kernel
theorem dX10_fire_194 : decode cX10_fire 194 = .ok (.iload 9, 2) := by decide +kernel
theorem dX10_fire_196 : decode cX10_fire 196 = .ok (.istore 6, 2) := by decide +kernel
theorem dX10_fire_198 : decode cX10_fire 198 = .ok (.iload 8, 2) := by decide +kernel
theorem dX10_fire_200 : decode cX10_fire 200 = .ok (.istore 7, 2) := by decide +kernel
theorem dX10_fire_202 : decode cX10_fire 202 = .ok (.iinc 8 1, 3) := by decide +kernel
theorem dX10_fire_205 : decode cX10_fire 205 = .ok (.goto (-76), 3) := by decide +kernel
theorem dX10_fire_208 : decode cX10_fire 208 = .ok (.iload_n 2, 1) := by decide +kernel
end
section
theorem dX10_fire_209 : decode cX10_fire 209 = .ok (.ifCond .ne 15, 3) := by decide +kernel
theorem dX10_fire_212 : decode cX10_fire 212 = .ok (.iconst 4, 1) := by decide +kernel
theorem dX10_fire_213 : decode cX10_fire 213 = .ok (.iload 6, 2) := by decide +kernel
theorem dX10_fire_215 : decode cX10_fire 215 = .ok (.imul, 1) := by decide +kernel
theorem dX10_fire_216 : decode cX10_fire 216 = .ok (.iconst 2, 1) := by decide +kernel
theorem dX10_fire_217 : decode cX10_fire 217 = .ok (.iload 5, 2) := by decide +kernel
theorem dX10_fire_219 : decode cX10_fire 219 = .ok (.imul, 1) := by decide +kernel
theorem dX10_fire_220 : decode cX10_fire 220 = .ok (.iadd, 1) := by decide +kernel
theorem dX10_fire_221 : decode cX10_fire 221 = .ok (.goto 15, 3) := by decide +kernel
theorem dX10_fire_224 : decode cX10_fire 224 = .ok (.iload_n 2, 1) := by decide +kernel
theorem dX10_fire_225 : decode cX10_fire 225 = .ok (.iconst 1, 1) := by decide +kernel
theorem dX10_fire_226 : decode cX10_fire 226 = .ok (.if_icmp .ne 8, 3) := by decide +kernel
theorem dX10_fire_229 : decode cX10_fire 229 = .ok (.iload 7, 2) := by decide +kernel
theorem dX10_fire_231 : decode cX10_fire 231 = .ok (.goto 5, 3) := by decide +kernel
theorem dX10_fire_234 : decode cX10_fire 234 = .ok (.iload 5, 2) := by decide +kernel
theorem dX10_fire_236 : decode cX10_fire 236 = .ok (.ireturn, 1) := by decide +kernel
theorem dX10_reading_0 : decode cX10_reading 0 = .ok (.aload_n 0, 1) := by decide +kernel
theorem dX10_reading_1 : decode cX10_reading 1 = .ok (.iload_n 1, 1) := by decide +kernel
theorem dX10_reading_2 : decode cX10_reading 2 = .ok (.invokevirtual 156, 3) := by decide +kernel
theorem dX10_reading_5 : decode cX10_reading 5 = .ok (.ifCond .ne 9, 3) := by decide +kernel
theorem dX10_reading_8 : decode cX10_reading 8 = .ok (.aload_n 0, 1) := by decide +kernel
theorem dX10_reading_9 : decode cX10_reading 9 = .ok (.iconst (-1), 1) := by decide +kernel
theorem dX10_reading_10 : decode cX10_reading 10 = .ok (.invokevirtual 145, 3) := by decide +kernel
theorem dX10_reading_13 : decode cX10_reading 13 = .ok (.ireturn, 1) := by decide +kernel
theorem dX10_reading_14 : decode cX10_reading 14 = .ok (.iload_n 2, 1) := by decide +kernel
theorem dX10_reading_15 : decode cX10_reading 15 = .ok (.ifCond .lt 12, 3) := by decide +kernel
theorem dX10_reading_18 : decode cX10_reading 18 = .ok (.iload_n 3, 1) := by decide +kernel
theorem dX10_reading_19 : decode cX10_reading 19 = .ok (.ifCond .lt 8, 3) := by decide +kernel
theorem dX10_reading_22 : decode cX10_reading 22 = .ok (.iload 4, 2) := by decide +kernel
theorem dX10_reading_24 : decode cX10_reading 24 = .ok (.ifCond .ge 10, 3) := by decide +kernel
theorem dX10_reading_27 : decode cX10_reading 27 = .ok (.aload_n 0, 1) := by decide +kernel
theorem dX10_reading_28 : decode cX10_reading 28 = .ok (.bipush (-4), 2) := by decide +kernel
theorem dX10_reading_30 : decode cX10_reading 30 = .ok (.invokevirtual 145, 3) := by decide +kernel
theorem dX10_reading_33 : decode cX10_reading 33 = .ok (.ireturn, 1) := by decide +kernel
theorem dX10_reading_34 : decode cX10_reading 34 = .ok (.iload_n 2, 1) := by decide +kernel
theorem dX10_reading_35 : decode cX10_reading 35 = .ok (.sipush 5000, 3) := by decide +kernel
theorem dX10_reading_38 : decode cX10_reading 38 = .ok (.if_icmp .gt 26, 3) := by decide +kernel
theorem dX10_reading_41 : decode cX10_reading 41 = .ok (.iload_n 3, 1) := by decide +kernel
theorem dX10_reading_42 : decode cX10_reading 42 = .ok (.sipush 5000, 3) := by decide +kernel
theorem dX10_reading_45 : decode cX10_reading 45 = .ok (.if_icmp .gt 19, 3) := by decide +kernel
theorem dX10_reading_48 : decode cX10_reading 48 = .ok (.iload 4, 2) := by decide +kernel
theorem dX10_reading_50 : decode cX10_reading 50 = .ok (.bipush 50, 2) := by decide +kernel
theorem dX10_reading_52 : decode cX10_reading 52 = .ok (.if_icmp .gt 12, 3) := by decide +kernel
theorem dX10_reading_55 : decode cX10_reading 55 = .ok (.aload_n 0, 1) := by decide +kernel
theorem dX10_reading_56 : decode cX10_reading 56 = .ok (.getfield 227, 3) := by decide +kernel
theorem dX10_reading_59 : decode cX10_reading 59 = .ok (.bipush 40, 2) := by decide +kernel
theorem dX10_reading_61 : decode cX10_reading 61 = .ok (.if_icmp .ne 10, 3) := by decide +kernel
theorem dX10_reading_64 : decode cX10_reading 64 = .ok (.aload_n 0, 1) := by decide +kernel
theorem dX10_reading_65 : decode cX10_reading 65 = .ok (.bipush (-6), 2) := by decide +kernel
theorem dX10_reading_67 : decode cX10_reading 67 = .ok (.invokevirtual 145, 3) := by decide +kernel
theorem dX10_reading_70 : decode cX10_reading 70 = .ok (.ireturn, 1) := by decide +kernel
theorem dX10_reading_71 : decode cX10_reading 71 = .ok (.aload_n 0, 1) := by decide +kernel
theorem dX10_reading_72 : decode cX10_reading 72 = .ok (.getfield 90, 3) := by decide +kernel
theorem dX10_reading_75 : decode cX10_reading 75 = .ok (.aload_n 0, 1) := by decide +kernel
theorem dX10_reading_76 : decode cX10_reading 76 = .ok (.getfield 227, 3) := by decide +kernel
theorem dX10_reading_79 : decode cX10_reading 79 = .ok (.iload_n 1, 1) := by decide +kernel
theorem dX10_reading_80 : decode cX10_reading 80 = .ok (.iastore, 1) := by decide +kernel
theorem dX10_reading_81 : decode cX10_reading 81 = .ok (.aload_n 0, 1) := by decide +kernel
theorem dX10_reading_82 : decode cX10_reading 82 = .ok (.getfield 93, 3) := by decide +kernel
theorem dX10_reading_85 : decode cX10_reading 85 = .ok (.aload_n 0, 1) := by decide +kernel
theorem dX10_reading_86 : decode cX10_reading 86 = .ok (.getfield 227, 3) := by decide +kernel
theorem dX10_reading_89 : decode cX10_reading 89 = .ok (.iload_n 2, 1) := by decide +kernel
theorem dX10_reading_90 : decode cX10_reading 90 = .ok (.iload_n 3, 1) := by decide +kernel
theorem dX10_reading_91 : decode cX10_reading 91 = .ok (.isub, 1) := by decide +kernel
theorem dX10_reading_92 : decode cX10_reading 92 = .ok (.iastore, 1) := by decide +kernel
theorem dX10_reading_93 : decode cX10_reading 93 = .ok (.aload_n 0, 1) := by decide +kernel
theorem dX10_reading_94 : decode cX10_reading 94 = .ok (.getfield 96, 3) := by decide +kernel
theorem dX10_reading_97 : decode cX10_reading 97 = .ok (.aload_n 0, 1) := by decide +kernel
theorem dX10_reading_98 : decode cX10_reading 98 = .ok (.getfield 227, 3) := by decide +kernel
theorem dX10_reading_101 : decode cX10_reading 101 = .ok (.iload 4, 2) := by decide +kernel
theorem dX10_reading_103 : decode cX10_reading 103 = .ok (.iastore, 1) := by decide +kernel
theorem dX10_reading_104 : decode cX10_reading 104 = .ok (.aload_n 0, 1) := by decide +kernel
theorem dX10_reading_105 : decode cX10_reading 105 = .ok (.dup, 1) := by decide +kernel
theorem dX10_reading_106 : decode cX10_reading 106 = .ok (.getfield 227, 3) := by decide +kernel
theorem dX10_reading_109 : decode cX10_reading 109 = .ok (.iconst 1, 1) := by decide +kernel
theorem dX10_reading_110 : decode cX10_reading 110 = .ok (.iadd, 1) := by decide +kernel
theorem dX10_reading_111 : decode cX10_reading 111 = .ok (.putfield 227, 3) := by decide +kernel
theorem dX10_reading_114 : decode cX10_reading 114 = .ok (.aload_n 0, 1) := by decide +kernel
theorem dX10_reading_115 : decode cX10_reading 115 = .ok (.getfield 227, 3) := by decide +kernel
theorem dX10_reading_118 : decode cX10_reading 118 = .ok (.ireturn, 1) := by decide +kernel
theorem dX10_span_0 : decode cX10_span 0 = .ok (.aload_n 0, 1) := by decide +kernel
theorem dX10_span_1 : decode cX10_span 1 = .ok (.iload_n 1, 1) := by decide +kernel
theorem dX10_span_2 : decode cX10_span 2 = .ok (.invokevirtual 156, 3) := by decide +kernel
theorem dX10_span_5 : decode cX10_span 5 = .ok (.ifCond .ne 9, 3) := by decide +kernel
theorem dX10_span_8 : decode cX10_span 8 = .ok (.aload_n 0, 1) := by decide +kernel
theorem dX10_span_9 : decode cX10_span 9 = .ok (.iconst (-1), 1) := by decide +kernel
theorem dX10_span_10 : decode cX10_span 10 = .ok (.invokevirtual 145, 3) := by decide +kernel
theorem dX10_span_13 : decode cX10_span 13 = .ok (.ireturn, 1) := by decide +kernel
theorem dX10_span_14 : decode cX10_span 14 = .ok (.iload_n 2, 1) := by decide +kernel
theorem dX10_span_15 : decode cX10_span 15 = .ok (.iconst 0, 1) := by decide +kernel
theorem dX10_span_16 : decode cX10_span 16 = .ok (.iconst 1, 1) := by decide +kernel
theorem dX10_span_17 : decode cX10_span 17 = .ok (.invokestatic 138, 3) := by decide +kernel
theorem dX10_span_20 : decode cX10_span 20 = .ok (.ifCond .ne 10, 3) := by decide +kernel
theorem dX10_span_23 : decode cX10_span 23 = .ok (.aload_n 0, 1) := by decide +kernel
theorem dX10_span_24 : decode cX10_span 24 = .ok (.bipush (-2), 2) := by decide +kernel
theorem dX10_span_26 : decode cX10_span 26 = .ok (.invokevirtual 145, 3) := by decide +kernel
theorem dX10_span_29 : decode cX10_span 29 = .ok (.ireturn, 1) := by decide +kernel
theorem dX10_span_30 : decode cX10_span 30 = .ok (.iconst 0, 1) := by decide +kernel
theorem dX10_span_31 : decode cX10_span 31 = .ok (.istore_n 3, 1) := by decide +kernel
theorem dX10_span_32 : decode cX10_span 32 = .ok (.sipush 5000, 3) := by decide +kernel
theorem dX10_span_35 : decode cX10_span 35 = .ok (.istore 4, 2) := by decide +kernel
theorem dX10_span_37 : decode cX10_span 37 = .ok (.iconst 0, 1) := by decide +kernel
theorem dX10_span_38 : decode cX10_span 38 = .ok (.istore 5, 2) := by decide +kernel
theorem dX10_span_40 : decode cX10_span 40 = .ok (.iload 5, 2) := by decide +kernel
theorem dX10_span_42 : decode cX10_span 42 = .ok (.aload_n 0, 1) := by decide +kernel
theorem dX10_span_43 : decode cX10_span 43 = .ok (.getfield 227, 3) := by decide +kernel
theorem dX10_span_46 : decode cX10_span 46 = .ok (.if_icmp .ge 81, 3) := by decide +kernel
theorem dX10_span_49 : decode cX10_span 49 = .ok (.aload_n 0, 1) := by decide +kernel
theorem dX10_span_50 : decode cX10_span 50 = .ok (.getfield 90, 3) := by decide +kernel
theorem dX10_span_53 : decode cX10_span 53 = .ok (.iload 5, 2) := by decide +kernel
theorem dX10_span_55 : decode cX10_span 55 = .ok (.iaload, 1) := by decide +kernel
theorem dX10_span_56 : decode cX10_span 56 = .ok (.iload_n 1, 1) := by decide +kernel
theorem dX10_span_57 : decode cX10_span 57 = .ok (.if_icmp .ne 64, 3) := by decide +kernel
theorem dX10_span_60 : decode cX10_span 60 = .ok (.aload_n 0, 1) := by decide +kernel
theorem dX10_span_61 : decode cX10_span 61 = .ok (.getfield 93, 3) := by decide +kernel
theorem dX10_span_64 : decode cX10_span 64 = .ok (.iload 5, 2) := by decide +kernel
theorem dX10_span_66 : decode cX10_span 66 = .ok (.iaload, 1) := by decide +kernel
theorem dX10_span_67 : decode cX10_span 67 = .ok (.aload_n 0, 1) := by decide +kernel
theorem dX10_span_68 : decode cX10_span 68 = .ok (.getfield 96, 3) := by decide +kernel
theorem dX10_span_71 : decode cX10_span 71 = .ok (.iload 5, 2) := by decide +kernel
theorem dX10_span_73 : decode cX10_span 73 = .ok (.iaload, 1) := by decide +kernel
theorem dX10_span_74 : decode cX10_span 74 = .ok (.isub, 1) := by decide +kernel
theorem dX10_span_75 : decode cX10_span 75 = .ok (.iload_n 3, 1) := by decide +kernel
theorem dX10_span_76 : decode cX10_span 76 = .ok (.if_icmp .le 21, 3) := by decide +kernel
theorem dX10_span_79 : decode cX10_span 79 = .ok (.aload_n 0, 1) := by decide +kernel
theorem dX10_span_80 : decode cX10_span 80 = .ok (.getfield 93, 3) := by decide +kernel
theorem dX10_span_83 : decode cX10_span 83 = .ok (.iload 5, 2) := by decide +kernel
theorem dX10_span_85 : decode cX10_span 85 = .ok (.iaload, 1) := by decide +kernel
theorem dX10_span_86 : decode cX10_span 86 = .ok (.aload_n 0, 1) := by decide +kernel
theorem dX10_span_87 : decode cX10_span 87 = .ok (.getfield 96, 3) := by decide +kernel
theorem dX10_span_90 : decode cX10_span 90 = .ok (.iload 5, 2) := by decide +kernel
theorem dX10_span_92 : decode cX10_span 92 = .ok (.iaload, 1) := by decide +kernel
theorem dX10_span_93 : decode cX10_span 93 = .ok (.isub, 1) := by decide +kernel
theorem dX10_span_94 : decode cX10_span 94 = .ok (.goto 4, 3) := by decide +kernel
theorem dX10_span_97 : decode cX10_span 97 = .ok (.iload_n 3, 1) := by decide +kernel
theorem dX10_span_98 : decode cX10_span 98 = .ok (.istore_n 3, 1) := by decide +kernel
theorem dX10_span_99 : decode cX10_span 99 = .ok (.iload 4, 2) := by decide +kernel
theorem dX10_span_101 : decode cX10_span 101 = .ok (.aload_n 0, 1) := by decide +kernel
theorem dX10_span_102 : decode cX10_span 102 = .ok (.getfield 93, 3) := by decide +kernel
theorem dX10_span_105 : decode cX10_span 105 = .ok (.iload 5, 2) := by decide +kernel
theorem dX10_span_107 : decode cX10_span 107 = .ok (.iaload, 1) := by decide +kernel
theorem dX10_span_108 : decode cX10_span 108 = .ok (.aload_n 0, 1) := by decide +kernel
theorem dX10_span_109 : decode cX10_span 109 = .ok (.getfield 96, 3) := by decide +kernel
theorem dX10_span_112 : decode cX10_span 112 = .ok (.iload 5, 2) := by decide +kernel
theorem dX10_span_114 : decode cX10_span 114 = .ok (.iaload, 1) := by decide +kernel
theorem dX10_span_115 : decode cX10_span 115 = .ok (.iadd, 1) := by decide +kernel
theorem dX10_span_116 : decode cX10_span 116 = .ok (.invokestatic 187, 3) := by decide +kernel
theorem dX10_span_119 : decode cX10_span 119 = .ok (.istore 4, 2) := by decide +kernel
theorem dX10_span_121 : decode cX10_span 121 = .ok (.iinc 5 1, 3) := by decide +kernel
theorem dX10_span_124 : decode cX10_span 124 = .ok (.goto (-84), 3) := by decide +kernel
theorem dX10_span_127 : decode cX10_span 127 = .ok (.iload_n 3, 1) := by decide +kernel
theorem dX10_span_128 : decode cX10_span 128 = .ok (.iload 4, 2) := by decide +kernel
theorem dX10_span_130 : decode cX10_span 130 = .ok (.if_icmp .le 8, 3) := by decide +kernel
theorem dX10_span_133 : decode cX10_span 133 = .ok (.bipush (-9), 2) := by decide +kernel
theorem dX10_span_135 : decode cX10_span 135 = .ok (.goto 13, 3) := by decide +kernel
theorem dX10_span_138 : decode cX10_span 138 = .ok (.iload_n 2, 1) := by decide +kernel
theorem dX10_span_139 : decode cX10_span 139 = .ok (.ifCond .ne 7, 3) := by decide +kernel
theorem dX10_span_142 : decode cX10_span 142 = .ok (.iload_n 3, 1) := by decide +kernel
theorem dX10_span_143 : decode cX10_span 143 = .ok (.goto 5, 3) := by decide +kernel
theorem dX10_span_146 : decode cX10_span 146 = .ok (.iload 4, 2) := by decide +kernel
theorem dX10_span_148 : decode cX10_span 148 = .ok (.ireturn, 1) := by decide +kernel
theorem dX10_worthOf_0 : decode cX10_worthOf 0 = .ok (.iconst 0, 1) := by decide +kernel
theorem dX10_worthOf_1 : decode cX10_worthOf 1 = .ok (.istore_n 2, 1) := by decide +kernel
theorem dX10_worthOf_2 : decode cX10_worthOf 2 = .ok (.iconst 0, 1) := by decide +kernel
theorem dX10_worthOf_3 : decode cX10_worthOf 3 = .ok (.istore_n 3, 1) := by decide +kernel
theorem dX10_worthOf_4 : decode cX10_worthOf 4 = .ok (.iload_n 3, 1) := by decide +kernel
theorem dX10_worthOf_5 : decode cX10_worthOf 5 = .ok (.sipush 168, 3) := by decide +kernel
theorem dX10_worthOf_8 : decode cX10_worthOf 8 = .ok (.if_icmp .ge 26, 3) := by decide +kernel
theorem dX10_worthOf_11 : decode cX10_worthOf 11 = .ok (.iload_n 2, 1) := by decide +kernel
theorem dX10_worthOf_12 : decode cX10_worthOf 12 = .ok (.aload_n 0, 1) := by decide +kernel
theorem dX10_worthOf_13 : decode cX10_worthOf 13 = .ok (.iload_n 1, 1) := by decide +kernel
theorem dX10_worthOf_14 : decode cX10_worthOf 14 = .ok (.iload_n 3, 1) := by decide +kernel
theorem dX10_worthOf_15 : decode cX10_worthOf 15 = .ok (.invokevirtual 171, 3) := by decide +kernel
theorem dX10_worthOf_18 : decode cX10_worthOf 18 = .ok (.ifCond .eq 7, 3) := by decide +kernel
theorem dX10_worthOf_21 : decode cX10_worthOf 21 = .ok (.iconst 1, 1) := by decide +kernel
theorem dX10_worthOf_22 : decode cX10_worthOf 22 = .ok (.goto 4, 3) := by decide +kernel
theorem dX10_worthOf_25 : decode cX10_worthOf 25 = .ok (.iconst 0, 1) := by decide +kernel
theorem dX10_worthOf_26 : decode cX10_worthOf 26 = .ok (.iadd, 1) := by decide +kernel
theorem dX10_worthOf_27 : decode cX10_worthOf 27 = .ok (.istore_n 2, 1) := by decide +kernel
theorem dX10_worthOf_28 : decode cX10_worthOf 28 = .ok (.iinc 3 1, 3) := by decide +kernel
theorem dX10_worthOf_31 : decode cX10_worthOf 31 = .ok (.goto (-27), 3) := by decide +kernel
theorem dX10_worthOf_34 : decode cX10_worthOf 34 = .ok (.iload_n 2, 1) := by decide +kernel
theorem dX10_worthOf_35 : decode cX10_worthOf 35 = .ok (.aload_n 0, 1) := by decide +kernel
theorem dX10_worthOf_36 : decode cX10_worthOf 36 = .ok (.iload_n 1, 1) := by decide +kernel
theorem dX10_worthOf_37 : decode cX10_worthOf 37 = .ok (.invokevirtual 212, 3) := by decide +kernel
theorem dX10_worthOf_40 : decode cX10_worthOf 40 = .ok (.imul, 1) := by decide +kernel
theorem dX10_worthOf_41 : decode cX10_worthOf 41 = .ok (.ireturn, 1) := by decide +kernel
theorem dX10_ones_0 : decode cX10_ones 0 = .ok (.iconst 0, 1) := by decide +kernel
theorem dX10_ones_1 : decode cX10_ones 1 = .ok (.istore_n 1, 1) := by decide +kernel
theorem dX10_ones_2 : decode cX10_ones 2 = .ok (.iload_n 0, 1) := by decide +kernel
theorem dX10_ones_3 : decode cX10_ones 3 = .ok (.istore_n 2, 1) := by decide +kernel
theorem dX10_ones_4 : decode cX10_ones 4 = .ok (.iload_n 2, 1) := by decide +kernel
theorem dX10_ones_5 : decode cX10_ones 5 = .ok (.ifCond .le 16, 3) := by decide +kernel
theorem dX10_ones_8 : decode cX10_ones 8 = .ok (.iload_n 1, 1) := by decide +kernel
theorem dX10_ones_9 : decode cX10_ones 9 = .ok (.iload_n 2, 1) := by decide +kernel
theorem dX10_ones_10 : decode cX10_ones 10 = .ok (.iconst 2, 1) := by decide +kernel
theorem dX10_ones_11 : decode cX10_ones 11 = .ok (.irem, 1) := by decide +kernel
theorem dX10_ones_12 : decode cX10_ones 12 = .ok (.iadd, 1) := by decide +kernel
theorem dX10_ones_13 : decode cX10_ones 13 = .ok (.istore_n 1, 1) := by decide +kernel
theorem dX10_ones_14 : decode cX10_ones 14 = .ok (.iload_n 2, 1) := by decide +kernel
theorem dX10_ones_15 : decode cX10_ones 15 = .ok (.iconst 2, 1) := by decide +kernel
theorem dX10_ones_16 : decode cX10_ones 16 = .ok (.idiv, 1) := by decide +kernel
theorem dX10_ones_17 : decode cX10_ones 17 = .ok (.istore_n 2, 1) := by decide +kernel
theorem dX10_ones_18 : decode cX10_ones 18 = .ok (.goto (-14), 3) := by decide +kernel
theorem dX10_ones_21 : decode cX10_ones 21 = .ok (.iload_n 1, 1) := by decide +kernel
theorem dX10_ones_22 : decode cX10_ones 22 = .ok (.ireturn, 1) := by decide +kernel
theorem dX10_findBest_0 : decode cX10_findBest 0 = .ok (.iconst 0, 1) := by decide +kernel
theorem dX10_findBest_1 : decode cX10_findBest 1 = .ok (.istore_n 2, 1) := by decide +kernel
theorem dX10_findBest_2 : decode cX10_findBest 2 = .ok (.iload_n 2, 1) := by decide +kernel
theorem dX10_findBest_3 : decode cX10_findBest 3 = .ok (.aload_n 0, 1) := by decide +kernel
theorem dX10_findBest_4 : decode cX10_findBest 4 = .ok (.getfield 135, 3) := by decide +kernel
theorem dX10_findBest_7 : decode cX10_findBest 7 = .ok (.if_icmp .ge 20, 3) := by decide +kernel
theorem dX10_findBest_10 : decode cX10_findBest 10 = .ok (.aload_n 0, 1) := by decide +kernel
theorem dX10_findBest_11 : decode cX10_findBest 11 = .ok (.getfield 117, 3) := by decide +kernel
theorem dX10_findBest_14 : decode cX10_findBest 14 = .ok (.iload_n 2, 1) := by decide +kernel
theorem dX10_findBest_15 : decode cX10_findBest 15 = .ok (.aload_n 0, 1) := by decide +kernel
theorem dX10_findBest_16 : decode cX10_findBest 16 = .ok (.iload_n 2, 1) := by decide +kernel
theorem dX10_findBest_17 : decode cX10_findBest 17 = .ok (.invokevirtual 230, 3) := by decide +kernel
theorem dX10_findBest_20 : decode cX10_findBest 20 = .ok (.iastore, 1) := by decide +kernel
theorem dX10_findBest_21 : decode cX10_findBest 21 = .ok (.iinc 2 1, 3) := by decide +kernel
theorem dX10_findBest_24 : decode cX10_findBest 24 = .ok (.goto (-22), 3) := by decide +kernel
theorem dX10_findBest_27 : decode cX10_findBest 27 = .ok (.aload_n 0, 1) := by decide +kernel
theorem dX10_findBest_28 : decode cX10_findBest 28 = .ok (.iconst 0, 1) := by decide +kernel
theorem dX10_findBest_29 : decode cX10_findBest 29 = .ok (.putfield 233, 3) := by decide +kernel
theorem dX10_findBest_32 : decode cX10_findBest 32 = .ok (.aload_n 0, 1) := by decide +kernel
theorem dX10_findBest_33 : decode cX10_findBest 33 = .ok (.iconst 0, 1) := by decide +kernel
theorem dX10_findBest_34 : decode cX10_findBest 34 = .ok (.putfield 236, 3) := by decide +kernel
theorem dX10_findBest_37 : decode cX10_findBest 37 = .ok (.iconst 1, 1) := by decide +kernel
theorem dX10_findBest_38 : decode cX10_findBest 38 = .ok (.istore_n 2, 1) := by decide +kernel
theorem dX10_findBest_39 : decode cX10_findBest 39 = .ok (.iload_n 2, 1) := by decide +kernel
theorem dX10_findBest_40 : decode cX10_findBest 40 = .ok (.iconst 1, 1) := by decide +kernel
theorem dX10_findBest_41 : decode cX10_findBest 41 = .ok (.aload_n 0, 1) := by decide +kernel
theorem dX10_findBest_42 : decode cX10_findBest 42 = .ok (.getfield 135, 3) := by decide +kernel
theorem dX10_findBest_45 : decode cX10_findBest 45 = .ok (.ishl, 1) := by decide +kernel
theorem dX10_findBest_46 : decode cX10_findBest 46 = .ok (.if_icmp .ge 177, 3) := by decide +kernel
theorem dX10_findBest_49 : decode cX10_findBest 49 = .ok (.iconst 0, 1) := by decide +kernel
theorem dX10_findBest_50 : decode cX10_findBest 50 = .ok (.istore_n 3, 1) := by decide +kernel
theorem dX10_findBest_51 : decode cX10_findBest 51 = .ok (.iconst 0, 1) := by decide +kernel
theorem dX10_findBest_52 : decode cX10_findBest 52 = .ok (.istore 4, 2) := by decide +kernel
theorem dX10_findBest_54 : decode cX10_findBest 54 = .ok (.iconst 1, 1) := by decide +kernel
theorem dX10_findBest_55 : decode cX10_findBest 55 = .ok (.istore 5, 2) := by decide +kernel
theorem dX10_findBest_57 : decode cX10_findBest 57 = .ok (.iconst 0, 1) := by decide +kernel
theorem dX10_findBest_58 : decode cX10_findBest 58 = .ok (.istore 6, 2) := by decide +kernel
theorem dX10_findBest_60 : decode cX10_findBest 60 = .ok (.iload 6, 2) := by decide +kernel
theorem dX10_findBest_62 : decode cX10_findBest 62 = .ok (.aload_n 0, 1) := by decide +kernel
theorem dX10_findBest_63 : decode cX10_findBest 63 = .ok (.getfield 135, 3) := by decide +kernel
theorem dX10_findBest_66 : decode cX10_findBest 66 = .ok (.if_icmp .ge 98, 3) := by decide +kernel
theorem dX10_findBest_69 : decode cX10_findBest 69 = .ok (.iload_n 2, 1) := by decide +kernel
theorem dX10_findBest_70 : decode cX10_findBest 70 = .ok (.iload 6, 2) := by decide +kernel
theorem dX10_findBest_72 : decode cX10_findBest 72 = .ok (.ishr, 1) := by decide +kernel
theorem dX10_findBest_73 : decode cX10_findBest 73 = .ok (.iconst 1, 1) := by decide +kernel
theorem dX10_findBest_74 : decode cX10_findBest 74 = .ok (.iand, 1) := by decide +kernel
theorem dX10_findBest_75 : decode cX10_findBest 75 = .ok (.iconst 1, 1) := by decide +kernel
theorem dX10_findBest_76 : decode cX10_findBest 76 = .ok (.if_icmp .ne 7, 3) := by decide +kernel
theorem dX10_findBest_79 : decode cX10_findBest 79 = .ok (.iconst 1, 1) := by decide +kernel
theorem dX10_findBest_80 : decode cX10_findBest 80 = .ok (.goto 4, 3) := by decide +kernel
theorem dX10_findBest_83 : decode cX10_findBest 83 = .ok (.iconst 0, 1) := by decide +kernel
theorem dX10_findBest_84 : decode cX10_findBest 84 = .ok (.istore 7, 2) := by decide +kernel
theorem dX10_findBest_86 : decode cX10_findBest 86 = .ok (.iload 5, 2) := by decide +kernel
theorem dX10_findBest_88 : decode cX10_findBest 88 = .ok (.ifCond .eq 22, 3) := by decide +kernel
theorem dX10_findBest_91 : decode cX10_findBest 91 = .ok (.iload 7, 2) := by decide +kernel
theorem dX10_findBest_93 : decode cX10_findBest 93 = .ok (.ifCond .eq 13, 3) := by decide +kernel
theorem dX10_findBest_96 : decode cX10_findBest 96 = .ok (.aload_n 0, 1) := by decide +kernel
theorem dX10_findBest_97 : decode cX10_findBest 97 = .ok (.getfield 29, 3) := by decide +kernel
theorem dX10_findBest_100 : decode cX10_findBest 100 = .ok (.iload 6, 2) := by decide +kernel
theorem dX10_findBest_102 : decode cX10_findBest 102 = .ok (.baload, 1) := by decide +kernel
theorem dX10_findBest_103 : decode cX10_findBest 103 = .ok (.ifCond .ne 7, 3) := by decide +kernel
theorem dX10_findBest_106 : decode cX10_findBest 106 = .ok (.iconst 1, 1) := by decide +kernel
theorem dX10_findBest_107 : decode cX10_findBest 107 = .ok (.goto 4, 3) := by decide +kernel
theorem dX10_findBest_110 : decode cX10_findBest 110 = .ok (.iconst 0, 1) := by decide +kernel
theorem dX10_findBest_111 : decode cX10_findBest 111 = .ok (.istore 5, 2) := by decide +kernel
theorem dX10_findBest_113 : decode cX10_findBest 113 = .ok (.iload_n 3, 1) := by decide +kernel
theorem dX10_findBest_114 : decode cX10_findBest 114 = .ok (.iload 7, 2) := by decide +kernel
theorem dX10_findBest_116 : decode cX10_findBest 116 = .ok (.ifCond .eq 18, 3) := by decide +kernel
theorem dX10_findBest_119 : decode cX10_findBest 119 = .ok (.aload_n 0, 1) := by decide +kernel
theorem dX10_findBest_120 : decode cX10_findBest 120 = .ok (.getfield 23, 3) := by decide +kernel
theorem dX10_findBest_123 : decode cX10_findBest 123 = .ok (.iload 6, 2) := by decide +kernel
theorem dX10_findBest_125 : decode cX10_findBest 125 = .ok (.iaload, 1) := by decide +kernel
theorem dX10_findBest_126 : decode cX10_findBest 126 = .ok (.aload_n 0, 1) := by decide +kernel
theorem dX10_findBest_127 : decode cX10_findBest 127 = .ok (.getfield 16, 3) := by decide +kernel
theorem dX10_findBest_130 : decode cX10_findBest 130 = .ok (.imul, 1) := by decide +kernel
theorem dX10_findBest_131 : decode cX10_findBest 131 = .ok (.goto 4, 3) := by decide +kernel
theorem dX10_findBest_134 : decode cX10_findBest 134 = .ok (.iconst 0, 1) := by decide +kernel
theorem dX10_findBest_135 : decode cX10_findBest 135 = .ok (.iadd, 1) := by decide +kernel
theorem dX10_findBest_136 : decode cX10_findBest 136 = .ok (.istore_n 3, 1) := by decide +kernel
theorem dX10_findBest_137 : decode cX10_findBest 137 = .ok (.iload 4, 2) := by decide +kernel
theorem dX10_findBest_139 : decode cX10_findBest 139 = .ok (.iload 7, 2) := by decide +kernel
theorem dX10_findBest_141 : decode cX10_findBest 141 = .ok (.ifCond .eq 13, 3) := by decide +kernel
theorem dX10_findBest_144 : decode cX10_findBest 144 = .ok (.aload_n 0, 1) := by decide +kernel
theorem dX10_findBest_145 : decode cX10_findBest 145 = .ok (.getfield 117, 3) := by decide +kernel
theorem dX10_findBest_148 : decode cX10_findBest 148 = .ok (.iload 6, 2) := by decide +kernel
theorem dX10_findBest_150 : decode cX10_findBest 150 = .ok (.iaload, 1) := by decide +kernel
theorem dX10_findBest_151 : decode cX10_findBest 151 = .ok (.goto 4, 3) := by decide +kernel
theorem dX10_findBest_154 : decode cX10_findBest 154 = .ok (.iconst 0, 1) := by decide +kernel
theorem dX10_findBest_155 : decode cX10_findBest 155 = .ok (.iadd, 1) := by decide +kernel
theorem dX10_findBest_156 : decode cX10_findBest 156 = .ok (.istore 4, 2) := by decide +kernel
theorem dX10_findBest_158 : decode cX10_findBest 158 = .ok (.iinc 6 1, 3) := by decide +kernel
theorem dX10_findBest_161 : decode cX10_findBest 161 = .ok (.goto (-101), 3) := by decide +kernel
theorem dX10_findBest_164 : decode cX10_findBest 164 = .ok (.iload 5, 2) := by decide +kernel
theorem dX10_findBest_166 : decode cX10_findBest 166 = .ok (.ifCond .eq 51, 3) := by decide +kernel
theorem dX10_findBest_169 : decode cX10_findBest 169 = .ok (.iload_n 3, 1) := by decide +kernel
theorem dX10_findBest_170 : decode cX10_findBest 170 = .ok (.iload_n 1, 1) := by decide +kernel
theorem dX10_findBest_171 : decode cX10_findBest 171 = .ok (.if_icmp .gt 46, 3) := by decide +kernel
theorem dX10_findBest_174 : decode cX10_findBest 174 = .ok (.iload 4, 2) := by decide +kernel
theorem dX10_findBest_176 : decode cX10_findBest 176 = .ok (.aload_n 0, 1) := by decide +kernel
theorem dX10_findBest_177 : decode cX10_findBest 177 = .ok (.getfield 236, 3) := by decide +kernel
theorem dX10_findBest_180 : decode cX10_findBest 180 = .ok (.if_icmp .gt 26, 3) := by decide +kernel
theorem dX10_findBest_183 : decode cX10_findBest 183 = .ok (.iload 4, 2) := by decide +kernel
theorem dX10_findBest_185 : decode cX10_findBest 185 = .ok (.aload_n 0, 1) := by decide +kernel
theorem dX10_findBest_186 : decode cX10_findBest 186 = .ok (.getfield 236, 3) := by decide +kernel
theorem dX10_findBest_189 : decode cX10_findBest 189 = .ok (.if_icmp .ne 28, 3) := by decide +kernel
theorem dX10_findBest_192 : decode cX10_findBest 192 = .ok (.iload_n 2, 1) := by decide +kernel
theorem dX10_findBest_193 : decode cX10_findBest 193 = .ok (.invokestatic 239, 3) := by decide +kernel
theorem dX10_findBest_196 : decode cX10_findBest 196 = .ok (.aload_n 0, 1) := by decide +kernel
theorem dX10_findBest_197 : decode cX10_findBest 197 = .ok (.getfield 233, 3) := by decide +kernel
theorem dX10_findBest_200 : decode cX10_findBest 200 = .ok (.invokestatic 239, 3) := by decide +kernel
theorem dX10_findBest_203 : decode cX10_findBest 203 = .ok (.if_icmp .ge 14, 3) := by decide +kernel
theorem dX10_findBest_206 : decode cX10_findBest 206 = .ok (.aload_n 0, 1) := by decide +kernel
theorem dX10_findBest_207 : decode cX10_findBest 207 = .ok (.iload 4, 2) := by decide +kernel
theorem dX10_findBest_209 : decode cX10_findBest 209 = .ok (.putfield 236, 3) := by decide +kernel
theorem dX10_findBest_212 : decode cX10_findBest 212 = .ok (.aload_n 0, 1) := by decide +kernel
theorem dX10_findBest_213 : decode cX10_findBest 213 = .ok (.iload_n 2, 1) := by decide +kernel
theorem dX10_findBest_214 : decode cX10_findBest 214 = .ok (.putfield 233, 3) := by decide +kernel
theorem dX10_findBest_217 : decode cX10_findBest 217 = .ok (.iinc 2 1, 3) := by decide +kernel
theorem dX10_findBest_220 : decode cX10_findBest 220 = .ok (.goto (-181), 3) := by decide +kernel
theorem dX10_findBest_223 : decode cX10_findBest 223 = .ok (.return_, 1) := by decide +kernel
theorem dX10_best_0 : decode cX10_best 0 = .ok (.iload_n 1, 1) := by decide +kernel
theorem dX10_best_1 : decode cX10_best 1 = .ok (.ifCond .ge 10, 3) := by decide +kernel
theorem dX10_best_4 : decode cX10_best 4 = .ok (.aload_n 0, 1) := by decide +kernel
theorem dX10_best_5 : decode cX10_best 5 = .ok (.bipush (-4), 2) := by decide +kernel
theorem dX10_best_7 : decode cX10_best 7 = .ok (.invokevirtual 145, 3) := by decide +kernel
theorem dX10_best_10 : decode cX10_best 10 = .ok (.ireturn, 1) := by decide +kernel
theorem dX10_best_11 : decode cX10_best 11 = .ok (.iload_n 1, 1) := by decide +kernel
theorem dX10_best_12 : decode cX10_best 12 = .ok (.sipush 10000, 3) := by decide +kernel
theorem dX10_best_15 : decode cX10_best 15 = .ok (.if_icmp .le 10, 3) := by decide +kernel
theorem dX10_best_18 : decode cX10_best 18 = .ok (.aload_n 0, 1) := by decide +kernel
theorem dX10_best_19 : decode cX10_best 19 = .ok (.bipush (-6), 2) := by decide +kernel
theorem dX10_best_21 : decode cX10_best 21 = .ok (.invokevirtual 145, 3) := by decide +kernel
theorem dX10_best_24 : decode cX10_best 24 = .ok (.ireturn, 1) := by decide +kernel
theorem dX10_best_25 : decode cX10_best 25 = .ok (.aload_n 0, 1) := by decide +kernel
theorem dX10_best_26 : decode cX10_best 26 = .ok (.iload_n 1, 1) := by decide +kernel
theorem dX10_best_27 : decode cX10_best 27 = .ok (.invokevirtual 242, 3) := by decide +kernel
theorem dX10_best_30 : decode cX10_best 30 = .ok (.aload_n 0, 1) := by decide +kernel
theorem dX10_best_31 : decode cX10_best 31 = .ok (.getfield 233, 3) := by decide +kernel
theorem dX10_best_34 : decode cX10_best 34 = .ok (.ireturn, 1) := by decide +kernel
theorem dX10_bestWorth_0 : decode cX10_bestWorth 0 = .ok (.iload_n 1, 1) := by decide +kernel
theorem dX10_bestWorth_1 : decode cX10_bestWorth 1 = .ok (.ifCond .ge 10, 3) := by decide +kernel
theorem dX10_bestWorth_4 : decode cX10_bestWorth 4 = .ok (.aload_n 0, 1) := by decide +kernel
theorem dX10_bestWorth_5 : decode cX10_bestWorth 5 = .ok (.bipush (-4), 2) := by decide +kernel
theorem dX10_bestWorth_7 : decode cX10_bestWorth 7 = .ok (.invokevirtual 145, 3) := by decide +kernel
theorem dX10_bestWorth_10 : decode cX10_bestWorth 10 = .ok (.ireturn, 1) := by decide +kernel
theorem dX10_bestWorth_11 : decode cX10_bestWorth 11 = .ok (.iload_n 1, 1) := by decide +kernel
theorem dX10_bestWorth_12 : decode cX10_bestWorth 12 = .ok (.sipush 10000, 3) := by decide +kernel
theorem dX10_bestWorth_15 : decode cX10_bestWorth 15 = .ok (.if_icmp .le 10, 3) := by decide +kernel
theorem dX10_bestWorth_18 : decode cX10_bestWorth 18 = .ok (.aload_n 0, 1) := by decide +kernel
theorem dX10_bestWorth_19 : decode cX10_bestWorth 19 = .ok (.bipush (-6), 2) := by decide +kernel
theorem dX10_bestWorth_21 : decode cX10_bestWorth 21 = .ok (.invokevirtual 145, 3) := by decide +kernel
theorem dX10_bestWorth_24 : decode cX10_bestWorth 24 = .ok (.ireturn, 1) := by decide +kernel
theorem dX10_bestWorth_25 : decode cX10_bestWorth 25 = .ok (.aload_n 0, 1) := by decide +kernel
theorem dX10_bestWorth_26 : decode cX10_bestWorth 26 = .ok (.iload_n 1, 1) := by decide +kernel
theorem dX10_bestWorth_27 : decode cX10_bestWorth 27 = .ok (.invokevirtual 242, 3) := by decide +kernel
theorem dX10_bestWorth_30 : decode cX10_bestWorth 30 = .ok (.aload_n 0, 1) := by decide +kernel
theorem dX10_bestWorth_31 : decode cX10_bestWorth 31 = .ok (.getfield 236, 3) := by decide +kernel
theorem dX10_bestWorth_34 : decode cX10_bestWorth 34 = .ok (.ireturn, 1) := by decide +kernel
theorem dX10_needOf_0 : decode cX10_needOf 0 = .ok (.aload_n 0, 1) := by decide +kernel
theorem dX10_needOf_1 : decode cX10_needOf 1 = .ok (.getfield 33, 3) := by decide +kernel
theorem dX10_needOf_4 : decode cX10_needOf 4 = .ok (.iload_n 1, 1) := by decide +kernel
theorem dX10_needOf_5 : decode cX10_needOf 5 = .ok (.iaload, 1) := by decide +kernel
theorem dX10_needOf_6 : decode cX10_needOf 6 = .ok (.iconst 2, 1) := by decide +kernel
theorem dX10_needOf_7 : decode cX10_needOf 7 = .ok (.if_icmp .ne 19, 3) := by decide +kernel
theorem dX10_needOf_10 : decode cX10_needOf 10 = .ok (.aload_n 0, 1) := by decide +kernel
theorem dX10_needOf_11 : decode cX10_needOf 11 = .ok (.getfield 36, 3) := by decide +kernel
theorem dX10_needOf_14 : decode cX10_needOf 14 = .ok (.iload_n 1, 1) := by decide +kernel
theorem dX10_needOf_15 : decode cX10_needOf 15 = .ok (.iaload, 1) := by decide +kernel
theorem dX10_needOf_16 : decode cX10_needOf 16 = .ok (.aload_n 0, 1) := by decide +kernel
theorem dX10_needOf_17 : decode cX10_needOf 17 = .ok (.getfield 39, 3) := by decide +kernel
theorem dX10_needOf_20 : decode cX10_needOf 20 = .ok (.iload_n 1, 1) := by decide +kernel
theorem dX10_needOf_21 : decode cX10_needOf 21 = .ok (.iaload, 1) := by decide +kernel
theorem dX10_needOf_22 : decode cX10_needOf 22 = .ok (.isub, 1) := by decide +kernel
theorem dX10_needOf_23 : decode cX10_needOf 23 = .ok (.goto 4, 3) := by decide +kernel
theorem dX10_needOf_26 : decode cX10_needOf 26 = .ok (.iconst 0, 1) := by decide +kernel
theorem dX10_needOf_27 : decode cX10_needOf 27 = .ok (.istore_n 2, 1) := by decide +kernel
theorem dX10_needOf_28 : decode cX10_needOf 28 = .ok (.iconst 0, 1) := by decide +kernel
theorem dX10_needOf_29 : decode cX10_needOf 29 = .ok (.istore_n 3, 1) := by decide +kernel
theorem dX10_needOf_30 : decode cX10_needOf 30 = .ok (.iload_n 3, 1) := by decide +kernel
theorem dX10_needOf_31 : decode cX10_needOf 31 = .ok (.aload_n 0, 1) := by decide +kernel
theorem dX10_needOf_32 : decode cX10_needOf 32 = .ok (.getfield 142, 3) := by decide +kernel
theorem dX10_needOf_35 : decode cX10_needOf 35 = .ok (.if_icmp .ge 39, 3) := by decide +kernel
theorem dX10_needOf_38 : decode cX10_needOf 38 = .ok (.iload_n 2, 1) := by decide +kernel
theorem dX10_needOf_39 : decode cX10_needOf 39 = .ok (.aload_n 0, 1) := by decide +kernel
theorem dX10_needOf_40 : decode cX10_needOf 40 = .ok (.getfield 45, 3) := by decide +kernel
theorem dX10_needOf_43 : decode cX10_needOf 43 = .ok (.iload_n 3, 1) := by decide +kernel
theorem dX10_needOf_44 : decode cX10_needOf 44 = .ok (.iaload, 1) := by decide +kernel
theorem dX10_needOf_45 : decode cX10_needOf 45 = .ok (.iload_n 1, 1) := by decide +kernel
theorem dX10_needOf_46 : decode cX10_needOf 46 = .ok (.if_icmp .ne 19, 3) := by decide +kernel
theorem dX10_needOf_49 : decode cX10_needOf 49 = .ok (.aload_n 0, 1) := by decide +kernel
theorem dX10_needOf_50 : decode cX10_needOf 50 = .ok (.getfield 48, 3) := by decide +kernel
theorem dX10_needOf_53 : decode cX10_needOf 53 = .ok (.iload_n 3, 1) := by decide +kernel
theorem dX10_needOf_54 : decode cX10_needOf 54 = .ok (.iaload, 1) := by decide +kernel
theorem dX10_needOf_55 : decode cX10_needOf 55 = .ok (.aload_n 0, 1) := by decide +kernel
theorem dX10_needOf_56 : decode cX10_needOf 56 = .ok (.getfield 63, 3) := by decide +kernel
theorem dX10_needOf_59 : decode cX10_needOf 59 = .ok (.iload_n 3, 1) := by decide +kernel
theorem dX10_needOf_60 : decode cX10_needOf 60 = .ok (.iaload, 1) := by decide +kernel
theorem dX10_needOf_61 : decode cX10_needOf 61 = .ok (.isub, 1) := by decide +kernel
theorem dX10_needOf_62 : decode cX10_needOf 62 = .ok (.goto 4, 3) := by decide +kernel
theorem dX10_needOf_65 : decode cX10_needOf 65 = .ok (.iconst 0, 1) := by decide +kernel
theorem dX10_needOf_66 : decode cX10_needOf 66 = .ok (.iadd, 1) := by decide +kernel
theorem dX10_needOf_67 : decode cX10_needOf 67 = .ok (.istore_n 2, 1) := by decide +kernel
theorem dX10_needOf_68 : decode cX10_needOf 68 = .ok (.iinc 3 1, 3) := by decide +kernel
theorem dX10_needOf_71 : decode cX10_needOf 71 = .ok (.goto (-41), 3) := by decide +kernel
theorem dX10_needOf_74 : decode cX10_needOf 74 = .ok (.iload_n 2, 1) := by decide +kernel
theorem dX10_needOf_75 : decode cX10_needOf 75 = .ok (.ireturn, 1) := by decide +kernel
theorem dX10_wrongDays_0 : decode cX10_wrongDays 0 = .ok (.iload_n 1, 1) := by decide +kernel
theorem dX10_wrongDays_1 : decode cX10_wrongDays 1 = .ok (.iconst 0, 1) := by decide +kernel
theorem dX10_wrongDays_2 : decode cX10_wrongDays 2 = .ok (.iconst 1, 1) := by decide +kernel
theorem dX10_wrongDays_3 : decode cX10_wrongDays 3 = .ok (.aload_n 0, 1) := by decide +kernel
theorem dX10_wrongDays_4 : decode cX10_wrongDays 4 = .ok (.getfield 135, 3) := by decide +kernel
theorem dX10_wrongDays_7 : decode cX10_wrongDays 7 = .ok (.ishl, 1) := by decide +kernel
theorem dX10_wrongDays_8 : decode cX10_wrongDays 8 = .ok (.iconst 1, 1) := by decide +kernel
theorem dX10_wrongDays_9 : decode cX10_wrongDays 9 = .ok (.isub, 1) := by decide +kernel
theorem dX10_wrongDays_10 : decode cX10_wrongDays 10 = .ok (.invokestatic 138, 3) := by decide +kernel
theorem dX10_wrongDays_13 : decode cX10_wrongDays 13 = .ok (.ifCond .ne 5, 3) := by decide +kernel
theorem dX10_wrongDays_16 : decode cX10_wrongDays 16 = .ok (.iconst (-1), 1) := by decide +kernel
theorem dX10_wrongDays_17 : decode cX10_wrongDays 17 = .ok (.ireturn, 1) := by decide +kernel
theorem dX10_wrongDays_18 : decode cX10_wrongDays 18 = .ok (.iload_n 1, 1) := by decide +kernel
theorem dX10_wrongDays_19 : decode cX10_wrongDays 19 = .ok (.invokestatic 239, 3) := by decide +kernel
theorem dX10_wrongDays_22 : decode cX10_wrongDays 22 = .ok (.bipush 6, 2) := by decide +kernel
theorem dX10_wrongDays_24 : decode cX10_wrongDays 24 = .ok (.if_icmp .le 8, 3) := by decide +kernel
theorem dX10_wrongDays_27 : decode cX10_wrongDays 27 = .ok (.bipush (-6), 2) := by decide +kernel
theorem dX10_wrongDays_29 : decode cX10_wrongDays 29 = .ok (.goto 24, 3) := by decide +kernel
theorem dX10_wrongDays_32 : decode cX10_wrongDays 32 = .ok (.iload_n 2, 1) := by decide +kernel
theorem dX10_wrongDays_33 : decode cX10_wrongDays 33 = .ok (.ifCond .ge 8, 3) := by decide +kernel
theorem dX10_wrongDays_36 : decode cX10_wrongDays 36 = .ok (.bipush (-4), 2) := by decide +kernel
theorem dX10_wrongDays_38 : decode cX10_wrongDays 38 = .ok (.goto 15, 3) := by decide +kernel
theorem dX10_wrongDays_41 : decode cX10_wrongDays 41 = .ok (.iload_n 2, 1) := by decide +kernel
theorem dX10_wrongDays_42 : decode cX10_wrongDays 42 = .ok (.ldc 152, 2) := by decide +kernel
theorem dX10_wrongDays_44 : decode cX10_wrongDays 44 = .ok (.if_icmp .le 8, 3) := by decide +kernel
theorem dX10_wrongDays_47 : decode cX10_wrongDays 47 = .ok (.bipush (-6), 2) := by decide +kernel
theorem dX10_wrongDays_49 : decode cX10_wrongDays 49 = .ok (.goto 4, 3) := by decide +kernel
theorem dX10_wrongDays_52 : decode cX10_wrongDays 52 = .ok (.iconst 0, 1) := by decide +kernel
theorem dX10_wrongDays_53 : decode cX10_wrongDays 53 = .ok (.ireturn, 1) := by decide +kernel
theorem dX10_findDays_0 : decode cX10_findDays 0 = .ok (.aload_n 0, 1) := by decide +kernel
theorem dX10_findDays_1 : decode cX10_findDays 1 = .ok (.iconst 0, 1) := by decide +kernel
theorem dX10_findDays_2 : decode cX10_findDays 2 = .ok (.putfield 245, 3) := by decide +kernel
theorem dX10_findDays_5 : decode cX10_findDays 5 = .ok (.iconst 0, 1) := by decide +kernel
theorem dX10_findDays_6 : decode cX10_findDays 6 = .ok (.istore_n 3, 1) := by decide +kernel
theorem dX10_findDays_7 : decode cX10_findDays 7 = .ok (.iload_n 3, 1) := by decide +kernel
theorem dX10_findDays_8 : decode cX10_findDays 8 = .ok (.aload_n 0, 1) := by decide +kernel
theorem dX10_findDays_9 : decode cX10_findDays 9 = .ok (.getfield 135, 3) := by decide +kernel
theorem dX10_findDays_12 : decode cX10_findDays 12 = .ok (.if_icmp .ge 62, 3) := by decide +kernel
theorem dX10_findDays_15 : decode cX10_findDays 15 = .ok (.iload_n 1, 1) := by decide +kernel
theorem dX10_findDays_16 : decode cX10_findDays 16 = .ok (.iload_n 3, 1) := by decide +kernel
theorem dX10_findDays_17 : decode cX10_findDays 17 = .ok (.ishr, 1) := by decide +kernel
theorem dX10_findDays_18 : decode cX10_findDays 18 = .ok (.iconst 1, 1) := by decide +kernel
theorem dX10_findDays_19 : decode cX10_findDays 19 = .ok (.iand, 1) := by decide +kernel
theorem dX10_findDays_20 : decode cX10_findDays 20 = .ok (.iconst 1, 1) := by decide +kernel
theorem dX10_findDays_21 : decode cX10_findDays 21 = .ok (.if_icmp .ne 47, 3) := by decide +kernel
theorem dX10_findDays_24 : decode cX10_findDays 24 = .ok (.aload_n 0, 1) := by decide +kernel
theorem dX10_findDays_25 : decode cX10_findDays 25 = .ok (.getfield 120, 3) := by decide +kernel
theorem dX10_findDays_28 : decode cX10_findDays 28 = .ok (.aload_n 0, 1) := by decide +kernel
theorem dX10_findDays_29 : decode cX10_findDays 29 = .ok (.getfield 245, 3) := by decide +kernel
theorem dX10_findDays_32 : decode cX10_findDays 32 = .ok (.iload_n 3, 1) := by decide +kernel
theorem dX10_findDays_33 : decode cX10_findDays 33 = .ok (.iastore, 1) := by decide +kernel
theorem dX10_findDays_34 : decode cX10_findDays 34 = .ok (.aload_n 0, 1) := by decide +kernel
theorem dX10_findDays_35 : decode cX10_findDays 35 = .ok (.getfield 123, 3) := by decide +kernel
theorem dX10_findDays_38 : decode cX10_findDays 38 = .ok (.aload_n 0, 1) := by decide +kernel
theorem dX10_findDays_39 : decode cX10_findDays 39 = .ok (.getfield 245, 3) := by decide +kernel
theorem dX10_findDays_42 : decode cX10_findDays 42 = .ok (.aload_n 0, 1) := by decide +kernel
theorem dX10_findDays_43 : decode cX10_findDays 43 = .ok (.iload_n 3, 1) := by decide +kernel
theorem dX10_findDays_44 : decode cX10_findDays 44 = .ok (.invokevirtual 248, 3) := by decide +kernel
theorem dX10_findDays_47 : decode cX10_findDays 47 = .ok (.iastore, 1) := by decide +kernel
theorem dX10_findDays_48 : decode cX10_findDays 48 = .ok (.aload_n 0, 1) := by decide +kernel
theorem dX10_findDays_49 : decode cX10_findDays 49 = .ok (.getfield 126, 3) := by decide +kernel
theorem dX10_findDays_52 : decode cX10_findDays 52 = .ok (.aload_n 0, 1) := by decide +kernel
theorem dX10_findDays_53 : decode cX10_findDays 53 = .ok (.getfield 245, 3) := by decide +kernel
theorem dX10_findDays_56 : decode cX10_findDays 56 = .ok (.iconst 0, 1) := by decide +kernel
theorem dX10_findDays_57 : decode cX10_findDays 57 = .ok (.iastore, 1) := by decide +kernel
theorem dX10_findDays_58 : decode cX10_findDays 58 = .ok (.aload_n 0, 1) := by decide +kernel
theorem dX10_findDays_59 : decode cX10_findDays 59 = .ok (.dup, 1) := by decide +kernel
theorem dX10_findDays_60 : decode cX10_findDays 60 = .ok (.getfield 245, 3) := by decide +kernel
theorem dX10_findDays_63 : decode cX10_findDays 63 = .ok (.iconst 1, 1) := by decide +kernel
theorem dX10_findDays_64 : decode cX10_findDays 64 = .ok (.iadd, 1) := by decide +kernel
theorem dX10_findDays_65 : decode cX10_findDays 65 = .ok (.putfield 245, 3) := by decide +kernel
theorem dX10_findDays_68 : decode cX10_findDays 68 = .ok (.iinc 3 1, 3) := by decide +kernel
theorem dX10_findDays_71 : decode cX10_findDays 71 = .ok (.goto (-64), 3) := by decide +kernel
theorem dX10_findDays_74 : decode cX10_findDays 74 = .ok (.iconst (-1), 1) := by decide +kernel
theorem dX10_findDays_75 : decode cX10_findDays 75 = .ok (.istore_n 3, 1) := by decide +kernel
theorem dX10_findDays_76 : decode cX10_findDays 76 = .ok (.iconst 0, 1) := by decide +kernel
theorem dX10_findDays_77 : decode cX10_findDays 77 = .ok (.istore 4, 2) := by decide +kernel
theorem dX10_findDays_79 : decode cX10_findDays 79 = .ok (.iconst 1, 1) := by decide +kernel
theorem dX10_findDays_80 : decode cX10_findDays 80 = .ok (.istore 5, 2) := by decide +kernel
theorem dX10_findDays_82 : decode cX10_findDays 82 = .ok (.iload 5, 2) := by decide +kernel
theorem dX10_findDays_84 : decode cX10_findDays 84 = .ok (.ifCond .eq 276, 3) := by decide +kernel
theorem dX10_findDays_87 : decode cX10_findDays 87 = .ok (.iconst 0, 1) := by decide +kernel
theorem dX10_findDays_88 : decode cX10_findDays 88 = .ok (.istore 6, 2) := by decide +kernel
theorem dX10_findDays_90 : decode cX10_findDays 90 = .ok (.iload 6, 2) := by decide +kernel
theorem dX10_findDays_92 : decode cX10_findDays 92 = .ok (.bipush 7, 2) := by decide +kernel
theorem dX10_findDays_94 : decode cX10_findDays 94 = .ok (.if_icmp .ge 17, 3) := by decide +kernel
theorem dX10_findDays_97 : decode cX10_findDays 97 = .ok (.aload_n 0, 1) := by decide +kernel
theorem dX10_findDays_98 : decode cX10_findDays 98 = .ok (.getfield 132, 3) := by decide +kernel
theorem dX10_findDays_101 : decode cX10_findDays 101 = .ok (.iload 6, 2) := by decide +kernel
theorem dX10_findDays_103 : decode cX10_findDays 103 = .ok (.iconst 0, 1) := by decide +kernel
theorem dX10_findDays_104 : decode cX10_findDays 104 = .ok (.iastore, 1) := by decide +kernel
theorem dX10_findDays_105 : decode cX10_findDays 105 = .ok (.iinc 6 1, 3) := by decide +kernel
theorem dX10_findDays_108 : decode cX10_findDays 108 = .ok (.goto (-18), 3) := by decide +kernel
theorem dX10_findDays_111 : decode cX10_findDays 111 = .ok (.iconst 0, 1) := by decide +kernel
theorem dX10_findDays_112 : decode cX10_findDays 112 = .ok (.istore 6, 2) := by decide +kernel
theorem dX10_findDays_114 : decode cX10_findDays 114 = .ok (.iload 6, 2) := by decide +kernel
theorem dX10_findDays_116 : decode cX10_findDays 116 = .ok (.aload_n 0, 1) := by decide +kernel
theorem dX10_findDays_117 : decode cX10_findDays 117 = .ok (.getfield 245, 3) := by decide +kernel
theorem dX10_findDays_120 : decode cX10_findDays 120 = .ok (.if_icmp .ge 31, 3) := by decide +kernel
theorem dX10_findDays_123 : decode cX10_findDays 123 = .ok (.aload_n 0, 1) := by decide +kernel
theorem dX10_findDays_124 : decode cX10_findDays 124 = .ok (.getfield 132, 3) := by decide +kernel
theorem dX10_findDays_127 : decode cX10_findDays 127 = .ok (.aload_n 0, 1) := by decide +kernel
theorem dX10_findDays_128 : decode cX10_findDays 128 = .ok (.getfield 126, 3) := by decide +kernel
theorem dX10_findDays_131 : decode cX10_findDays 131 = .ok (.iload 6, 2) := by decide +kernel
theorem dX10_findDays_133 : decode cX10_findDays 133 = .ok (.iaload, 1) := by decide +kernel
theorem dX10_findDays_134 : decode cX10_findDays 134 = .ok (.dup2, 1) := by decide +kernel
theorem dX10_findDays_135 : decode cX10_findDays 135 = .ok (.iaload, 1) := by decide +kernel
theorem dX10_findDays_136 : decode cX10_findDays 136 = .ok (.aload_n 0, 1) := by decide +kernel
theorem dX10_findDays_137 : decode cX10_findDays 137 = .ok (.getfield 123, 3) := by decide +kernel
theorem dX10_findDays_140 : decode cX10_findDays 140 = .ok (.iload 6, 2) := by decide +kernel
theorem dX10_findDays_142 : decode cX10_findDays 142 = .ok (.iaload, 1) := by decide +kernel
theorem dX10_findDays_143 : decode cX10_findDays 143 = .ok (.iadd, 1) := by decide +kernel
theorem dX10_findDays_144 : decode cX10_findDays 144 = .ok (.iastore, 1) := by decide +kernel
theorem dX10_findDays_145 : decode cX10_findDays 145 = .ok (.iinc 6 1, 3) := by decide +kernel
theorem dX10_findDays_148 : decode cX10_findDays 148 = .ok (.goto (-34), 3) := by decide +kernel
theorem dX10_findDays_151 : decode cX10_findDays 151 = .ok (.iconst 0, 1) := by decide +kernel
theorem dX10_findDays_152 : decode cX10_findDays 152 = .ok (.istore 6, 2) := by decide +kernel
theorem dX10_findDays_154 : decode cX10_findDays 154 = .ok (.iconst 0, 1) := by decide +kernel
theorem dX10_findDays_155 : decode cX10_findDays 155 = .ok (.istore 7, 2) := by decide +kernel
theorem dX10_findDays_157 : decode cX10_findDays 157 = .ok (.iconst 0, 1) := by decide +kernel
theorem dX10_findDays_158 : decode cX10_findDays 158 = .ok (.istore 8, 2) := by decide +kernel
theorem dX10_findDays_160 : decode cX10_findDays 160 = .ok (.iload 8, 2) := by decide +kernel
theorem dX10_findDays_162 : decode cX10_findDays 162 = .ok (.bipush 7, 2) := by decide +kernel
theorem dX10_findDays_164 : decode cX10_findDays 164 = .ok (.if_icmp .ge 64, 3) := by decide +kernel
theorem dX10_findDays_167 : decode cX10_findDays 167 = .ok (.iload 6, 2) := by decide +kernel
theorem dX10_findDays_169 : decode cX10_findDays 169 = .ok (.aload_n 0, 1) := by decide +kernel
theorem dX10_findDays_170 : decode cX10_findDays 170 = .ok (.getfield 132, 3) := by decide +kernel
theorem dX10_findDays_173 : decode cX10_findDays 173 = .ok (.iload 8, 2) := by decide +kernel
theorem dX10_findDays_175 : decode cX10_findDays 175 = .ok (.iaload, 1) := by decide +kernel
theorem dX10_findDays_176 : decode cX10_findDays 176 = .ok (.iload_n 2, 1) := by decide +kernel
theorem dX10_findDays_177 : decode cX10_findDays 177 = .ok (.if_icmp .le 15, 3) := by decide +kernel
theorem dX10_findDays_180 : decode cX10_findDays 180 = .ok (.aload_n 0, 1) := by decide +kernel
theorem dX10_findDays_181 : decode cX10_findDays 181 = .ok (.getfield 132, 3) := by decide +kernel
theorem dX10_findDays_184 : decode cX10_findDays 184 = .ok (.iload 8, 2) := by decide +kernel
theorem dX10_findDays_186 : decode cX10_findDays 186 = .ok (.iaload, 1) := by decide +kernel
theorem dX10_findDays_187 : decode cX10_findDays 187 = .ok (.iload_n 2, 1) := by decide +kernel
theorem dX10_findDays_188 : decode cX10_findDays 188 = .ok (.isub, 1) := by decide +kernel
theorem dX10_findDays_189 : decode cX10_findDays 189 = .ok (.goto 4, 3) := by decide +kernel
theorem dX10_findDays_192 : decode cX10_findDays 192 = .ok (.iconst 0, 1) := by decide +kernel
theorem dX10_findDays_193 : decode cX10_findDays 193 = .ok (.iadd, 1) := by decide +kernel
theorem dX10_findDays_194 : decode cX10_findDays 194 = .ok (.istore 6, 2) := by decide +kernel
theorem dX10_findDays_196 : decode cX10_findDays 196 = .ok (.aload_n 0, 1) := by decide +kernel
theorem dX10_findDays_197 : decode cX10_findDays 197 = .ok (.getfield 132, 3) := by decide +kernel
theorem dX10_findDays_200 : decode cX10_findDays 200 = .ok (.iload 8, 2) := by decide +kernel
theorem dX10_findDays_202 : decode cX10_findDays 202 = .ok (.iaload, 1) := by decide +kernel
theorem dX10_findDays_203 : decode cX10_findDays 203 = .ok (.iload 7, 2) := by decide +kernel
theorem dX10_findDays_205 : decode cX10_findDays 205 = .ok (.if_icmp .le 13, 3) := by decide +kernel
theorem dX10_findDays_208 : decode cX10_findDays 208 = .ok (.aload_n 0, 1) := by decide +kernel
theorem dX10_findDays_209 : decode cX10_findDays 209 = .ok (.getfield 132, 3) := by decide +kernel
theorem dX10_findDays_212 : decode cX10_findDays 212 = .ok (.iload 8, 2) := by decide +kernel
theorem dX10_findDays_214 : decode cX10_findDays 214 = .ok (.iaload, 1) := by decide +kernel
theorem dX10_findDays_215 : decode cX10_findDays 215 = .ok (.goto 5, 3) := by decide +kernel
theorem dX10_findDays_218 : decode cX10_findDays 218 = .ok (.iload 7, 2) := by decide +kernel
theorem dX10_findDays_220 : decode cX10_findDays 220 = .ok (.istore 7, 2) := by decide +kernel
theorem dX10_findDays_222 : decode cX10_findDays 222 = .ok (.iinc 8 1, 3) := by decide +kernel
theorem dX10_findDays_225 : decode cX10_findDays 225 = .ok (.goto (-65), 3) := by decide +kernel
theorem dX10_findDays_228 : decode cX10_findDays 228 = .ok (.iload_n 3, 1) := by decide +kernel
theorem dX10_findDays_229 : decode cX10_findDays 229 = .ok (.ifCond .lt 22, 3) := by decide +kernel
theorem dX10_findDays_232 : decode cX10_findDays 232 = .ok (.iload 6, 2) := by decide +kernel
theorem dX10_findDays_234 : decode cX10_findDays 234 = .ok (.iload_n 3, 1) := by decide +kernel
theorem dX10_findDays_235 : decode cX10_findDays 235 = .ok (.if_icmp .lt 16, 3) := by decide +kernel
theorem dX10_findDays_238 : decode cX10_findDays 238 = .ok (.iload 6, 2) := by decide +kernel
theorem dX10_findDays_240 : decode cX10_findDays 240 = .ok (.iload_n 3, 1) := by decide +kernel
theorem dX10_findDays_241 : decode cX10_findDays 241 = .ok (.if_icmp .ne 49, 3) := by decide +kernel
theorem dX10_findDays_244 : decode cX10_findDays 244 = .ok (.iload 7, 2) := by decide +kernel
theorem dX10_findDays_246 : decode cX10_findDays 246 = .ok (.iload 4, 2) := by decide +kernel
theorem dX10_findDays_248 : decode cX10_findDays 248 = .ok (.if_icmp .ge 42, 3) := by decide +kernel
theorem dX10_findDays_251 : decode cX10_findDays 251 = .ok (.iload 6, 2) := by decide +kernel
theorem dX10_findDays_253 : decode cX10_findDays 253 = .ok (.istore_n 3, 1) := by decide +kernel
theorem dX10_findDays_254 : decode cX10_findDays 254 = .ok (.iload 7, 2) := by decide +kernel
theorem dX10_findDays_256 : decode cX10_findDays 256 = .ok (.istore 4, 2) := by decide +kernel
theorem dX10_findDays_258 : decode cX10_findDays 258 = .ok (.iconst 0, 1) := by decide +kernel
theorem dX10_findDays_259 : decode cX10_findDays 259 = .ok (.istore 8, 2) := by decide +kernel
theorem dX10_findDays_261 : decode cX10_findDays 261 = .ok (.iload 8, 2) := by decide +kernel
theorem dX10_findDays_263 : decode cX10_findDays 263 = .ok (.aload_n 0, 1) := by decide +kernel
theorem dX10_findDays_264 : decode cX10_findDays 264 = .ok (.getfield 245, 3) := by decide +kernel
theorem dX10_findDays_267 : decode cX10_findDays 267 = .ok (.if_icmp .ge 23, 3) := by decide +kernel
theorem dX10_findDays_270 : decode cX10_findDays 270 = .ok (.aload_n 0, 1) := by decide +kernel
theorem dX10_findDays_271 : decode cX10_findDays 271 = .ok (.getfield 129, 3) := by decide +kernel
theorem dX10_findDays_274 : decode cX10_findDays 274 = .ok (.iload 8, 2) := by decide +kernel
theorem dX10_findDays_276 : decode cX10_findDays 276 = .ok (.aload_n 0, 1) := by decide +kernel
theorem dX10_findDays_277 : decode cX10_findDays 277 = .ok (.getfield 126, 3) := by decide +kernel
theorem dX10_findDays_280 : decode cX10_findDays 280 = .ok (.iload 8, 2) := by decide +kernel
theorem dX10_findDays_282 : decode cX10_findDays 282 = .ok (.iaload, 1) := by decide +kernel
theorem dX10_findDays_283 : decode cX10_findDays 283 = .ok (.iastore, 1) := by decide +kernel
theorem dX10_findDays_284 : decode cX10_findDays 284 = .ok (.iinc 8 1, 3) := by decide +kernel
theorem dX10_findDays_287 : decode cX10_findDays 287 = .ok (.goto (-26), 3) := by decide +kernel
theorem dX10_findDays_290 : decode cX10_findDays 290 = .ok (.aload_n 0, 1) := by decide +kernel
theorem dX10_findDays_291 : decode cX10_findDays 291 = .ok (.getfield 245, 3) := by decide +kernel
theorem dX10_findDays_294 : decode cX10_findDays 294 = .ok (.iconst 1, 1) := by decide +kernel
theorem dX10_findDays_295 : decode cX10_findDays 295 = .ok (.isub, 1) := by decide +kernel
theorem dX10_findDays_296 : decode cX10_findDays 296 = .ok (.istore 8, 2) := by decide +kernel
theorem dX10_findDays_298 : decode cX10_findDays 298 = .ok (.iload 8, 2) := by decide +kernel
theorem dX10_findDays_300 : decode cX10_findDays 300 = .ok (.ifCond .lt 29, 3) := by decide +kernel
theorem dX10_findDays_303 : decode cX10_findDays 303 = .ok (.aload_n 0, 1) := by decide +kernel
theorem dX10_findDays_304 : decode cX10_findDays 304 = .ok (.getfield 126, 3) := by decide +kernel
theorem dX10_findDays_307 : decode cX10_findDays 307 = .ok (.iload 8, 2) := by decide +kernel
theorem dX10_findDays_309 : decode cX10_findDays 309 = .ok (.iaload, 1) := by decide +kernel
theorem dX10_findDays_310 : decode cX10_findDays 310 = .ok (.bipush 6, 2) := by decide +kernel
theorem dX10_findDays_312 : decode cX10_findDays 312 = .ok (.if_icmp .ne 17, 3) := by decide +kernel
theorem dX10_findDays_315 : decode cX10_findDays 315 = .ok (.aload_n 0, 1) := by decide +kernel
theorem dX10_findDays_316 : decode cX10_findDays 316 = .ok (.getfield 126, 3) := by decide +kernel
theorem dX10_findDays_319 : decode cX10_findDays 319 = .ok (.iload 8, 2) := by decide +kernel
theorem dX10_findDays_321 : decode cX10_findDays 321 = .ok (.iconst 0, 1) := by decide +kernel
theorem dX10_findDays_322 : decode cX10_findDays 322 = .ok (.iastore, 1) := by decide +kernel
theorem dX10_findDays_323 : decode cX10_findDays 323 = .ok (.iinc 8 (-1), 3) := by decide +kernel
theorem dX10_findDays_326 : decode cX10_findDays 326 = .ok (.goto (-28), 3) := by decide +kernel
theorem dX10_findDays_329 : decode cX10_findDays 329 = .ok (.iload 8, 2) := by decide +kernel
theorem dX10_findDays_331 : decode cX10_findDays 331 = .ok (.ifCond .lt 7, 3) := by decide +kernel
theorem dX10_findDays_334 : decode cX10_findDays 334 = .ok (.iconst 1, 1) := by decide +kernel
theorem dX10_findDays_335 : decode cX10_findDays 335 = .ok (.goto 4, 3) := by decide +kernel
theorem dX10_findDays_338 : decode cX10_findDays 338 = .ok (.iconst 0, 1) := by decide +kernel
theorem dX10_findDays_339 : decode cX10_findDays 339 = .ok (.istore 5, 2) := by decide +kernel
theorem dX10_findDays_341 : decode cX10_findDays 341 = .ok (.iload 5, 2) := by decide +kernel
theorem dX10_findDays_343 : decode cX10_findDays 343 = .ok (.ifCond .eq 14, 3) := by decide +kernel
theorem dX10_findDays_346 : decode cX10_findDays 346 = .ok (.aload_n 0, 1) := by decide +kernel
theorem dX10_findDays_347 : decode cX10_findDays 347 = .ok (.getfield 126, 3) := by decide +kernel
theorem dX10_findDays_350 : decode cX10_findDays 350 = .ok (.iload 8, 2) := by decide +kernel
theorem dX10_findDays_352 : decode cX10_findDays 352 = .ok (.dup2, 1) := by decide +kernel
theorem dX10_findDays_353 : decode cX10_findDays 353 = .ok (.iaload, 1) := by decide +kernel
theorem dX10_findDays_354 : decode cX10_findDays 354 = .ok (.iconst 1, 1) := by decide +kernel
theorem dX10_findDays_355 : decode cX10_findDays 355 = .ok (.iadd, 1) := by decide +kernel
theorem dX10_findDays_356 : decode cX10_findDays 356 = .ok (.iastore, 1) := by decide +kernel
theorem dX10_findDays_357 : decode cX10_findDays 357 = .ok (.goto (-275), 3) := by decide +kernel
theorem dX10_findDays_360 : decode cX10_findDays 360 = .ok (.iload_n 3, 1) := by decide +kernel
theorem dX10_findDays_361 : decode cX10_findDays 361 = .ok (.ireturn, 1) := by decide +kernel
theorem dX10_days_0 : decode cX10_days 0 = .ok (.aload_n 0, 1) := by decide +kernel
theorem dX10_days_1 : decode cX10_days 1 = .ok (.iload_n 1, 1) := by decide +kernel
theorem dX10_days_2 : decode cX10_days 2 = .ok (.iload_n 2, 1) := by decide +kernel
theorem dX10_days_3 : decode cX10_days 3 = .ok (.invokevirtual 251, 3) := by decide +kernel
theorem dX10_days_6 : decode cX10_days 6 = .ok (.istore_n 3, 1) := by decide +kernel
theorem dX10_days_7 : decode cX10_days 7 = .ok (.iload_n 3, 1) := by decide +kernel
theorem dX10_days_8 : decode cX10_days 8 = .ok (.ifCond .ge 11, 3) := by decide +kernel
theorem dX10_days_11 : decode cX10_days 11 = .ok (.aload_n 0, 1) := by decide +kernel
theorem dX10_days_12 : decode cX10_days 12 = .ok (.iload_n 3, 1) := by decide +kernel
theorem dX10_days_13 : decode cX10_days 13 = .ok (.invokevirtual 145, 3) := by decide +kernel
theorem dX10_days_16 : decode cX10_days 16 = .ok (.goto 9, 3) := by decide +kernel
theorem dX10_days_19 : decode cX10_days 19 = .ok (.aload_n 0, 1) := by decide +kernel
theorem dX10_days_20 : decode cX10_days 20 = .ok (.iload_n 1, 1) := by decide +kernel
theorem dX10_days_21 : decode cX10_days 21 = .ok (.iload_n 2, 1) := by decide +kernel
theorem dX10_days_22 : decode cX10_days 22 = .ok (.invokevirtual 254, 3) := by decide +kernel
theorem dX10_days_25 : decode cX10_days 25 = .ok (.ireturn, 1) := by decide +kernel
theorem dX10_dayOf_0 : decode cX10_dayOf 0 = .ok (.aload_n 0, 1) := by decide +kernel
theorem dX10_dayOf_1 : decode cX10_dayOf 1 = .ok (.iload_n 1, 1) := by decide +kernel
theorem dX10_dayOf_2 : decode cX10_dayOf 2 = .ok (.iload_n 2, 1) := by decide +kernel
theorem dX10_dayOf_3 : decode cX10_dayOf 3 = .ok (.invokevirtual 251, 3) := by decide +kernel
theorem dX10_dayOf_6 : decode cX10_dayOf 6 = .ok (.istore 4, 2) := by decide +kernel
theorem dX10_dayOf_8 : decode cX10_dayOf 8 = .ok (.iload 4, 2) := by decide +kernel
theorem dX10_dayOf_10 : decode cX10_dayOf 10 = .ok (.ifCond .ge 10, 3) := by decide +kernel
theorem dX10_dayOf_13 : decode cX10_dayOf 13 = .ok (.aload_n 0, 1) := by decide +kernel
theorem dX10_dayOf_14 : decode cX10_dayOf 14 = .ok (.iload 4, 2) := by decide +kernel
theorem dX10_dayOf_16 : decode cX10_dayOf 16 = .ok (.invokevirtual 145, 3) := by decide +kernel
theorem dX10_dayOf_19 : decode cX10_dayOf 19 = .ok (.ireturn, 1) := by decide +kernel
theorem dX10_dayOf_20 : decode cX10_dayOf 20 = .ok (.aload_n 0, 1) := by decide +kernel
theorem dX10_dayOf_21 : decode cX10_dayOf 21 = .ok (.iload_n 3, 1) := by decide +kernel
theorem dX10_dayOf_22 : decode cX10_dayOf 22 = .ok (.invokevirtual 156, 3) := by decide +kernel
theorem dX10_dayOf_25 : decode cX10_dayOf 25 = .ok (.ifCond .ne 9, 3) := by decide +kernel
theorem dX10_dayOf_28 : decode cX10_dayOf 28 = .ok (.aload_n 0, 1) := by decide +kernel
theorem dX10_dayOf_29 : decode cX10_dayOf 29 = .ok (.iconst (-1), 1) := by decide +kernel
theorem dX10_dayOf_30 : decode cX10_dayOf 30 = .ok (.invokevirtual 145, 3) := by decide +kernel
theorem dX10_dayOf_33 : decode cX10_dayOf 33 = .ok (.ireturn, 1) := by decide +kernel
theorem dX10_dayOf_34 : decode cX10_dayOf 34 = .ok (.aload_n 0, 1) := by decide +kernel
theorem dX10_dayOf_35 : decode cX10_dayOf 35 = .ok (.iload_n 1, 1) := by decide +kernel
theorem dX10_dayOf_36 : decode cX10_dayOf 36 = .ok (.iload_n 2, 1) := by decide +kernel
theorem dX10_dayOf_37 : decode cX10_dayOf 37 = .ok (.invokevirtual 254, 3) := by decide +kernel
theorem dX10_dayOf_40 : decode cX10_dayOf 40 = .ok (.istore 5, 2) := by decide +kernel
theorem dX10_dayOf_42 : decode cX10_dayOf 42 = .ok (.iconst 0, 1) := by decide +kernel
theorem dX10_dayOf_43 : decode cX10_dayOf 43 = .ok (.istore 6, 2) := by decide +kernel
theorem dX10_dayOf_45 : decode cX10_dayOf 45 = .ok (.iload 6, 2) := by decide +kernel
theorem dX10_dayOf_47 : decode cX10_dayOf 47 = .ok (.aload_n 0, 1) := by decide +kernel
theorem dX10_dayOf_48 : decode cX10_dayOf 48 = .ok (.getfield 245, 3) := by decide +kernel
theorem dX10_dayOf_51 : decode cX10_dayOf 51 = .ok (.if_icmp .ge 28, 3) := by decide +kernel
theorem dX10_dayOf_54 : decode cX10_dayOf 54 = .ok (.aload_n 0, 1) := by decide +kernel
theorem dX10_dayOf_55 : decode cX10_dayOf 55 = .ok (.getfield 120, 3) := by decide +kernel
theorem dX10_dayOf_58 : decode cX10_dayOf 58 = .ok (.iload 6, 2) := by decide +kernel
theorem dX10_dayOf_60 : decode cX10_dayOf 60 = .ok (.iaload, 1) := by decide +kernel
theorem dX10_dayOf_61 : decode cX10_dayOf 61 = .ok (.iload_n 3, 1) := by decide +kernel
theorem dX10_dayOf_62 : decode cX10_dayOf 62 = .ok (.if_icmp .ne 11, 3) := by decide +kernel
theorem dX10_dayOf_65 : decode cX10_dayOf 65 = .ok (.aload_n 0, 1) := by decide +kernel
theorem dX10_dayOf_66 : decode cX10_dayOf 66 = .ok (.getfield 129, 3) := by decide +kernel
theorem dX10_dayOf_69 : decode cX10_dayOf 69 = .ok (.iload 6, 2) := by decide +kernel
theorem dX10_dayOf_71 : decode cX10_dayOf 71 = .ok (.iaload, 1) := by decide +kernel
theorem dX10_dayOf_72 : decode cX10_dayOf 72 = .ok (.ireturn, 1) := by decide +kernel
theorem dX10_dayOf_73 : decode cX10_dayOf 73 = .ok (.iinc 6 1, 3) := by decide +kernel
theorem dX10_dayOf_76 : decode cX10_dayOf 76 = .ok (.goto (-31), 3) := by decide +kernel
theorem dX10_dayOf_79 : decode cX10_dayOf 79 = .ok (.bipush (-9), 2) := by decide +kernel
theorem dX10_dayOf_81 : decode cX10_dayOf 81 = .ok (.ireturn, 1) := by decide +kernel
theorem dX10_law_0 : decode cX10_law 0 = .ok (.iload_n 1, 1) := by decide +kernel
theorem dX10_law_1 : decode cX10_law 1 = .ok (.ifCond .lt 23, 3) := by decide +kernel
theorem dX10_law_4 : decode cX10_law 4 = .ok (.iload_n 2, 1) := by decide +kernel
theorem dX10_law_5 : decode cX10_law 5 = .ok (.ifCond .lt 19, 3) := by decide +kernel
theorem dX10_law_8 : decode cX10_law 8 = .ok (.iload_n 3, 1) := by decide +kernel
theorem dX10_law_9 : decode cX10_law 9 = .ok (.ifCond .lt 15, 3) := by decide +kernel
theorem dX10_law_12 : decode cX10_law 12 = .ok (.iload 4, 2) := by decide +kernel
theorem dX10_law_14 : decode cX10_law 14 = .ok (.aload_n 0, 1) := by decide +kernel
theorem dX10_law_15 : decode cX10_law 15 = .ok (.getfield 149, 3) := by decide +kernel
theorem dX10_law_18 : decode cX10_law 18 = .ok (.bipush 24, 2) := by decide +kernel
theorem dX10_law_20 : decode cX10_law 20 = .ok (.idiv, 1) := by decide +kernel
theorem dX10_law_21 : decode cX10_law 21 = .ok (.if_icmp .ge 10, 3) := by decide +kernel
theorem dX10_law_24 : decode cX10_law 24 = .ok (.aload_n 0, 1) := by decide +kernel
theorem dX10_law_25 : decode cX10_law 25 = .ok (.bipush (-4), 2) := by decide +kernel
theorem dX10_law_27 : decode cX10_law 27 = .ok (.invokevirtual 145, 3) := by decide +kernel
theorem dX10_law_30 : decode cX10_law 30 = .ok (.ireturn, 1) := by decide +kernel
theorem dX10_law_31 : decode cX10_law 31 = .ok (.iload_n 1, 1) := by decide +kernel
theorem dX10_law_32 : decode cX10_law 32 = .ok (.sipush 999, 3) := by decide +kernel
theorem dX10_law_35 : decode cX10_law 35 = .ok (.if_icmp .gt 32, 3) := by decide +kernel
theorem dX10_law_38 : decode cX10_law 38 = .ok (.iload_n 2, 1) := by decide +kernel
theorem dX10_law_39 : decode cX10_law 39 = .ok (.bipush 99, 2) := by decide +kernel
theorem dX10_law_41 : decode cX10_law 41 = .ok (.if_icmp .gt 26, 3) := by decide +kernel
theorem dX10_law_44 : decode cX10_law 44 = .ok (.iload_n 3, 1) := by decide +kernel
theorem dX10_law_45 : decode cX10_law 45 = .ok (.bipush 99, 2) := by decide +kernel
theorem dX10_law_47 : decode cX10_law 47 = .ok (.if_icmp .gt 20, 3) := by decide +kernel
theorem dX10_law_50 : decode cX10_law 50 = .ok (.iload 4, 2) := by decide +kernel
theorem dX10_law_52 : decode cX10_law 52 = .ok (.sipush 300, 3) := by decide +kernel
theorem dX10_law_55 : decode cX10_law 55 = .ok (.if_icmp .gt 12, 3) := by decide +kernel
theorem dX10_law_58 : decode cX10_law 58 = .ok (.aload_n 0, 1) := by decide +kernel
theorem dX10_law_59 : decode cX10_law 59 = .ok (.getfield 257, 3) := by decide +kernel
theorem dX10_law_62 : decode cX10_law 62 = .ok (.bipush 20, 2) := by decide +kernel
theorem dX10_law_64 : decode cX10_law 64 = .ok (.if_icmp .ne 10, 3) := by decide +kernel
theorem dX10_law_67 : decode cX10_law 67 = .ok (.aload_n 0, 1) := by decide +kernel
theorem dX10_law_68 : decode cX10_law 68 = .ok (.bipush (-6), 2) := by decide +kernel
theorem dX10_law_70 : decode cX10_law 70 = .ok (.invokevirtual 145, 3) := by decide +kernel
theorem dX10_law_73 : decode cX10_law 73 = .ok (.ireturn, 1) := by decide +kernel
theorem dX10_law_74 : decode cX10_law 74 = .ok (.aload_n 0, 1) := by decide +kernel
theorem dX10_law_75 : decode cX10_law 75 = .ok (.getfield 99, 3) := by decide +kernel
theorem dX10_law_78 : decode cX10_law 78 = .ok (.aload_n 0, 1) := by decide +kernel
theorem dX10_law_79 : decode cX10_law 79 = .ok (.getfield 257, 3) := by decide +kernel
theorem dX10_law_82 : decode cX10_law 82 = .ok (.iload_n 1, 1) := by decide +kernel
theorem dX10_law_83 : decode cX10_law 83 = .ok (.iastore, 1) := by decide +kernel
theorem dX10_law_84 : decode cX10_law 84 = .ok (.aload_n 0, 1) := by decide +kernel
theorem dX10_law_85 : decode cX10_law 85 = .ok (.getfield 102, 3) := by decide +kernel
theorem dX10_law_88 : decode cX10_law 88 = .ok (.aload_n 0, 1) := by decide +kernel
theorem dX10_law_89 : decode cX10_law 89 = .ok (.getfield 257, 3) := by decide +kernel
theorem dX10_law_92 : decode cX10_law 92 = .ok (.iload_n 2, 1) := by decide +kernel
theorem dX10_law_93 : decode cX10_law 93 = .ok (.iastore, 1) := by decide +kernel
theorem dX10_law_94 : decode cX10_law 94 = .ok (.aload_n 0, 1) := by decide +kernel
theorem dX10_law_95 : decode cX10_law 95 = .ok (.getfield 105, 3) := by decide +kernel
theorem dX10_law_98 : decode cX10_law 98 = .ok (.aload_n 0, 1) := by decide +kernel
theorem dX10_law_99 : decode cX10_law 99 = .ok (.getfield 257, 3) := by decide +kernel
theorem dX10_law_102 : decode cX10_law 102 = .ok (.iload_n 3, 1) := by decide +kernel
theorem dX10_law_103 : decode cX10_law 103 = .ok (.iastore, 1) := by decide +kernel
theorem dX10_law_104 : decode cX10_law 104 = .ok (.aload_n 0, 1) := by decide +kernel
theorem dX10_law_105 : decode cX10_law 105 = .ok (.getfield 108, 3) := by decide +kernel
theorem dX10_law_108 : decode cX10_law 108 = .ok (.aload_n 0, 1) := by decide +kernel
theorem dX10_law_109 : decode cX10_law 109 = .ok (.getfield 257, 3) := by decide +kernel
theorem dX10_law_112 : decode cX10_law 112 = .ok (.iload 4, 2) := by decide +kernel
theorem dX10_law_114 : decode cX10_law 114 = .ok (.iastore, 1) := by decide +kernel
theorem dX10_law_115 : decode cX10_law 115 = .ok (.aload_n 0, 1) := by decide +kernel
theorem dX10_law_116 : decode cX10_law 116 = .ok (.dup, 1) := by decide +kernel
theorem dX10_law_117 : decode cX10_law 117 = .ok (.getfield 257, 3) := by decide +kernel
theorem dX10_law_120 : decode cX10_law 120 = .ok (.iconst 1, 1) := by decide +kernel
theorem dX10_law_121 : decode cX10_law 121 = .ok (.iadd, 1) := by decide +kernel
theorem dX10_law_122 : decode cX10_law 122 = .ok (.putfield 257, 3) := by decide +kernel
theorem dX10_law_125 : decode cX10_law 125 = .ok (.aload_n 0, 1) := by decide +kernel
theorem dX10_law_126 : decode cX10_law 126 = .ok (.getfield 257, 3) := by decide +kernel
theorem dX10_law_129 : decode cX10_law 129 = .ok (.iconst 1, 1) := by decide +kernel
theorem dX10_law_130 : decode cX10_law 130 = .ok (.isub, 1) := by decide +kernel
theorem dX10_law_131 : decode cX10_law 131 = .ok (.ireturn, 1) := by decide +kernel
theorem dX10_rate_0 : decode cX10_rate 0 = .ok (.aload_n 0, 1) := by decide +kernel
theorem dX10_rate_1 : decode cX10_rate 1 = .ok (.iload_n 1, 1) := by decide +kernel
theorem dX10_rate_2 : decode cX10_rate 2 = .ok (.invokevirtual 160, 3) := by decide +kernel
theorem dX10_rate_5 : decode cX10_rate 5 = .ok (.ifCond .ne 9, 3) := by decide +kernel
theorem dX10_rate_8 : decode cX10_rate 8 = .ok (.aload_n 0, 1) := by decide +kernel
theorem dX10_rate_9 : decode cX10_rate 9 = .ok (.iconst (-1), 1) := by decide +kernel
theorem dX10_rate_10 : decode cX10_rate 10 = .ok (.invokevirtual 145, 3) := by decide +kernel
theorem dX10_rate_13 : decode cX10_rate 13 = .ok (.ireturn, 1) := by decide +kernel
theorem dX10_rate_14 : decode cX10_rate 14 = .ok (.iload_n 2, 1) := by decide +kernel
theorem dX10_rate_15 : decode cX10_rate 15 = .ok (.ifCond .ge 10, 3) := by decide +kernel
theorem dX10_rate_18 : decode cX10_rate 18 = .ok (.aload_n 0, 1) := by decide +kernel
theorem dX10_rate_19 : decode cX10_rate 19 = .ok (.bipush (-4), 2) := by decide +kernel
theorem dX10_rate_21 : decode cX10_rate 21 = .ok (.invokevirtual 145, 3) := by decide +kernel
theorem dX10_rate_24 : decode cX10_rate 24 = .ok (.ireturn, 1) := by decide +kernel
theorem dX10_rate_25 : decode cX10_rate 25 = .ok (.iload_n 2, 1) := by decide +kernel
theorem dX10_rate_26 : decode cX10_rate 26 = .ok (.sipush 300, 3) := by decide +kernel
theorem dX10_rate_29 : decode cX10_rate 29 = .ok (.if_icmp .le 10, 3) := by decide +kernel
theorem dX10_rate_32 : decode cX10_rate 32 = .ok (.aload_n 0, 1) := by decide +kernel
theorem dX10_rate_33 : decode cX10_rate 33 = .ok (.bipush (-6), 2) := by decide +kernel
theorem dX10_rate_35 : decode cX10_rate 35 = .ok (.invokevirtual 145, 3) := by decide +kernel
theorem dX10_rate_38 : decode cX10_rate 38 = .ok (.ireturn, 1) := by decide +kernel
theorem dX10_rate_39 : decode cX10_rate 39 = .ok (.iconst (-1), 1) := by decide +kernel
theorem dX10_rate_40 : decode cX10_rate 40 = .ok (.istore_n 3, 1) := by decide +kernel
theorem dX10_rate_41 : decode cX10_rate 41 = .ok (.iconst 0, 1) := by decide +kernel
theorem dX10_rate_42 : decode cX10_rate 42 = .ok (.istore 4, 2) := by decide +kernel
theorem dX10_rate_44 : decode cX10_rate 44 = .ok (.iload 4, 2) := by decide +kernel
theorem dX10_rate_46 : decode cX10_rate 46 = .ok (.aload_n 0, 1) := by decide +kernel
theorem dX10_rate_47 : decode cX10_rate 47 = .ok (.getfield 257, 3) := by decide +kernel
theorem dX10_rate_50 : decode cX10_rate 50 = .ok (.if_icmp .ge 47, 3) := by decide +kernel
theorem dX10_rate_53 : decode cX10_rate 53 = .ok (.aload_n 0, 1) := by decide +kernel
theorem dX10_rate_54 : decode cX10_rate 54 = .ok (.getfield 108, 3) := by decide +kernel
theorem dX10_rate_57 : decode cX10_rate 57 = .ok (.iload 4, 2) := by decide +kernel
theorem dX10_rate_59 : decode cX10_rate 59 = .ok (.iaload, 1) := by decide +kernel
theorem dX10_rate_60 : decode cX10_rate 60 = .ok (.iload_n 2, 1) := by decide +kernel
theorem dX10_rate_61 : decode cX10_rate 61 = .ok (.if_icmp .gt 28, 3) := by decide +kernel
theorem dX10_rate_64 : decode cX10_rate 64 = .ok (.iload_n 3, 1) := by decide +kernel
theorem dX10_rate_65 : decode cX10_rate 65 = .ok (.ifCond .lt 19, 3) := by decide +kernel
theorem dX10_rate_68 : decode cX10_rate 68 = .ok (.aload_n 0, 1) := by decide +kernel
theorem dX10_rate_69 : decode cX10_rate 69 = .ok (.getfield 108, 3) := by decide +kernel
theorem dX10_rate_72 : decode cX10_rate 72 = .ok (.iload 4, 2) := by decide +kernel
theorem dX10_rate_74 : decode cX10_rate 74 = .ok (.iaload, 1) := by decide +kernel
theorem dX10_rate_75 : decode cX10_rate 75 = .ok (.aload_n 0, 1) := by decide +kernel
theorem dX10_rate_76 : decode cX10_rate 76 = .ok (.getfield 108, 3) := by decide +kernel
theorem dX10_rate_79 : decode cX10_rate 79 = .ok (.iload_n 3, 1) := by decide +kernel
theorem dX10_rate_80 : decode cX10_rate 80 = .ok (.iaload, 1) := by decide +kernel
theorem dX10_rate_81 : decode cX10_rate 81 = .ok (.if_icmp .lt 8, 3) := by decide +kernel
theorem dX10_rate_84 : decode cX10_rate 84 = .ok (.iload 4, 2) := by decide +kernel
theorem dX10_rate_86 : decode cX10_rate 86 = .ok (.goto 4, 3) := by decide +kernel
theorem dX10_rate_89 : decode cX10_rate 89 = .ok (.iload_n 3, 1) := by decide +kernel
theorem dX10_rate_90 : decode cX10_rate 90 = .ok (.istore_n 3, 1) := by decide +kernel
theorem dX10_rate_91 : decode cX10_rate 91 = .ok (.iinc 4 1, 3) := by decide +kernel
theorem dX10_rate_94 : decode cX10_rate 94 = .ok (.goto (-50), 3) := by decide +kernel
theorem dX10_rate_97 : decode cX10_rate 97 = .ok (.iload_n 3, 1) := by decide +kernel
theorem dX10_rate_98 : decode cX10_rate 98 = .ok (.ifCond .ge 7, 3) := by decide +kernel
theorem dX10_rate_101 : decode cX10_rate 101 = .ok (.iconst 0, 1) := by decide +kernel
theorem dX10_rate_102 : decode cX10_rate 102 = .ok (.goto 40, 3) := by decide +kernel
theorem dX10_rate_105 : decode cX10_rate 105 = .ok (.aload_n 0, 1) := by decide +kernel
theorem dX10_rate_106 : decode cX10_rate 106 = .ok (.getfield 99, 3) := by decide +kernel
theorem dX10_rate_109 : decode cX10_rate 109 = .ok (.iload_n 3, 1) := by decide +kernel
theorem dX10_rate_110 : decode cX10_rate 110 = .ok (.iaload, 1) := by decide +kernel
theorem dX10_rate_111 : decode cX10_rate 111 = .ok (.aload_n 0, 1) := by decide +kernel
theorem dX10_rate_112 : decode cX10_rate 112 = .ok (.getfield 102, 3) := by decide +kernel
theorem dX10_rate_115 : decode cX10_rate 115 = .ok (.iload_n 3, 1) := by decide +kernel
theorem dX10_rate_116 : decode cX10_rate 116 = .ok (.iaload, 1) := by decide +kernel
theorem dX10_rate_117 : decode cX10_rate 117 = .ok (.aload_n 0, 1) := by decide +kernel
theorem dX10_rate_118 : decode cX10_rate 118 = .ok (.getfield 51, 3) := by decide +kernel
theorem dX10_rate_121 : decode cX10_rate 121 = .ok (.iload_n 1, 1) := by decide +kernel
theorem dX10_rate_122 : decode cX10_rate 122 = .ok (.iaload, 1) := by decide +kernel
theorem dX10_rate_123 : decode cX10_rate 123 = .ok (.imul, 1) := by decide +kernel
theorem dX10_rate_124 : decode cX10_rate 124 = .ok (.iadd, 1) := by decide +kernel
theorem dX10_rate_125 : decode cX10_rate 125 = .ok (.aload_n 0, 1) := by decide +kernel
theorem dX10_rate_126 : decode cX10_rate 126 = .ok (.getfield 105, 3) := by decide +kernel
theorem dX10_rate_129 : decode cX10_rate 129 = .ok (.iload_n 3, 1) := by decide +kernel
theorem dX10_rate_130 : decode cX10_rate 130 = .ok (.iaload, 1) := by decide +kernel
theorem dX10_rate_131 : decode cX10_rate 131 = .ok (.aload_n 0, 1) := by decide +kernel
theorem dX10_rate_132 : decode cX10_rate 132 = .ok (.getfield 48, 3) := by decide +kernel
theorem dX10_rate_135 : decode cX10_rate 135 = .ok (.iload_n 1, 1) := by decide +kernel
theorem dX10_rate_136 : decode cX10_rate 136 = .ok (.iaload, 1) := by decide +kernel
theorem dX10_rate_137 : decode cX10_rate 137 = .ok (.bipush 10, 2) := by decide +kernel
theorem dX10_rate_139 : decode cX10_rate 139 = .ok (.idiv, 1) := by decide +kernel
theorem dX10_rate_140 : decode cX10_rate 140 = .ok (.imul, 1) := by decide +kernel
theorem dX10_rate_141 : decode cX10_rate 141 = .ok (.iadd, 1) := by decide +kernel
theorem dX10_rate_142 : decode cX10_rate 142 = .ok (.ireturn, 1) := by decide +kernel
theorem dX10_houseOf_0 : decode cX10_houseOf 0 = .ok (.aload_n 0, 1) := by decide +kernel
theorem dX10_houseOf_1 : decode cX10_houseOf 1 = .ok (.iload_n 1, 1) := by decide +kernel
theorem dX10_houseOf_2 : decode cX10_houseOf 2 = .ok (.invokevirtual 160, 3) := by decide +kernel
theorem dX10_houseOf_5 : decode cX10_houseOf 5 = .ok (.ifCond .ne 9, 3) := by decide +kernel
theorem dX10_houseOf_8 : decode cX10_houseOf 8 = .ok (.aload_n 0, 1) := by decide +kernel
theorem dX10_houseOf_9 : decode cX10_houseOf 9 = .ok (.iconst (-1), 1) := by decide +kernel
theorem dX10_houseOf_10 : decode cX10_houseOf 10 = .ok (.invokevirtual 145, 3) := by decide +kernel
theorem dX10_houseOf_13 : decode cX10_houseOf 13 = .ok (.ireturn, 1) := by decide +kernel
theorem dX10_houseOf_14 : decode cX10_houseOf 14 = .ok (.iload_n 2, 1) := by decide +kernel
theorem dX10_houseOf_15 : decode cX10_houseOf 15 = .ok (.tableswitch 56 0 3 #[29, 36, 43, 49], 29) := by decide +kernel
theorem dX10_houseOf_44 : decode cX10_houseOf 44 = .ok (.aload_n 0, 1) := by decide +kernel
theorem dX10_houseOf_45 : decode cX10_houseOf 45 = .ok (.getfield 63, 3) := by decide +kernel
theorem dX10_houseOf_48 : decode cX10_houseOf 48 = .ok (.iload_n 1, 1) := by decide +kernel
theorem dX10_houseOf_49 : decode cX10_houseOf 49 = .ok (.iaload, 1) := by decide +kernel
theorem dX10_houseOf_50 : decode cX10_houseOf 50 = .ok (.ireturn, 1) := by decide +kernel
theorem dX10_houseOf_51 : decode cX10_houseOf 51 = .ok (.aload_n 0, 1) := by decide +kernel
theorem dX10_houseOf_52 : decode cX10_houseOf 52 = .ok (.getfield 66, 3) := by decide +kernel
theorem dX10_houseOf_55 : decode cX10_houseOf 55 = .ok (.iload_n 1, 1) := by decide +kernel
theorem dX10_houseOf_56 : decode cX10_houseOf 56 = .ok (.iaload, 1) := by decide +kernel
theorem dX10_houseOf_57 : decode cX10_houseOf 57 = .ok (.ireturn, 1) := by decide +kernel
theorem dX10_houseOf_58 : decode cX10_houseOf 58 = .ok (.aload_n 0, 1) := by decide +kernel
theorem dX10_houseOf_59 : decode cX10_houseOf 59 = .ok (.iload_n 1, 1) := by decide +kernel
theorem dX10_houseOf_60 : decode cX10_houseOf 60 = .ok (.invokevirtual 221, 3) := by decide +kernel
theorem dX10_houseOf_63 : decode cX10_houseOf 63 = .ok (.ireturn, 1) := by decide +kernel
theorem dX10_houseOf_64 : decode cX10_houseOf 64 = .ok (.aload_n 0, 1) := by decide +kernel
theorem dX10_houseOf_65 : decode cX10_houseOf 65 = .ok (.getfield 45, 3) := by decide +kernel
theorem dX10_houseOf_68 : decode cX10_houseOf 68 = .ok (.iload_n 1, 1) := by decide +kernel
theorem dX10_houseOf_69 : decode cX10_houseOf 69 = .ok (.iaload, 1) := by decide +kernel
theorem dX10_houseOf_70 : decode cX10_houseOf 70 = .ok (.ireturn, 1) := by decide +kernel
theorem dX10_houseOf_71 : decode cX10_houseOf 71 = .ok (.aload_n 0, 1) := by decide +kernel
theorem dX10_houseOf_72 : decode cX10_houseOf 72 = .ok (.bipush (-2), 2) := by decide +kernel
theorem dX10_houseOf_74 : decode cX10_houseOf 74 = .ok (.invokevirtual 145, 3) := by decide +kernel
theorem dX10_houseOf_77 : decode cX10_houseOf 77 = .ok (.ireturn, 1) := by decide +kernel
theorem dX10_streetOf_0 : decode cX10_streetOf 0 = .ok (.aload_n 0, 1) := by decide +kernel
theorem dX10_streetOf_1 : decode cX10_streetOf 1 = .ok (.iload_n 1, 1) := by decide +kernel
theorem dX10_streetOf_2 : decode cX10_streetOf 2 = .ok (.invokevirtual 156, 3) := by decide +kernel
theorem dX10_streetOf_5 : decode cX10_streetOf 5 = .ok (.ifCond .ne 9, 3) := by decide +kernel
theorem dX10_streetOf_8 : decode cX10_streetOf 8 = .ok (.aload_n 0, 1) := by decide +kernel
theorem dX10_streetOf_9 : decode cX10_streetOf 9 = .ok (.iconst (-1), 1) := by decide +kernel
theorem dX10_streetOf_10 : decode cX10_streetOf 10 = .ok (.invokevirtual 145, 3) := by decide +kernel
theorem dX10_streetOf_13 : decode cX10_streetOf 13 = .ok (.ireturn, 1) := by decide +kernel
theorem dX10_streetOf_14 : decode cX10_streetOf 14 = .ok (.iload_n 2, 1) := by decide +kernel
theorem dX10_streetOf_15 : decode cX10_streetOf 15 = .ok (.tableswitch 118 0 6 #[41, 48, 55, 61, 76, 97, 112], 41) := by decide +kernel
theorem dX10_streetOf_56 : decode cX10_streetOf 56 = .ok (.aload_n 0, 1) := by decide +kernel
theorem dX10_streetOf_57 : decode cX10_streetOf 57 = .ok (.getfield 33, 3) := by decide +kernel
theorem dX10_streetOf_60 : decode cX10_streetOf 60 = .ok (.iload_n 1, 1) := by decide +kernel
theorem dX10_streetOf_61 : decode cX10_streetOf 61 = .ok (.iaload, 1) := by decide +kernel
theorem dX10_streetOf_62 : decode cX10_streetOf 62 = .ok (.ireturn, 1) := by decide +kernel
theorem dX10_streetOf_63 : decode cX10_streetOf 63 = .ok (.aload_n 0, 1) := by decide +kernel
theorem dX10_streetOf_64 : decode cX10_streetOf 64 = .ok (.getfield 39, 3) := by decide +kernel
theorem dX10_streetOf_67 : decode cX10_streetOf 67 = .ok (.iload_n 1, 1) := by decide +kernel
theorem dX10_streetOf_68 : decode cX10_streetOf 68 = .ok (.iaload, 1) := by decide +kernel
theorem dX10_streetOf_69 : decode cX10_streetOf 69 = .ok (.ireturn, 1) := by decide +kernel
theorem dX10_streetOf_70 : decode cX10_streetOf 70 = .ok (.aload_n 0, 1) := by decide +kernel
theorem dX10_streetOf_71 : decode cX10_streetOf 71 = .ok (.iload_n 1, 1) := by decide +kernel
theorem dX10_streetOf_72 : decode cX10_streetOf 72 = .ok (.invokevirtual 212, 3) := by decide +kernel
theorem dX10_streetOf_75 : decode cX10_streetOf 75 = .ok (.ireturn, 1) := by decide +kernel
theorem dX10_streetOf_76 : decode cX10_streetOf 76 = .ok (.aload_n 0, 1) := by decide +kernel
theorem dX10_streetOf_77 : decode cX10_streetOf 77 = .ok (.getfield 29, 3) := by decide +kernel
theorem dX10_streetOf_80 : decode cX10_streetOf 80 = .ok (.iload_n 1, 1) := by decide +kernel
theorem dX10_streetOf_81 : decode cX10_streetOf 81 = .ok (.baload, 1) := by decide +kernel
theorem dX10_streetOf_82 : decode cX10_streetOf 82 = .ok (.ifCond .eq 7, 3) := by decide +kernel
theorem dX10_streetOf_85 : decode cX10_streetOf 85 = .ok (.iconst 1, 1) := by decide +kernel
theorem dX10_streetOf_86 : decode cX10_streetOf 86 = .ok (.goto 4, 3) := by decide +kernel
theorem dX10_streetOf_89 : decode cX10_streetOf 89 = .ok (.iconst 0, 1) := by decide +kernel
theorem dX10_streetOf_90 : decode cX10_streetOf 90 = .ok (.ireturn, 1) := by decide +kernel
theorem dX10_streetOf_91 : decode cX10_streetOf 91 = .ok (.aload_n 0, 1) := by decide +kernel
theorem dX10_streetOf_92 : decode cX10_streetOf 92 = .ok (.getfield 19, 3) := by decide +kernel
theorem dX10_streetOf_95 : decode cX10_streetOf 95 = .ok (.iload_n 1, 1) := by decide +kernel
theorem dX10_streetOf_96 : decode cX10_streetOf 96 = .ok (.iaload, 1) := by decide +kernel
theorem dX10_streetOf_97 : decode cX10_streetOf 97 = .ok (.ifCond .ge 8, 3) := by decide +kernel
theorem dX10_streetOf_100 : decode cX10_streetOf 100 = .ok (.bipush (-9), 2) := by decide +kernel
theorem dX10_streetOf_102 : decode cX10_streetOf 102 = .ok (.goto 9, 3) := by decide +kernel
theorem dX10_streetOf_105 : decode cX10_streetOf 105 = .ok (.aload_n 0, 1) := by decide +kernel
theorem dX10_streetOf_106 : decode cX10_streetOf 106 = .ok (.getfield 19, 3) := by decide +kernel
theorem dX10_streetOf_109 : decode cX10_streetOf 109 = .ok (.iload_n 1, 1) := by decide +kernel
theorem dX10_streetOf_110 : decode cX10_streetOf 110 = .ok (.iaload, 1) := by decide +kernel
theorem dX10_streetOf_111 : decode cX10_streetOf 111 = .ok (.ireturn, 1) := by decide +kernel
theorem dX10_streetOf_112 : decode cX10_streetOf 112 = .ok (.aload_n 0, 1) := by decide +kernel
theorem dX10_streetOf_113 : decode cX10_streetOf 113 = .ok (.getfield 42, 3) := by decide +kernel
theorem dX10_streetOf_116 : decode cX10_streetOf 116 = .ok (.iload_n 1, 1) := by decide +kernel
theorem dX10_streetOf_117 : decode cX10_streetOf 117 = .ok (.baload, 1) := by decide +kernel
theorem dX10_streetOf_118 : decode cX10_streetOf 118 = .ok (.ifCond .eq 7, 3) := by decide +kernel
theorem dX10_streetOf_121 : decode cX10_streetOf 121 = .ok (.iconst 1, 1) := by decide +kernel
theorem dX10_streetOf_122 : decode cX10_streetOf 122 = .ok (.goto 4, 3) := by decide +kernel
theorem dX10_streetOf_125 : decode cX10_streetOf 125 = .ok (.iconst 0, 1) := by decide +kernel
theorem dX10_streetOf_126 : decode cX10_streetOf 126 = .ok (.ireturn, 1) := by decide +kernel
theorem dX10_streetOf_127 : decode cX10_streetOf 127 = .ok (.aload_n 0, 1) := by decide +kernel
theorem dX10_streetOf_128 : decode cX10_streetOf 128 = .ok (.iload_n 1, 1) := by decide +kernel
theorem dX10_streetOf_129 : decode cX10_streetOf 129 = .ok (.invokevirtual 248, 3) := by decide +kernel
theorem dX10_streetOf_132 : decode cX10_streetOf 132 = .ok (.ireturn, 1) := by decide +kernel
theorem dX10_streetOf_133 : decode cX10_streetOf 133 = .ok (.aload_n 0, 1) := by decide +kernel
theorem dX10_streetOf_134 : decode cX10_streetOf 134 = .ok (.bipush (-2), 2) := by decide +kernel
theorem dX10_streetOf_136 : decode cX10_streetOf 136 = .ok (.invokevirtual 145, 3) := by decide +kernel
theorem dX10_streetOf_139 : decode cX10_streetOf 139 = .ok (.ireturn, 1) := by decide +kernel
theorem dX10_count_0 : decode cX10_count 0 = .ok (.iload_n 1, 1) := by decide +kernel
theorem dX10_count_1 : decode cX10_count 1 = .ok (.tableswitch 160 0 19 #[95, 100, 105, 110, 115, 120, 125, 130, 135, 140, 145, 160, 160, 160, 160, 160, 160, 160, 150, 155], 95) := by decide +kernel
theorem dX10_count_96 : decode cX10_count 96 = .ok (.aload_n 0, 1) := by decide +kernel
theorem dX10_count_97 : decode cX10_count 97 = .ok (.getfield 149, 3) := by decide +kernel
theorem dX10_count_100 : decode cX10_count 100 = .ok (.ireturn, 1) := by decide +kernel
theorem dX10_count_101 : decode cX10_count 101 = .ok (.aload_n 0, 1) := by decide +kernel
theorem dX10_count_102 : decode cX10_count 102 = .ok (.getfield 135, 3) := by decide +kernel
theorem dX10_count_105 : decode cX10_count 105 = .ok (.ireturn, 1) := by decide +kernel
theorem dX10_count_106 : decode cX10_count 106 = .ok (.aload_n 0, 1) := by decide +kernel
theorem dX10_count_107 : decode cX10_count 107 = .ok (.getfield 142, 3) := by decide +kernel
theorem dX10_count_110 : decode cX10_count 110 = .ok (.ireturn, 1) := by decide +kernel
theorem dX10_count_111 : decode cX10_count 111 = .ok (.aload_n 0, 1) := by decide +kernel
theorem dX10_count_112 : decode cX10_count 112 = .ok (.getfield 153, 3) := by decide +kernel
theorem dX10_count_115 : decode cX10_count 115 = .ok (.ireturn, 1) := by decide +kernel
theorem dX10_count_116 : decode cX10_count 116 = .ok (.aload_n 0, 1) := by decide +kernel
theorem dX10_count_117 : decode cX10_count 117 = .ok (.getfield 209, 3) := by decide +kernel
theorem dX10_count_120 : decode cX10_count 120 = .ok (.ireturn, 1) := by decide +kernel
theorem dX10_count_121 : decode cX10_count 121 = .ok (.aload_n 0, 1) := by decide +kernel
theorem dX10_count_122 : decode cX10_count 122 = .ok (.getfield 196, 3) := by decide +kernel
theorem dX10_count_125 : decode cX10_count 125 = .ok (.ireturn, 1) := by decide +kernel
theorem dX10_count_126 : decode cX10_count 126 = .ok (.aload_n 0, 1) := by decide +kernel
theorem dX10_count_127 : decode cX10_count 127 = .ok (.getfield 193, 3) := by decide +kernel
theorem dX10_count_130 : decode cX10_count 130 = .ok (.ireturn, 1) := by decide +kernel
theorem dX10_count_131 : decode cX10_count 131 = .ok (.aload_n 0, 1) := by decide +kernel
theorem dX10_count_132 : decode cX10_count 132 = .ok (.getfield 218, 3) := by decide +kernel
theorem dX10_count_135 : decode cX10_count 135 = .ok (.ireturn, 1) := by decide +kernel
theorem dX10_count_136 : decode cX10_count 136 = .ok (.aload_n 0, 1) := by decide +kernel
theorem dX10_count_137 : decode cX10_count 137 = .ok (.getfield 164, 3) := by decide +kernel
theorem dX10_count_140 : decode cX10_count 140 = .ok (.ireturn, 1) := by decide +kernel
theorem dX10_count_141 : decode cX10_count 141 = .ok (.aload_n 0, 1) := by decide +kernel
theorem dX10_count_142 : decode cX10_count 142 = .ok (.getfield 227, 3) := by decide +kernel
theorem dX10_count_145 : decode cX10_count 145 = .ok (.ireturn, 1) := by decide +kernel
theorem dX10_count_146 : decode cX10_count 146 = .ok (.aload_n 0, 1) := by decide +kernel
theorem dX10_count_147 : decode cX10_count 147 = .ok (.getfield 257, 3) := by decide +kernel
theorem dX10_count_150 : decode cX10_count 150 = .ok (.ireturn, 1) := by decide +kernel
theorem dX10_count_151 : decode cX10_count 151 = .ok (.aload_n 0, 1) := by decide +kernel
theorem dX10_count_152 : decode cX10_count 152 = .ok (.getfield 206, 3) := by decide +kernel
theorem dX10_count_155 : decode cX10_count 155 = .ok (.ireturn, 1) := by decide +kernel
theorem dX10_count_156 : decode cX10_count 156 = .ok (.aload_n 0, 1) := by decide +kernel
theorem dX10_count_157 : decode cX10_count 157 = .ok (.getfield 199, 3) := by decide +kernel
theorem dX10_count_160 : decode cX10_count 160 = .ok (.ireturn, 1) := by decide +kernel
theorem dX10_count_161 : decode cX10_count 161 = .ok (.iload_n 1, 1) := by decide +kernel
theorem dX10_count_162 : decode cX10_count 162 = .ok (.bipush 11, 2) := by decide +kernel
theorem dX10_count_164 : decode cX10_count 164 = .ok (.bipush 17, 2) := by decide +kernel
theorem dX10_count_166 : decode cX10_count 166 = .ok (.invokestatic 138, 3) := by decide +kernel
theorem dX10_count_169 : decode cX10_count 169 = .ok (.ifCond .eq 15, 3) := by decide +kernel
theorem dX10_count_172 : decode cX10_count 172 = .ok (.aload_n 0, 1) := by decide +kernel
theorem dX10_count_173 : decode cX10_count 173 = .ok (.getfield 111, 3) := by decide +kernel
theorem dX10_count_176 : decode cX10_count 176 = .ok (.iload_n 1, 1) := by decide +kernel
theorem dX10_count_177 : decode cX10_count 177 = .ok (.bipush 10, 2) := by decide +kernel
theorem dX10_count_179 : decode cX10_count 179 = .ok (.isub, 1) := by decide +kernel
theorem dX10_count_180 : decode cX10_count 180 = .ok (.iaload, 1) := by decide +kernel
theorem dX10_count_181 : decode cX10_count 181 = .ok (.goto 5, 3) := by decide +kernel
theorem dX10_count_184 : decode cX10_count 184 = .ok (.bipush (-9), 2) := by decide +kernel
theorem dX10_count_186 : decode cX10_count 186 = .ok (.ireturn, 1) := by decide +kernel
theorem dJ6_numberOfLeadingZeros_0f7a4_0 : decode cJ6_numberOfLeadingZeros_0f7a4 0 = .ok (.iload_n 0, 1) := by decide +kernel
theorem dJ6_numberOfLeadingZeros_0f7a4_1 : decode cJ6_numberOfLeadingZeros_0f7a4 1 = .ok (.ifCond .gt 14, 3) := by decide +kernel
theorem dJ6_numberOfLeadingZeros_0f7a4_4 : decode cJ6_numberOfLeadingZeros_0f7a4 4 = .ok (.iload_n 0, 1) := by decide +kernel
theorem dJ6_numberOfLeadingZeros_0f7a4_5 : decode cJ6_numberOfLeadingZeros_0f7a4 5 = .ok (.ifCond .ne 8, 3) := by decide +kernel
theorem dJ6_numberOfLeadingZeros_0f7a4_8 : decode cJ6_numberOfLeadingZeros_0f7a4 8 = .ok (.bipush 32, 2) := by decide +kernel
theorem dJ6_numberOfLeadingZeros_0f7a4_10 : decode cJ6_numberOfLeadingZeros_0f7a4 10 = .ok (.goto 4, 3) := by decide +kernel
theorem dJ6_numberOfLeadingZeros_0f7a4_13 : decode cJ6_numberOfLeadingZeros_0f7a4 13 = .ok (.iconst 0, 1) := by decide +kernel
theorem dJ6_numberOfLeadingZeros_0f7a4_14 : decode cJ6_numberOfLeadingZeros_0f7a4 14 = .ok (.ireturn, 1) := by decide +kernel
theorem dJ6_numberOfLeadingZeros_0f7a4_15 : decode cJ6_numberOfLeadingZeros_0f7a4 15 = .ok (.bipush 31, 2) := by decide +kernel
theorem dJ6_numberOfLeadingZeros_0f7a4_17 : decode cJ6_numberOfLeadingZeros_0f7a4 17 = .ok (.istore_n 1, 1) := by decide +kernel
theorem dJ6_numberOfLeadingZeros_0f7a4_18 : decode cJ6_numberOfLeadingZeros_0f7a4 18 = .ok (.iload_n 0, 1) := by decide +kernel
theorem dJ6_numberOfLeadingZeros_0f7a4_19 : decode cJ6_numberOfLeadingZeros_0f7a4 19 = .ok (.ldc_w 264, 3) := by decide +kernel
theorem dJ6_numberOfLeadingZeros_0f7a4_22 : decode cJ6_numberOfLeadingZeros_0f7a4 22 = .ok (.if_icmp .lt 11, 3) := by decide +kernel
theorem dJ6_numberOfLeadingZeros_0f7a4_25 : decode cJ6_numberOfLeadingZeros_0f7a4 25 = .ok (.iinc 1 (-16), 3) := by decide +kernel
theorem dJ6_numberOfLeadingZeros_0f7a4_28 : decode cJ6_numberOfLeadingZeros_0f7a4 28 = .ok (.iload_n 0, 1) := by decide +kernel
theorem dJ6_numberOfLeadingZeros_0f7a4_29 : decode cJ6_numberOfLeadingZeros_0f7a4 29 = .ok (.bipush 16, 2) := by decide +kernel
theorem dJ6_numberOfLeadingZeros_0f7a4_31 : decode cJ6_numberOfLeadingZeros_0f7a4 31 = .ok (.iushr, 1) := by decide +kernel
theorem dJ6_numberOfLeadingZeros_0f7a4_32 : decode cJ6_numberOfLeadingZeros_0f7a4 32 = .ok (.istore_n 0, 1) := by decide +kernel
theorem dJ6_numberOfLeadingZeros_0f7a4_33 : decode cJ6_numberOfLeadingZeros_0f7a4 33 = .ok (.iload_n 0, 1) := by decide +kernel
theorem dJ6_numberOfLeadingZeros_0f7a4_34 : decode cJ6_numberOfLeadingZeros_0f7a4 34 = .ok (.sipush 256, 3) := by decide +kernel
theorem dJ6_numberOfLeadingZeros_0f7a4_37 : decode cJ6_numberOfLeadingZeros_0f7a4 37 = .ok (.if_icmp .lt 11, 3) := by decide +kernel
theorem dJ6_numberOfLeadingZeros_0f7a4_40 : decode cJ6_numberOfLeadingZeros_0f7a4 40 = .ok (.iinc 1 (-8), 3) := by decide +kernel
theorem dJ6_numberOfLeadingZeros_0f7a4_43 : decode cJ6_numberOfLeadingZeros_0f7a4 43 = .ok (.iload_n 0, 1) := by decide +kernel
theorem dJ6_numberOfLeadingZeros_0f7a4_44 : decode cJ6_numberOfLeadingZeros_0f7a4 44 = .ok (.bipush 8, 2) := by decide +kernel
theorem dJ6_numberOfLeadingZeros_0f7a4_46 : decode cJ6_numberOfLeadingZeros_0f7a4 46 = .ok (.iushr, 1) := by decide +kernel
theorem dJ6_numberOfLeadingZeros_0f7a4_47 : decode cJ6_numberOfLeadingZeros_0f7a4 47 = .ok (.istore_n 0, 1) := by decide +kernel
theorem dJ6_numberOfLeadingZeros_0f7a4_48 : decode cJ6_numberOfLeadingZeros_0f7a4 48 = .ok (.iload_n 0, 1) := by decide +kernel
theorem dJ6_numberOfLeadingZeros_0f7a4_49 : decode cJ6_numberOfLeadingZeros_0f7a4 49 = .ok (.bipush 16, 2) := by decide +kernel
theorem dJ6_numberOfLeadingZeros_0f7a4_51 : decode cJ6_numberOfLeadingZeros_0f7a4 51 = .ok (.if_icmp .lt 10, 3) := by decide +kernel
theorem dJ6_numberOfLeadingZeros_0f7a4_54 : decode cJ6_numberOfLeadingZeros_0f7a4 54 = .ok (.iinc 1 (-4), 3) := by decide +kernel
theorem dJ6_numberOfLeadingZeros_0f7a4_57 : decode cJ6_numberOfLeadingZeros_0f7a4 57 = .ok (.iload_n 0, 1) := by decide +kernel
theorem dJ6_numberOfLeadingZeros_0f7a4_58 : decode cJ6_numberOfLeadingZeros_0f7a4 58 = .ok (.iconst 4, 1) := by decide +kernel
theorem dJ6_numberOfLeadingZeros_0f7a4_59 : decode cJ6_numberOfLeadingZeros_0f7a4 59 = .ok (.iushr, 1) := by decide +kernel
theorem dJ6_numberOfLeadingZeros_0f7a4_60 : decode cJ6_numberOfLeadingZeros_0f7a4 60 = .ok (.istore_n 0, 1) := by decide +kernel
theorem dJ6_numberOfLeadingZeros_0f7a4_61 : decode cJ6_numberOfLeadingZeros_0f7a4 61 = .ok (.iload_n 0, 1) := by decide +kernel
theorem dJ6_numberOfLeadingZeros_0f7a4_62 : decode cJ6_numberOfLeadingZeros_0f7a4 62 = .ok (.iconst 4, 1) := by decide +kernel
theorem dJ6_numberOfLeadingZeros_0f7a4_63 : decode cJ6_numberOfLeadingZeros_0f7a4 63 = .ok (.if_icmp .lt 10, 3) := by decide +kernel
theorem dJ6_numberOfLeadingZeros_0f7a4_66 : decode cJ6_numberOfLeadingZeros_0f7a4 66 = .ok (.iinc 1 (-2), 3) := by decide +kernel
theorem dJ6_numberOfLeadingZeros_0f7a4_69 : decode cJ6_numberOfLeadingZeros_0f7a4 69 = .ok (.iload_n 0, 1) := by decide +kernel
theorem dJ6_numberOfLeadingZeros_0f7a4_70 : decode cJ6_numberOfLeadingZeros_0f7a4 70 = .ok (.iconst 2, 1) := by decide +kernel
theorem dJ6_numberOfLeadingZeros_0f7a4_71 : decode cJ6_numberOfLeadingZeros_0f7a4 71 = .ok (.iushr, 1) := by decide +kernel
theorem dJ6_numberOfLeadingZeros_0f7a4_72 : decode cJ6_numberOfLeadingZeros_0f7a4 72 = .ok (.istore_n 0, 1) := by decide +kernel
theorem dJ6_numberOfLeadingZeros_0f7a4_73 : decode cJ6_numberOfLeadingZeros_0f7a4 73 = .ok (.iload_n 1, 1) := by decide +kernel
theorem dJ6_numberOfLeadingZeros_0f7a4_74 : decode cJ6_numberOfLeadingZeros_0f7a4 74 = .ok (.iload_n 0, 1) := by decide +kernel
theorem dJ6_numberOfLeadingZeros_0f7a4_75 : decode cJ6_numberOfLeadingZeros_0f7a4 75 = .ok (.iconst 1, 1) := by decide +kernel
theorem dJ6_numberOfLeadingZeros_0f7a4_76 : decode cJ6_numberOfLeadingZeros_0f7a4 76 = .ok (.iushr, 1) := by decide +kernel
theorem dJ6_numberOfLeadingZeros_0f7a4_77 : decode cJ6_numberOfLeadingZeros_0f7a4 77 = .ok (.isub, 1) := by decide +kernel
theorem dJ6_numberOfLeadingZeros_0f7a4_78 : decode cJ6_numberOfLeadingZeros_0f7a4 78 = .ok (.ireturn, 1) := by decide +kernel
theorem dJ6_numberOfTrailingZeros_0f7a4_0 : decode cJ6_numberOfTrailingZeros_0f7a4 0 = .ok (.iload_n 0, 1) := by decide +kernel
theorem dJ6_numberOfTrailingZeros_0f7a4_1 : decode cJ6_numberOfTrailingZeros_0f7a4 1 = .ok (.iconst (-1), 1) := by decide +kernel
theorem dJ6_numberOfTrailingZeros_0f7a4_2 : decode cJ6_numberOfTrailingZeros_0f7a4 2 = .ok (.ixor, 1) := by decide +kernel
theorem dJ6_numberOfTrailingZeros_0f7a4_3 : decode cJ6_numberOfTrailingZeros_0f7a4 3 = .ok (.iload_n 0, 1) := by decide +kernel
theorem dJ6_numberOfTrailingZeros_0f7a4_4 : decode cJ6_numberOfTrailingZeros_0f7a4 4 = .ok (.iconst 1, 1) := by decide +kernel
theorem dJ6_numberOfTrailingZeros_0f7a4_5 : decode cJ6_numberOfTrailingZeros_0f7a4 5 = .ok (.isub, 1) := by decide +kernel
theorem dJ6_numberOfTrailingZeros_0f7a4_6 : decode cJ6_numberOfTrailingZeros_0f7a4 6 = .ok (.iand, 1) := by decide +kernel
theorem dJ6_numberOfTrailingZeros_0f7a4_7 : decode cJ6_numberOfTrailingZeros_0f7a4 7 = .ok (.istore_n 0, 1) := by decide +kernel
theorem dJ6_numberOfTrailingZeros_0f7a4_8 : decode cJ6_numberOfTrailingZeros_0f7a4 8 = .ok (.iload_n 0, 1) := by decide +kernel
theorem dJ6_numberOfTrailingZeros_0f7a4_9 : decode cJ6_numberOfTrailingZeros_0f7a4 9 = .ok (.ifCond .gt 8, 3) := by decide +kernel
theorem dJ6_numberOfTrailingZeros_0f7a4_12 : decode cJ6_numberOfTrailingZeros_0f7a4 12 = .ok (.iload_n 0, 1) := by decide +kernel
theorem dJ6_numberOfTrailingZeros_0f7a4_13 : decode cJ6_numberOfTrailingZeros_0f7a4 13 = .ok (.bipush 32, 2) := by decide +kernel
theorem dJ6_numberOfTrailingZeros_0f7a4_15 : decode cJ6_numberOfTrailingZeros_0f7a4 15 = .ok (.iand, 1) := by decide +kernel
theorem dJ6_numberOfTrailingZeros_0f7a4_16 : decode cJ6_numberOfTrailingZeros_0f7a4 16 = .ok (.ireturn, 1) := by decide +kernel
theorem dJ6_numberOfTrailingZeros_0f7a4_17 : decode cJ6_numberOfTrailingZeros_0f7a4 17 = .ok (.iconst 1, 1) := by decide +kernel
theorem dJ6_numberOfTrailingZeros_0f7a4_18 : decode cJ6_numberOfTrailingZeros_0f7a4 18 = .ok (.istore_n 1, 1) := by decide +kernel
theorem dJ6_numberOfTrailingZeros_0f7a4_19 : decode cJ6_numberOfTrailingZeros_0f7a4 19 = .ok (.iload_n 0, 1) := by decide +kernel
theorem dJ6_numberOfTrailingZeros_0f7a4_20 : decode cJ6_numberOfTrailingZeros_0f7a4 20 = .ok (.ldc_w 264, 3) := by decide +kernel
theorem dJ6_numberOfTrailingZeros_0f7a4_23 : decode cJ6_numberOfTrailingZeros_0f7a4 23 = .ok (.if_icmp .le 11, 3) := by decide +kernel
theorem dJ6_numberOfTrailingZeros_0f7a4_26 : decode cJ6_numberOfTrailingZeros_0f7a4 26 = .ok (.iinc 1 16, 3) := by decide +kernel
theorem dJ6_numberOfTrailingZeros_0f7a4_29 : decode cJ6_numberOfTrailingZeros_0f7a4 29 = .ok (.iload_n 0, 1) := by decide +kernel
theorem dJ6_numberOfTrailingZeros_0f7a4_30 : decode cJ6_numberOfTrailingZeros_0f7a4 30 = .ok (.bipush 16, 2) := by decide +kernel
theorem dJ6_numberOfTrailingZeros_0f7a4_32 : decode cJ6_numberOfTrailingZeros_0f7a4 32 = .ok (.iushr, 1) := by decide +kernel
theorem dJ6_numberOfTrailingZeros_0f7a4_33 : decode cJ6_numberOfTrailingZeros_0f7a4 33 = .ok (.istore_n 0, 1) := by decide +kernel
theorem dJ6_numberOfTrailingZeros_0f7a4_34 : decode cJ6_numberOfTrailingZeros_0f7a4 34 = .ok (.iload_n 0, 1) := by decide +kernel
theorem dJ6_numberOfTrailingZeros_0f7a4_35 : decode cJ6_numberOfTrailingZeros_0f7a4 35 = .ok (.sipush 256, 3) := by decide +kernel
theorem dJ6_numberOfTrailingZeros_0f7a4_38 : decode cJ6_numberOfTrailingZeros_0f7a4 38 = .ok (.if_icmp .le 11, 3) := by decide +kernel
theorem dJ6_numberOfTrailingZeros_0f7a4_41 : decode cJ6_numberOfTrailingZeros_0f7a4 41 = .ok (.iinc 1 8, 3) := by decide +kernel
theorem dJ6_numberOfTrailingZeros_0f7a4_44 : decode cJ6_numberOfTrailingZeros_0f7a4 44 = .ok (.iload_n 0, 1) := by decide +kernel
theorem dJ6_numberOfTrailingZeros_0f7a4_45 : decode cJ6_numberOfTrailingZeros_0f7a4 45 = .ok (.bipush 8, 2) := by decide +kernel
theorem dJ6_numberOfTrailingZeros_0f7a4_47 : decode cJ6_numberOfTrailingZeros_0f7a4 47 = .ok (.iushr, 1) := by decide +kernel
theorem dJ6_numberOfTrailingZeros_0f7a4_48 : decode cJ6_numberOfTrailingZeros_0f7a4 48 = .ok (.istore_n 0, 1) := by decide +kernel
theorem dJ6_numberOfTrailingZeros_0f7a4_49 : decode cJ6_numberOfTrailingZeros_0f7a4 49 = .ok (.iload_n 0, 1) := by decide +kernel
theorem dJ6_numberOfTrailingZeros_0f7a4_50 : decode cJ6_numberOfTrailingZeros_0f7a4 50 = .ok (.bipush 16, 2) := by decide +kernel
theorem dJ6_numberOfTrailingZeros_0f7a4_52 : decode cJ6_numberOfTrailingZeros_0f7a4 52 = .ok (.if_icmp .le 10, 3) := by decide +kernel
theorem dJ6_numberOfTrailingZeros_0f7a4_55 : decode cJ6_numberOfTrailingZeros_0f7a4 55 = .ok (.iinc 1 4, 3) := by decide +kernel
theorem dJ6_numberOfTrailingZeros_0f7a4_58 : decode cJ6_numberOfTrailingZeros_0f7a4 58 = .ok (.iload_n 0, 1) := by decide +kernel
theorem dJ6_numberOfTrailingZeros_0f7a4_59 : decode cJ6_numberOfTrailingZeros_0f7a4 59 = .ok (.iconst 4, 1) := by decide +kernel
theorem dJ6_numberOfTrailingZeros_0f7a4_60 : decode cJ6_numberOfTrailingZeros_0f7a4 60 = .ok (.iushr, 1) := by decide +kernel
theorem dJ6_numberOfTrailingZeros_0f7a4_61 : decode cJ6_numberOfTrailingZeros_0f7a4 61 = .ok (.istore_n 0, 1) := by decide +kernel
theorem dJ6_numberOfTrailingZeros_0f7a4_62 : decode cJ6_numberOfTrailingZeros_0f7a4 62 = .ok (.iload_n 0, 1) := by decide +kernel
theorem dJ6_numberOfTrailingZeros_0f7a4_63 : decode cJ6_numberOfTrailingZeros_0f7a4 63 = .ok (.iconst 4, 1) := by decide +kernel
theorem dJ6_numberOfTrailingZeros_0f7a4_64 : decode cJ6_numberOfTrailingZeros_0f7a4 64 = .ok (.if_icmp .le 10, 3) := by decide +kernel
theorem dJ6_numberOfTrailingZeros_0f7a4_67 : decode cJ6_numberOfTrailingZeros_0f7a4 67 = .ok (.iinc 1 2, 3) := by decide +kernel
theorem dJ6_numberOfTrailingZeros_0f7a4_70 : decode cJ6_numberOfTrailingZeros_0f7a4 70 = .ok (.iload_n 0, 1) := by decide +kernel
theorem dJ6_numberOfTrailingZeros_0f7a4_71 : decode cJ6_numberOfTrailingZeros_0f7a4 71 = .ok (.iconst 2, 1) := by decide +kernel
theorem dJ6_numberOfTrailingZeros_0f7a4_72 : decode cJ6_numberOfTrailingZeros_0f7a4 72 = .ok (.iushr, 1) := by decide +kernel
theorem dJ6_numberOfTrailingZeros_0f7a4_73 : decode cJ6_numberOfTrailingZeros_0f7a4 73 = .ok (.istore_n 0, 1) := by decide +kernel
theorem dJ6_numberOfTrailingZeros_0f7a4_74 : decode cJ6_numberOfTrailingZeros_0f7a4 74 = .ok (.iload_n 1, 1) := by decide +kernel
theorem dJ6_numberOfTrailingZeros_0f7a4_75 : decode cJ6_numberOfTrailingZeros_0f7a4 75 = .ok (.iload_n 0, 1) := by decide +kernel
theorem dJ6_numberOfTrailingZeros_0f7a4_76 : decode cJ6_numberOfTrailingZeros_0f7a4 76 = .ok (.iconst 1, 1) := by decide +kernel
theorem dJ6_numberOfTrailingZeros_0f7a4_77 : decode cJ6_numberOfTrailingZeros_0f7a4 77 = .ok (.iushr, 1) := by decide +kernel
theorem dJ6_numberOfTrailingZeros_0f7a4_78 : decode cJ6_numberOfTrailingZeros_0f7a4 78 = .ok (.iadd, 1) := by decide +kernel
theorem dJ6_numberOfTrailingZeros_0f7a4_79 : decode cJ6_numberOfTrailingZeros_0f7a4 79 = .ok (.ireturn, 1) := by decide +kernel
theorem dJ6_bitCount_0f7a4_0 : decode cJ6_bitCount_0f7a4 0 = .ok (.iload_n 0, 1) := by decide +kernel
theorem dJ6_bitCount_0f7a4_1 : decode cJ6_bitCount_0f7a4 1 = .ok (.iload_n 0, 1) := by decide +kernel
theorem dJ6_bitCount_0f7a4_2 : decode cJ6_bitCount_0f7a4 2 = .ok (.iconst 1, 1) := by decide +kernel
theorem dJ6_bitCount_0f7a4_3 : decode cJ6_bitCount_0f7a4 3 = .ok (.iushr, 1) := by decide +kernel
theorem dJ6_bitCount_0f7a4_4 : decode cJ6_bitCount_0f7a4 4 = .ok (.ldc_w 265, 3) := by decide +kernel
theorem dJ6_bitCount_0f7a4_7 : decode cJ6_bitCount_0f7a4 7 = .ok (.iand, 1) := by decide +kernel
theorem dJ6_bitCount_0f7a4_8 : decode cJ6_bitCount_0f7a4 8 = .ok (.isub, 1) := by decide +kernel
theorem dJ6_bitCount_0f7a4_9 : decode cJ6_bitCount_0f7a4 9 = .ok (.istore_n 0, 1) := by decide +kernel
theorem dJ6_bitCount_0f7a4_10 : decode cJ6_bitCount_0f7a4 10 = .ok (.iload_n 0, 1) := by decide +kernel
theorem dJ6_bitCount_0f7a4_11 : decode cJ6_bitCount_0f7a4 11 = .ok (.ldc_w 266, 3) := by decide +kernel
theorem dJ6_bitCount_0f7a4_14 : decode cJ6_bitCount_0f7a4 14 = .ok (.iand, 1) := by decide +kernel
theorem dJ6_bitCount_0f7a4_15 : decode cJ6_bitCount_0f7a4 15 = .ok (.iload_n 0, 1) := by decide +kernel
theorem dJ6_bitCount_0f7a4_16 : decode cJ6_bitCount_0f7a4 16 = .ok (.iconst 2, 1) := by decide +kernel
theorem dJ6_bitCount_0f7a4_17 : decode cJ6_bitCount_0f7a4 17 = .ok (.iushr, 1) := by decide +kernel
theorem dJ6_bitCount_0f7a4_18 : decode cJ6_bitCount_0f7a4 18 = .ok (.ldc_w 266, 3) := by decide +kernel
theorem dJ6_bitCount_0f7a4_21 : decode cJ6_bitCount_0f7a4 21 = .ok (.iand, 1) := by decide +kernel
theorem dJ6_bitCount_0f7a4_22 : decode cJ6_bitCount_0f7a4 22 = .ok (.iadd, 1) := by decide +kernel
theorem dJ6_bitCount_0f7a4_23 : decode cJ6_bitCount_0f7a4 23 = .ok (.istore_n 0, 1) := by decide +kernel
theorem dJ6_bitCount_0f7a4_24 : decode cJ6_bitCount_0f7a4 24 = .ok (.iload_n 0, 1) := by decide +kernel
theorem dJ6_bitCount_0f7a4_25 : decode cJ6_bitCount_0f7a4 25 = .ok (.iload_n 0, 1) := by decide +kernel
theorem dJ6_bitCount_0f7a4_26 : decode cJ6_bitCount_0f7a4 26 = .ok (.iconst 4, 1) := by decide +kernel
theorem dJ6_bitCount_0f7a4_27 : decode cJ6_bitCount_0f7a4 27 = .ok (.iushr, 1) := by decide +kernel
theorem dJ6_bitCount_0f7a4_28 : decode cJ6_bitCount_0f7a4 28 = .ok (.iadd, 1) := by decide +kernel
theorem dJ6_bitCount_0f7a4_29 : decode cJ6_bitCount_0f7a4 29 = .ok (.ldc_w 267, 3) := by decide +kernel
theorem dJ6_bitCount_0f7a4_32 : decode cJ6_bitCount_0f7a4 32 = .ok (.iand, 1) := by decide +kernel
theorem dJ6_bitCount_0f7a4_33 : decode cJ6_bitCount_0f7a4 33 = .ok (.istore_n 0, 1) := by decide +kernel
theorem dJ6_bitCount_0f7a4_34 : decode cJ6_bitCount_0f7a4 34 = .ok (.iload_n 0, 1) := by decide +kernel
theorem dJ6_bitCount_0f7a4_35 : decode cJ6_bitCount_0f7a4 35 = .ok (.iload_n 0, 1) := by decide +kernel
theorem dJ6_bitCount_0f7a4_36 : decode cJ6_bitCount_0f7a4 36 = .ok (.bipush 8, 2) := by decide +kernel
theorem dJ6_bitCount_0f7a4_38 : decode cJ6_bitCount_0f7a4 38 = .ok (.iushr, 1) := by decide +kernel
theorem dJ6_bitCount_0f7a4_39 : decode cJ6_bitCount_0f7a4 39 = .ok (.iadd, 1) := by decide +kernel
theorem dJ6_bitCount_0f7a4_40 : decode cJ6_bitCount_0f7a4 40 = .ok (.istore_n 0, 1) := by decide +kernel
theorem dJ6_bitCount_0f7a4_41 : decode cJ6_bitCount_0f7a4 41 = .ok (.iload_n 0, 1) := by decide +kernel
theorem dJ6_bitCount_0f7a4_42 : decode cJ6_bitCount_0f7a4 42 = .ok (.iload_n 0, 1) := by decide +kernel
theorem dJ6_bitCount_0f7a4_43 : decode cJ6_bitCount_0f7a4 43 = .ok (.bipush 16, 2) := by decide +kernel
theorem dJ6_bitCount_0f7a4_45 : decode cJ6_bitCount_0f7a4 45 = .ok (.iushr, 1) := by decide +kernel
theorem dJ6_bitCount_0f7a4_46 : decode cJ6_bitCount_0f7a4 46 = .ok (.iadd, 1) := by decide +kernel
theorem dJ6_bitCount_0f7a4_47 : decode cJ6_bitCount_0f7a4 47 = .ok (.istore_n 0, 1) := by decide +kernel
theorem dJ6_bitCount_0f7a4_48 : decode cJ6_bitCount_0f7a4 48 = .ok (.iload_n 0, 1) := by decide +kernel
theorem dJ6_bitCount_0f7a4_49 : decode cJ6_bitCount_0f7a4 49 = .ok (.bipush 63, 2) := by decide +kernel
theorem dJ6_bitCount_0f7a4_51 : decode cJ6_bitCount_0f7a4 51 = .ok (.iand, 1) := by decide +kernel
theorem dJ6_bitCount_0f7a4_52 : decode cJ6_bitCount_0f7a4 52 = .ok (.ireturn, 1) := by decide +kernel
theorem dJ9_floorMod_7cf53_0 : decode cJ9_floorMod_7cf53 0 = .ok (.iload_n 0, 1) := by decide +kernel
theorem dJ9_floorMod_7cf53_1 : decode cJ9_floorMod_7cf53 1 = .ok (.iload_n 1, 1) := by decide +kernel
theorem dJ9_floorMod_7cf53_2 : decode cJ9_floorMod_7cf53 2 = .ok (.irem, 1) := by decide +kernel
theorem dJ9_floorMod_7cf53_3 : decode cJ9_floorMod_7cf53 3 = .ok (.istore_n 2, 1) := by decide +kernel
theorem dJ9_floorMod_7cf53_4 : decode cJ9_floorMod_7cf53 4 = .ok (.iload_n 0, 1) := by decide +kernel
theorem dJ9_floorMod_7cf53_5 : decode cJ9_floorMod_7cf53 5 = .ok (.iload_n 1, 1) := by decide +kernel
theorem dJ9_floorMod_7cf53_6 : decode cJ9_floorMod_7cf53 6 = .ok (.ixor, 1) := by decide +kernel
theorem dJ9_floorMod_7cf53_7 : decode cJ9_floorMod_7cf53 7 = .ok (.ifCond .ge 11, 3) := by decide +kernel
theorem dJ9_floorMod_7cf53_10 : decode cJ9_floorMod_7cf53 10 = .ok (.iload_n 2, 1) := by decide +kernel
theorem dJ9_floorMod_7cf53_11 : decode cJ9_floorMod_7cf53 11 = .ok (.ifCond .eq 7, 3) := by decide +kernel
theorem dJ9_floorMod_7cf53_14 : decode cJ9_floorMod_7cf53 14 = .ok (.iload_n 2, 1) := by decide +kernel
theorem dJ9_floorMod_7cf53_15 : decode cJ9_floorMod_7cf53 15 = .ok (.iload_n 1, 1) := by decide +kernel
theorem dJ9_floorMod_7cf53_16 : decode cJ9_floorMod_7cf53 16 = .ok (.iadd, 1) := by decide +kernel
theorem dJ9_floorMod_7cf53_17 : decode cJ9_floorMod_7cf53 17 = .ok (.ireturn, 1) := by decide +kernel
theorem dJ9_floorMod_7cf53_18 : decode cJ9_floorMod_7cf53 18 = .ok (.iload_n 2, 1) := by decide +kernel
theorem dJ9_floorMod_7cf53_19 : decode cJ9_floorMod_7cf53 19 = .ok (.ireturn, 1) := by decide +kernel
theorem dJ9_max_7cf53_0 : decode cJ9_max_7cf53 0 = .ok (.iload_n 0, 1) := by decide +kernel
theorem dJ9_max_7cf53_1 : decode cJ9_max_7cf53 1 = .ok (.iload_n 1, 1) := by decide +kernel
theorem dJ9_max_7cf53_2 : decode cJ9_max_7cf53 2 = .ok (.if_icmp .lt 7, 3) := by decide +kernel
theorem dJ9_max_7cf53_5 : decode cJ9_max_7cf53 5 = .ok (.iload_n 0, 1) := by decide +kernel
theorem dJ9_max_7cf53_6 : decode cJ9_max_7cf53 6 = .ok (.goto 4, 3) := by decide +kernel
theorem dJ9_max_7cf53_9 : decode cJ9_max_7cf53 9 = .ok (.iload_n 1, 1) := by decide +kernel
theorem dJ9_max_7cf53_10 : decode cJ9_max_7cf53 10 = .ok (.ireturn, 1) := by decide +kernel
theorem dJ9_min_7cf53_0 : decode cJ9_min_7cf53 0 = .ok (.iload_n 0, 1) := by decide +kernel
theorem dJ9_min_7cf53_1 : decode cJ9_min_7cf53 1 = .ok (.iload_n 1, 1) := by decide +kernel
theorem dJ9_min_7cf53_2 : decode cJ9_min_7cf53 2 = .ok (.if_icmp .gt 7, 3) := by decide +kernel
theorem dJ9_min_7cf53_5 : decode cJ9_min_7cf53 5 = .ok (.iload_n 0, 1) := by decide +kernel
theorem dJ9_min_7cf53_6 : decode cJ9_min_7cf53 6 = .ok (.goto 4, 3) := by decide +kernel
theorem dJ9_min_7cf53_9 : decode cJ9_min_7cf53 9 = .ok (.iload_n 1, 1) := by decide +kernel
theorem dJ9_min_7cf53_10 : decode cJ9_min_7cf53 10 = .ok (.ireturn, 1) := by decide +kernel
theorem dJxa1e45_init_da8c8_0 : decode cJxa1e45_init_da8c8 0 = .ok (.aload_n 0, 1) := by decide +kernel
theorem dJxa1e45_init_da8c8_1 : decode cJxa1e45_init_da8c8 1 = .ok (.invokespecial 1, 3) := by decide +kernel
theorem dJxa1e45_init_da8c8_4 : decode cJxa1e45_init_da8c8 4 = .ok (.return_, 1) := by decide +kernel
theorem dJxc12de_init_da8c8_0 : decode cJxc12de_init_da8c8 0 = .ok (.aload_n 0, 1) := by decide +kernel
theorem dJxc12de_init_da8c8_1 : decode cJxc12de_init_da8c8 1 = .ok (.invokespecial 1, 3) := by decide +kernel
theorem dJxc12de_init_da8c8_4 : decode cJxc12de_init_da8c8 4 = .ok (.aload_n 0, 1) := by decide +kernel
theorem dJxc12de_init_da8c8_5 : decode cJxc12de_init_da8c8 5 = .ok (.iconst 0, 1) := by decide +kernel
theorem dJxc12de_init_da8c8_6 : decode cJxc12de_init_da8c8 6 = .ok (.putfield 7, 3) := by decide +kernel
theorem dJxc12de_init_da8c8_9 : decode cJxc12de_init_da8c8 9 = .ok (.return_, 1) := by decide +kernel
theorem dJx4a65c_init_da8c8_0 : decode cJx4a65c_init_da8c8 0 = .ok (.aload_n 0, 1) := by decide +kernel
theorem dJx4a65c_init_da8c8_1 : decode cJx4a65c_init_da8c8 1 = .ok (.invokespecial 1, 3) := by decide +kernel
theorem dJx4a65c_init_da8c8_4 : decode cJx4a65c_init_da8c8 4 = .ok (.aload_n 0, 1) := by decide +kernel
theorem dJx4a65c_init_da8c8_5 : decode cJx4a65c_init_da8c8 5 = .ok (.getstatic 39, 3) := by decide +kernel
theorem dJx4a65c_init_da8c8_8 : decode cJx4a65c_init_da8c8 8 = .ok (.putfield 9, 3) := by decide +kernel
theorem dJx4a65c_init_da8c8_11 : decode cJx4a65c_init_da8c8 11 = .ok (.return_, 1) := by decide +kernel
theorem dJx4a65c_grow_92f84_0 : decode cJx4a65c_grow_92f84 0 = .ok (.aload_n 0, 1) := by decide +kernel
theorem dJx4a65c_grow_92f84_1 : decode cJx4a65c_grow_92f84 1 = .ok (.getfield 9, 3) := by decide +kernel
theorem dJx4a65c_grow_92f84_4 : decode cJx4a65c_grow_92f84 4 = .ok (.arraylength, 1) := by decide +kernel
theorem dJx4a65c_grow_92f84_5 : decode cJx4a65c_grow_92f84 5 = .ok (.istore_n 2, 1) := by decide +kernel
theorem dJx4a65c_grow_92f84_6 : decode cJx4a65c_grow_92f84 6 = .ok (.iload_n 2, 1) := by decide +kernel
theorem dJx4a65c_grow_92f84_7 : decode cJx4a65c_grow_92f84 7 = .ok (.ifCond .gt 13, 3) := by decide +kernel
theorem dJx4a65c_grow_92f84_10 : decode cJx4a65c_grow_92f84 10 = .ok (.aload_n 0, 1) := by decide +kernel
theorem dJx4a65c_grow_92f84_11 : decode cJx4a65c_grow_92f84 11 = .ok (.getfield 9, 3) := by decide +kernel
theorem dJx4a65c_grow_92f84_14 : decode cJx4a65c_grow_92f84 14 = .ok (.getstatic 39, 3) := by decide +kernel
theorem dJx4a65c_grow_92f84_17 : decode cJx4a65c_grow_92f84 17 = .ok (.if_acmp .eq 28, 3) := by decide +kernel
theorem dJx4a65c_grow_92f84_20 : decode cJx4a65c_grow_92f84 20 = .ok (.iload_n 2, 1) := by decide +kernel
theorem dJx4a65c_grow_92f84_21 : decode cJx4a65c_grow_92f84 21 = .ok (.iload_n 1, 1) := by decide +kernel
theorem dJx4a65c_grow_92f84_22 : decode cJx4a65c_grow_92f84 22 = .ok (.iload_n 2, 1) := by decide +kernel
theorem dJx4a65c_grow_92f84_23 : decode cJx4a65c_grow_92f84 23 = .ok (.isub, 1) := by decide +kernel
theorem dJx4a65c_grow_92f84_24 : decode cJx4a65c_grow_92f84 24 = .ok (.iload_n 2, 1) := by decide +kernel
theorem dJx4a65c_grow_92f84_25 : decode cJx4a65c_grow_92f84 25 = .ok (.iconst 1, 1) := by decide +kernel
theorem dJx4a65c_grow_92f84_26 : decode cJx4a65c_grow_92f84 26 = .ok (.ishr, 1) := by decide +kernel
theorem dJx4a65c_grow_92f84_27 : decode cJx4a65c_grow_92f84 27 = .ok (.invokestatic 73, 3) := by decide +kernel
theorem dJx4a65c_grow_92f84_30 : decode cJx4a65c_grow_92f84 30 = .ok (.istore_n 3, 1) := by decide +kernel
theorem dJx4a65c_grow_92f84_31 : decode cJx4a65c_grow_92f84 31 = .ok (.aload_n 0, 1) := by decide +kernel
theorem dJx4a65c_grow_92f84_32 : decode cJx4a65c_grow_92f84 32 = .ok (.aload_n 0, 1) := by decide +kernel
theorem dJx4a65c_grow_92f84_33 : decode cJx4a65c_grow_92f84 33 = .ok (.getfield 9, 3) := by decide +kernel
theorem dJx4a65c_grow_92f84_36 : decode cJx4a65c_grow_92f84 36 = .ok (.iload_n 3, 1) := by decide +kernel
theorem dJx4a65c_grow_92f84_37 : decode cJx4a65c_grow_92f84 37 = .ok (.invokestatic 66, 3) := by decide +kernel
theorem dJx4a65c_grow_92f84_40 : decode cJx4a65c_grow_92f84 40 = .ok (.dup_x1, 1) := by decide +kernel
theorem dJx4a65c_grow_92f84_41 : decode cJx4a65c_grow_92f84 41 = .ok (.putfield 9, 3) := by decide +kernel
theorem dJx4a65c_grow_92f84_44 : decode cJx4a65c_grow_92f84 44 = .ok (.areturn, 1) := by decide +kernel
theorem dJx4a65c_grow_92f84_45 : decode cJx4a65c_grow_92f84 45 = .ok (.aload_n 0, 1) := by decide +kernel
theorem dJx4a65c_grow_92f84_46 : decode cJx4a65c_grow_92f84 46 = .ok (.bipush 10, 2) := by decide +kernel
theorem dJx4a65c_grow_92f84_48 : decode cJx4a65c_grow_92f84 48 = .ok (.iload_n 1, 1) := by decide +kernel
theorem dJx4a65c_grow_92f84_49 : decode cJx4a65c_grow_92f84 49 = .ok (.invokestatic 79, 3) := by decide +kernel
theorem dJx4a65c_grow_92f84_52 : decode cJx4a65c_grow_92f84 52 = .ok (.anewarray 7, 3) := by decide +kernel
theorem dJx4a65c_grow_92f84_55 : decode cJx4a65c_grow_92f84 55 = .ok (.dup_x1, 1) := by decide +kernel
theorem dJx4a65c_grow_92f84_56 : decode cJx4a65c_grow_92f84 56 = .ok (.putfield 9, 3) := by decide +kernel
theorem dJx4a65c_grow_92f84_59 : decode cJx4a65c_grow_92f84 59 = .ok (.areturn, 1) := by decide +kernel
theorem dJx4a65c_grow_d5877_0 : decode cJx4a65c_grow_d5877 0 = .ok (.aload_n 0, 1) := by decide +kernel
theorem dJx4a65c_grow_d5877_1 : decode cJx4a65c_grow_d5877 1 = .ok (.aload_n 0, 1) := by decide +kernel
theorem dJx4a65c_grow_d5877_2 : decode cJx4a65c_grow_d5877 2 = .ok (.getfield 48, 3) := by decide +kernel
theorem dJx4a65c_grow_d5877_5 : decode cJx4a65c_grow_d5877 5 = .ok (.iconst 1, 1) := by decide +kernel
theorem dJx4a65c_grow_d5877_6 : decode cJx4a65c_grow_d5877 6 = .ok (.iadd, 1) := by decide +kernel
theorem dJx4a65c_grow_d5877_7 : decode cJx4a65c_grow_d5877 7 = .ok (.invokevirtual 69, 3) := by decide +kernel
theorem dJx4a65c_grow_d5877_10 : decode cJx4a65c_grow_d5877 10 = .ok (.areturn, 1) := by decide +kernel
theorem dJx4a65c_size_8abf5_0 : decode cJx4a65c_size_8abf5 0 = .ok (.aload_n 0, 1) := by decide +kernel
theorem dJx4a65c_size_8abf5_1 : decode cJx4a65c_size_8abf5 1 = .ok (.getfield 48, 3) := by decide +kernel
theorem dJx4a65c_size_8abf5_4 : decode cJx4a65c_size_8abf5 4 = .ok (.ireturn, 1) := by decide +kernel
theorem dJx4a65c_elementData_915e3_0 : decode cJx4a65c_elementData_915e3 0 = .ok (.aload_n 0, 1) := by decide +kernel
theorem dJx4a65c_elementData_915e3_1 : decode cJx4a65c_elementData_915e3 1 = .ok (.getfield 9, 3) := by decide +kernel
theorem dJx4a65c_elementData_915e3_4 : decode cJx4a65c_elementData_915e3 4 = .ok (.iload_n 1, 1) := by decide +kernel
theorem dJx4a65c_elementData_915e3_5 : decode cJx4a65c_elementData_915e3 5 = .ok (.aaload, 1) := by decide +kernel
theorem dJx4a65c_elementData_915e3_6 : decode cJx4a65c_elementData_915e3 6 = .ok (.areturn, 1) := by decide +kernel
theorem dJx4a65c_get_915e3_0 : decode cJx4a65c_get_915e3 0 = .ok (.iload_n 1, 1) := by decide +kernel
theorem dJx4a65c_get_915e3_1 : decode cJx4a65c_get_915e3 1 = .ok (.aload_n 0, 1) := by decide +kernel
theorem dJx4a65c_get_915e3_2 : decode cJx4a65c_get_915e3 2 = .ok (.getfield 48, 3) := by decide +kernel
theorem dJx4a65c_get_915e3_5 : decode cJx4a65c_get_915e3 5 = .ok (.invokestatic 118, 3) := by decide +kernel
theorem dJx4a65c_get_915e3_8 : decode cJx4a65c_get_915e3 8 = .ok (.pop, 1) := by decide +kernel
theorem dJx4a65c_get_915e3_9 : decode cJx4a65c_get_915e3 9 = .ok (.aload_n 0, 1) := by decide +kernel
theorem dJx4a65c_get_915e3_10 : decode cJx4a65c_get_915e3 10 = .ok (.iload_n 1, 1) := by decide +kernel
theorem dJx4a65c_get_915e3_11 : decode cJx4a65c_get_915e3 11 = .ok (.invokevirtual 123, 3) := by decide +kernel
theorem dJx4a65c_get_915e3_14 : decode cJx4a65c_get_915e3 14 = .ok (.areturn, 1) := by decide +kernel
theorem dJx4a65c_add_72be8_0 : decode cJx4a65c_add_72be8 0 = .ok (.iload_n 3, 1) := by decide +kernel
theorem dJx4a65c_add_72be8_1 : decode cJx4a65c_add_72be8 1 = .ok (.aload_n 2, 1) := by decide +kernel
theorem dJx4a65c_add_72be8_2 : decode cJx4a65c_add_72be8 2 = .ok (.arraylength, 1) := by decide +kernel
theorem dJx4a65c_add_72be8_3 : decode cJx4a65c_add_72be8 3 = .ok (.if_icmp .ne 8, 3) := by decide +kernel
theorem dJx4a65c_add_72be8_6 : decode cJx4a65c_add_72be8 6 = .ok (.aload_n 0, 1) := by decide +kernel
theorem dJx4a65c_add_72be8_7 : decode cJx4a65c_add_72be8 7 = .ok (.invokevirtual 129, 3) := by decide +kernel
theorem dJx4a65c_add_72be8_10 : decode cJx4a65c_add_72be8 10 = .ok (.astore_n 2, 1) := by decide +kernel
theorem dJx4a65c_add_72be8_11 : decode cJx4a65c_add_72be8 11 = .ok (.aload_n 2, 1) := by decide +kernel
theorem dJx4a65c_add_72be8_12 : decode cJx4a65c_add_72be8 12 = .ok (.iload_n 3, 1) := by decide +kernel
theorem dJx4a65c_add_72be8_13 : decode cJx4a65c_add_72be8 13 = .ok (.aload_n 1, 1) := by decide +kernel
theorem dJx4a65c_add_72be8_14 : decode cJx4a65c_add_72be8 14 = .ok (.aastore, 1) := by decide +kernel
theorem dJx4a65c_add_72be8_15 : decode cJx4a65c_add_72be8 15 = .ok (.aload_n 0, 1) := by decide +kernel
theorem dJx4a65c_add_72be8_16 : decode cJx4a65c_add_72be8 16 = .ok (.iload_n 3, 1) := by decide +kernel
theorem dJx4a65c_add_72be8_17 : decode cJx4a65c_add_72be8 17 = .ok (.iconst 1, 1) := by decide +kernel
theorem dJx4a65c_add_72be8_18 : decode cJx4a65c_add_72be8 18 = .ok (.iadd, 1) := by decide +kernel
theorem dJx4a65c_add_72be8_19 : decode cJx4a65c_add_72be8 19 = .ok (.putfield 48, 3) := by decide +kernel
theorem dJx4a65c_add_72be8_22 : decode cJx4a65c_add_72be8 22 = .ok (.return_, 1) := by decide +kernel
theorem dJx4a65c_add_9ea2d_0 : decode cJx4a65c_add_9ea2d 0 = .ok (.aload_n 0, 1) := by decide +kernel
theorem dJx4a65c_add_9ea2d_1 : decode cJx4a65c_add_9ea2d 1 = .ok (.dup, 1) := by decide +kernel
theorem dJx4a65c_add_9ea2d_2 : decode cJx4a65c_add_9ea2d 2 = .ok (.getfield 63, 3) := by decide +kernel
theorem dJx4a65c_add_9ea2d_5 : decode cJx4a65c_add_9ea2d 5 = .ok (.iconst 1, 1) := by decide +kernel
theorem dJx4a65c_add_9ea2d_6 : decode cJx4a65c_add_9ea2d 6 = .ok (.iadd, 1) := by decide +kernel
theorem dJx4a65c_add_9ea2d_7 : decode cJx4a65c_add_9ea2d 7 = .ok (.putfield 63, 3) := by decide +kernel
theorem dJx4a65c_add_9ea2d_10 : decode cJx4a65c_add_9ea2d 10 = .ok (.aload_n 0, 1) := by decide +kernel
theorem dJx4a65c_add_9ea2d_11 : decode cJx4a65c_add_9ea2d 11 = .ok (.aload_n 1, 1) := by decide +kernel
theorem dJx4a65c_add_9ea2d_12 : decode cJx4a65c_add_9ea2d 12 = .ok (.aload_n 0, 1) := by decide +kernel
theorem dJx4a65c_add_9ea2d_13 : decode cJx4a65c_add_9ea2d 13 = .ok (.getfield 9, 3) := by decide +kernel
theorem dJx4a65c_add_9ea2d_16 : decode cJx4a65c_add_9ea2d 16 = .ok (.aload_n 0, 1) := by decide +kernel
theorem dJx4a65c_add_9ea2d_17 : decode cJx4a65c_add_9ea2d 17 = .ok (.getfield 48, 3) := by decide +kernel
theorem dJx4a65c_add_9ea2d_20 : decode cJx4a65c_add_9ea2d 20 = .ok (.invokevirtual 131, 3) := by decide +kernel
theorem dJx4a65c_add_9ea2d_23 : decode cJx4a65c_add_9ea2d 23 = .ok (.iconst 1, 1) := by decide +kernel
theorem dJx4a65c_add_9ea2d_24 : decode cJx4a65c_add_9ea2d 24 = .ok (.ireturn, 1) := by decide +kernel
theorem dJ7_fill_53178_0 : decode cJ7_fill_53178 0 = .ok (.iconst 0, 1) := by decide +kernel
theorem dJ7_fill_53178_1 : decode cJ7_fill_53178 1 = .ok (.istore_n 2, 1) := by decide +kernel
theorem dJ7_fill_53178_2 : decode cJ7_fill_53178 2 = .ok (.aload_n 0, 1) := by decide +kernel
theorem dJ7_fill_53178_3 : decode cJ7_fill_53178 3 = .ok (.arraylength, 1) := by decide +kernel
theorem dJ7_fill_53178_4 : decode cJ7_fill_53178 4 = .ok (.istore_n 3, 1) := by decide +kernel
theorem dJ7_fill_53178_5 : decode cJ7_fill_53178 5 = .ok (.iload_n 2, 1) := by decide +kernel
theorem dJ7_fill_53178_6 : decode cJ7_fill_53178 6 = .ok (.iload_n 3, 1) := by decide +kernel
theorem dJ7_fill_53178_7 : decode cJ7_fill_53178 7 = .ok (.if_icmp .ge 13, 3) := by decide +kernel
theorem dJ7_fill_53178_10 : decode cJ7_fill_53178 10 = .ok (.aload_n 0, 1) := by decide +kernel
theorem dJ7_fill_53178_11 : decode cJ7_fill_53178 11 = .ok (.iload_n 2, 1) := by decide +kernel
theorem dJ7_fill_53178_12 : decode cJ7_fill_53178 12 = .ok (.iload_n 1, 1) := by decide +kernel
theorem dJ7_fill_53178_13 : decode cJ7_fill_53178 13 = .ok (.iastore, 1) := by decide +kernel
theorem dJ7_fill_53178_14 : decode cJ7_fill_53178 14 = .ok (.iinc 2 1, 3) := by decide +kernel
theorem dJ7_fill_53178_17 : decode cJ7_fill_53178 17 = .ok (.goto (-12), 3) := by decide +kernel
theorem dJ7_fill_53178_20 : decode cJ7_fill_53178 20 = .ok (.return_, 1) := by decide +kernel
theorem dJ7_copyOf_1904c_0 : decode cJ7_copyOf_1904c 0 = .ok (.aload_n 0, 1) := by decide +kernel
theorem dJ7_copyOf_1904c_1 : decode cJ7_copyOf_1904c 1 = .ok (.iload_n 1, 1) := by decide +kernel
theorem dJ7_copyOf_1904c_2 : decode cJ7_copyOf_1904c 2 = .ok (.aload_n 0, 1) := by decide +kernel
theorem dJ7_copyOf_1904c_3 : decode cJ7_copyOf_1904c 3 = .ok (.invokevirtual 86, 3) := by decide +kernel
theorem dJ7_copyOf_1904c_6 : decode cJ7_copyOf_1904c 6 = .ok (.invokestatic 300, 3) := by decide +kernel
theorem dJ7_copyOf_1904c_9 : decode cJ7_copyOf_1904c 9 = .ok (.areturn, 1) := by decide +kernel
theorem dJ7_copyOf_6403c_0 : decode cJ7_copyOf_6403c 0 = .ok (.aload_n 2, 1) := by decide +kernel
theorem dJ7_copyOf_6403c_1 : decode cJ7_copyOf_6403c 1 = .ok (.ldc 110, 2) := by decide +kernel
theorem dJ7_copyOf_6403c_3 : decode cJ7_copyOf_6403c 3 = .ok (.if_acmp .ne 10, 3) := by decide +kernel
theorem dJ7_copyOf_6403c_6 : decode cJ7_copyOf_6403c 6 = .ok (.iload_n 1, 1) := by decide +kernel
theorem dJ7_copyOf_6403c_7 : decode cJ7_copyOf_6403c 7 = .ok (.anewarray 2, 3) := by decide +kernel
theorem dJ7_copyOf_6403c_10 : decode cJ7_copyOf_6403c 10 = .ok (.goto 14, 3) := by decide +kernel
theorem dJ7_copyOf_6403c_13 : decode cJ7_copyOf_6403c 13 = .ok (.aload_n 2, 1) := by decide +kernel
theorem dJ7_copyOf_6403c_14 : decode cJ7_copyOf_6403c 14 = .ok (.invokevirtual 90, 3) := by decide +kernel
theorem dJ7_copyOf_6403c_17 : decode cJ7_copyOf_6403c 17 = .ok (.iload_n 1, 1) := by decide +kernel
theorem dJ7_copyOf_6403c_18 : decode cJ7_copyOf_6403c 18 = .ok (.invokestatic 95, 3) := by decide +kernel
theorem dJ7_copyOf_6403c_21 : decode cJ7_copyOf_6403c 21 = .ok (.checkcast 110, 3) := by decide +kernel
theorem dJ7_copyOf_6403c_24 : decode cJ7_copyOf_6403c 24 = .ok (.astore_n 3, 1) := by decide +kernel
theorem dJ7_copyOf_6403c_25 : decode cJ7_copyOf_6403c 25 = .ok (.aload_n 0, 1) := by decide +kernel
theorem dJ7_copyOf_6403c_26 : decode cJ7_copyOf_6403c 26 = .ok (.iconst 0, 1) := by decide +kernel
theorem dJ7_copyOf_6403c_27 : decode cJ7_copyOf_6403c 27 = .ok (.aload_n 3, 1) := by decide +kernel
theorem dJ7_copyOf_6403c_28 : decode cJ7_copyOf_6403c 28 = .ok (.iconst 0, 1) := by decide +kernel
theorem dJ7_copyOf_6403c_29 : decode cJ7_copyOf_6403c 29 = .ok (.aload_n 0, 1) := by decide +kernel
theorem dJ7_copyOf_6403c_30 : decode cJ7_copyOf_6403c 30 = .ok (.arraylength, 1) := by decide +kernel
theorem dJ7_copyOf_6403c_31 : decode cJ7_copyOf_6403c 31 = .ok (.iload_n 1, 1) := by decide +kernel
theorem dJ7_copyOf_6403c_32 : decode cJ7_copyOf_6403c 32 = .ok (.invokestatic 304, 3) := by decide +kernel
theorem dJ7_copyOf_6403c_35 : decode cJ7_copyOf_6403c 35 = .ok (.invokestatic 150, 3) := by decide +kernel
theorem dJ7_copyOf_6403c_38 : decode cJ7_copyOf_6403c 38 = .ok (.aload_n 3, 1) := by decide +kernel
theorem dJ7_copyOf_6403c_39 : decode cJ7_copyOf_6403c 39 = .ok (.areturn, 1) := by decide +kernel
theorem dJ15_checkIndex_7cf53_0 : decode cJ15_checkIndex_7cf53 0 = .ok (.iload_n 0, 1) := by decide +kernel
theorem dJ15_checkIndex_7cf53_1 : decode cJ15_checkIndex_7cf53 1 = .ok (.iload_n 1, 1) := by decide +kernel
theorem dJ15_checkIndex_7cf53_2 : decode cJ15_checkIndex_7cf53 2 = .ok (.aconst_null, 1) := by decide +kernel
theorem dJ15_checkIndex_7cf53_3 : decode cJ15_checkIndex_7cf53 3 = .ok (.invokestatic 105, 3) := by decide +kernel
theorem dJ15_checkIndex_7cf53_6 : decode cJ15_checkIndex_7cf53 6 = .ok (.ireturn, 1) := by decide +kernel
theorem dJ8_newLength_cabcc_0 : decode cJ8_newLength_cabcc 0 = .ok (.iload_n 0, 1) := by decide +kernel
theorem dJ8_newLength_cabcc_1 : decode cJ8_newLength_cabcc 1 = .ok (.iload_n 1, 1) := by decide +kernel
theorem dJ8_newLength_cabcc_2 : decode cJ8_newLength_cabcc 2 = .ok (.iload_n 2, 1) := by decide +kernel
theorem dJ8_newLength_cabcc_3 : decode cJ8_newLength_cabcc 3 = .ok (.invokestatic 194, 3) := by decide +kernel
theorem dJ8_newLength_cabcc_6 : decode cJ8_newLength_cabcc 6 = .ok (.iadd, 1) := by decide +kernel
theorem dJ8_newLength_cabcc_7 : decode cJ8_newLength_cabcc 7 = .ok (.istore_n 3, 1) := by decide +kernel
theorem dJ8_newLength_cabcc_8 : decode cJ8_newLength_cabcc 8 = .ok (.iconst 0, 1) := by decide +kernel
theorem dJ8_newLength_cabcc_9 : decode cJ8_newLength_cabcc 9 = .ok (.iload_n 3, 1) := by decide +kernel
theorem dJ8_newLength_cabcc_10 : decode cJ8_newLength_cabcc 10 = .ok (.if_icmp .ge 11, 3) := by decide +kernel
theorem dJ8_newLength_cabcc_13 : decode cJ8_newLength_cabcc 13 = .ok (.iload_n 3, 1) := by decide +kernel
theorem dJ8_newLength_cabcc_14 : decode cJ8_newLength_cabcc 14 = .ok (.ldc 200, 2) := by decide +kernel
theorem dJ8_newLength_cabcc_16 : decode cJ8_newLength_cabcc 16 = .ok (.if_icmp .gt 5, 3) := by decide +kernel
theorem dJ8_newLength_cabcc_19 : decode cJ8_newLength_cabcc 19 = .ok (.iload_n 3, 1) := by decide +kernel
theorem dJ8_newLength_cabcc_20 : decode cJ8_newLength_cabcc 20 = .ok (.ireturn, 1) := by decide +kernel
theorem dJ8_newLength_cabcc_21 : decode cJ8_newLength_cabcc 21 = .ok (.iload_n 0, 1) := by decide +kernel
theorem dJ8_newLength_cabcc_22 : decode cJ8_newLength_cabcc 22 = .ok (.iload_n 1, 1) := by decide +kernel
theorem dJ8_newLength_cabcc_23 : decode cJ8_newLength_cabcc 23 = .ok (.invokestatic 201, 3) := by decide +kernel
theorem dJ8_newLength_cabcc_26 : decode cJ8_newLength_cabcc 26 = .ok (.ireturn, 1) := by decide +kernel
theorem dJ8_hugeLength_7cf53_0 : decode cJ8_hugeLength_7cf53 0 = .ok (.iload_n 0, 1) := by decide +kernel
theorem dJ8_hugeLength_7cf53_1 : decode cJ8_hugeLength_7cf53 1 = .ok (.iload_n 1, 1) := by decide +kernel
theorem dJ8_hugeLength_7cf53_2 : decode cJ8_hugeLength_7cf53 2 = .ok (.iadd, 1) := by decide +kernel
theorem dJ8_hugeLength_7cf53_3 : decode cJ8_hugeLength_7cf53 3 = .ok (.istore_n 2, 1) := by decide +kernel
theorem dJ8_hugeLength_7cf53_4 : decode cJ8_hugeLength_7cf53 4 = .ok (.iload_n 2, 1) := by decide +kernel
theorem dJ8_hugeLength_7cf53_5 : decode cJ8_hugeLength_7cf53 5 = .ok (.ifCond .ge 44, 3) := by decide +kernel
theorem dJ8_hugeLength_7cf53_8 : decode cJ8_hugeLength_7cf53 8 = .ok (.new 204, 3) := by decide +kernel
theorem dJ8_hugeLength_7cf53_11 : decode cJ8_hugeLength_7cf53 11 = .ok (.dup, 1) := by decide +kernel
theorem dJ8_hugeLength_7cf53_12 : decode cJ8_hugeLength_7cf53 12 = .ok (.new 89, 3) := by decide +kernel
theorem dJ8_hugeLength_7cf53_15 : decode cJ8_hugeLength_7cf53 15 = .ok (.dup, 1) := by decide +kernel
theorem dJ8_hugeLength_7cf53_16 : decode cJ8_hugeLength_7cf53 16 = .ok (.invokespecial 91, 3) := by decide +kernel
theorem dJ8_hugeLength_7cf53_19 : decode cJ8_hugeLength_7cf53 19 = .ok (.ldc 206, 2) := by decide +kernel
theorem dJ8_hugeLength_7cf53_21 : decode cJ8_hugeLength_7cf53 21 = .ok (.invokevirtual 94, 3) := by decide +kernel
theorem dJ8_hugeLength_7cf53_24 : decode cJ8_hugeLength_7cf53 24 = .ok (.iload_n 0, 1) := by decide +kernel
theorem dJ8_hugeLength_7cf53_25 : decode cJ8_hugeLength_7cf53 25 = .ok (.invokevirtual 98, 3) := by decide +kernel
theorem dJ8_hugeLength_7cf53_28 : decode cJ8_hugeLength_7cf53 28 = .ok (.ldc 208, 2) := by decide +kernel
theorem dJ8_hugeLength_7cf53_30 : decode cJ8_hugeLength_7cf53 30 = .ok (.invokevirtual 94, 3) := by decide +kernel
theorem dJ8_hugeLength_7cf53_33 : decode cJ8_hugeLength_7cf53 33 = .ok (.iload_n 1, 1) := by decide +kernel
theorem dJ8_hugeLength_7cf53_34 : decode cJ8_hugeLength_7cf53 34 = .ok (.invokevirtual 98, 3) := by decide +kernel
theorem dJ8_hugeLength_7cf53_37 : decode cJ8_hugeLength_7cf53 37 = .ok (.ldc 210, 2) := by decide +kernel
theorem dJ8_hugeLength_7cf53_39 : decode cJ8_hugeLength_7cf53 39 = .ok (.invokevirtual 94, 3) := by decide +kernel
theorem dJ8_hugeLength_7cf53_42 : decode cJ8_hugeLength_7cf53 42 = .ok (.invokevirtual 101, 3) := by decide +kernel
theorem dJ8_hugeLength_7cf53_45 : decode cJ8_hugeLength_7cf53 45 = .ok (.invokespecial 212, 3) := by decide +kernel
theorem dJ8_hugeLength_7cf53_48 : decode cJ8_hugeLength_7cf53 48 = .ok (.athrow, 1) := by decide +kernel
theorem dJ8_hugeLength_7cf53_49 : decode cJ8_hugeLength_7cf53 49 = .ok (.iload_n 2, 1) := by decide +kernel
theorem dJ8_hugeLength_7cf53_50 : decode cJ8_hugeLength_7cf53 50 = .ok (.ldc 200, 2) := by decide +kernel
theorem dJ8_hugeLength_7cf53_52 : decode cJ8_hugeLength_7cf53 52 = .ok (.if_icmp .gt 6, 3) := by decide +kernel
theorem dJ8_hugeLength_7cf53_55 : decode cJ8_hugeLength_7cf53 55 = .ok (.ldc 200, 2) := by decide +kernel
theorem dJ8_hugeLength_7cf53_57 : decode cJ8_hugeLength_7cf53 57 = .ok (.ireturn, 1) := by decide +kernel
theorem dJ8_hugeLength_7cf53_58 : decode cJ8_hugeLength_7cf53 58 = .ok (.iload_n 2, 1) := by decide +kernel
theorem dJ8_hugeLength_7cf53_59 : decode cJ8_hugeLength_7cf53 59 = .ok (.ireturn, 1) := by decide +kernel
theorem dJ3_checkIndex_8e157_0 : decode cJ3_checkIndex_8e157 0 = .ok (.iload_n 0, 1) := by decide +kernel
theorem dJ3_checkIndex_8e157_1 : decode cJ3_checkIndex_8e157 1 = .ok (.ifCond .lt 8, 3) := by decide +kernel
theorem dJ3_checkIndex_8e157_4 : decode cJ3_checkIndex_8e157 4 = .ok (.iload_n 0, 1) := by decide +kernel
theorem dJ3_checkIndex_8e157_5 : decode cJ3_checkIndex_8e157 5 = .ok (.iload_n 1, 1) := by decide +kernel
theorem dJ3_checkIndex_8e157_6 : decode cJ3_checkIndex_8e157 6 = .ok (.if_icmp .lt 10, 3) := by decide +kernel
theorem dJ3_checkIndex_8e157_9 : decode cJ3_checkIndex_8e157 9 = .ok (.aload_n 2, 1) := by decide +kernel
theorem dJ3_checkIndex_8e157_10 : decode cJ3_checkIndex_8e157 10 = .ok (.iload_n 0, 1) := by decide +kernel
theorem dJ3_checkIndex_8e157_11 : decode cJ3_checkIndex_8e157 11 = .ok (.iload_n 1, 1) := by decide +kernel
theorem dJ3_checkIndex_8e157_12 : decode cJ3_checkIndex_8e157 12 = .ok (.invokestatic 95, 3) := by decide +kernel
theorem dJ3_checkIndex_8e157_15 : decode cJ3_checkIndex_8e157 15 = .ok (.athrow, 1) := by decide +kernel
theorem dJ3_checkIndex_8e157_16 : decode cJ3_checkIndex_8e157 16 = .ok (.iload_n 0, 1) := by decide +kernel
theorem dJ3_checkIndex_8e157_17 : decode cJ3_checkIndex_8e157 17 = .ok (.ireturn, 1) := by decide +kernel
theorem dL_law_0 : decode cL_law 0 = .ok (.new 7, 3) := by decide +kernel
theorem dL_law_3 : decode cL_law 3 = .ok (.dup, 1) := by decide +kernel
theorem dL_law_4 : decode cL_law 4 = .ok (.invokespecial 9, 3) := by decide +kernel
theorem dL_law_7 : decode cL_law 7 = .ok (.astore_n 1, 1) := by decide +kernel
theorem dL_law_8 : decode cL_law 8 = .ok (.new 10, 3) := by decide +kernel
theorem dL_law_11 : decode cL_law 11 = .ok (.dup, 1) := by decide +kernel
theorem dL_law_12 : decode cL_law 12 = .ok (.invokespecial 12, 3) := by decide +kernel
theorem dL_law_15 : decode cL_law 15 = .ok (.astore_n 2, 1) := by decide +kernel
theorem dL_law_16 : decode cL_law 16 = .ok (.iconst 0, 1) := by decide +kernel
theorem dL_law_17 : decode cL_law 17 = .ok (.istore_n 3, 1) := by decide +kernel
theorem dL_law_18 : decode cL_law 18 = .ok (.iload_n 3, 1) := by decide +kernel
theorem dL_law_19 : decode cL_law 19 = .ok (.aload_n 0, 1) := by decide +kernel
theorem dL_law_20 : decode cL_law 20 = .ok (.arraylength, 1) := by decide +kernel
theorem dL_law_21 : decode cL_law 21 = .ok (.bipush 6, 2) := by decide +kernel
theorem dL_law_23 : decode cL_law 23 = .ok (.isub, 1) := by decide +kernel
theorem dL_law_24 : decode cL_law 24 = .ok (.if_icmp .gt 1343, 3) := by decide +kernel
theorem dL_law_27 : decode cL_law 27 = .ok (.aload_n 0, 1) := by decide +kernel
theorem dL_law_28 : decode cL_law 28 = .ok (.iload_n 3, 1) := by decide +kernel
theorem dL_law_29 : decode cL_law 29 = .ok (.iaload, 1) := by decide +kernel
theorem dL_law_30 : decode cL_law 30 = .ok (.bipush 63, 2) := by decide +kernel
theorem dL_law_32 : decode cL_law 32 = .ok (.iand, 1) := by decide +kernel
theorem dL_law_33 : decode cL_law 33 = .ok (.tableswitch 1328 0 32 #[147, 180, 213, 236, 315, 348, 371, 414, 477, 510, 543, 566, 615, 648, 711, 754, 777, 800, 823, 846, 879, 912, 945, 998, 1031, 1054, 1077, 1110, 1153, 1206, 1239, 1272, 1305], 147) := by decide +kernel
theorem dL_law_180 : decode cL_law 180 = .ok (.aload_n 1, 1) := by decide +kernel
theorem dL_law_181 : decode cL_law 181 = .ok (.aload_n 0, 1) := by decide +kernel
theorem dL_law_182 : decode cL_law 182 = .ok (.iload_n 3, 1) := by decide +kernel
theorem dL_law_183 : decode cL_law 183 = .ok (.iconst 1, 1) := by decide +kernel
theorem dL_law_184 : decode cL_law 184 = .ok (.iadd, 1) := by decide +kernel
theorem dL_law_185 : decode cL_law 185 = .ok (.iaload, 1) := by decide +kernel
theorem dL_law_186 : decode cL_law 186 = .ok (.aload_n 0, 1) := by decide +kernel
theorem dL_law_187 : decode cL_law 187 = .ok (.iload_n 3, 1) := by decide +kernel
theorem dL_law_188 : decode cL_law 188 = .ok (.iconst 2, 1) := by decide +kernel
theorem dL_law_189 : decode cL_law 189 = .ok (.iadd, 1) := by decide +kernel
theorem dL_law_190 : decode cL_law 190 = .ok (.iaload, 1) := by decide +kernel
theorem dL_law_191 : decode cL_law 191 = .ok (.invokevirtual 13, 3) := by decide +kernel
theorem dL_law_194 : decode cL_law 194 = .ok (.aload_n 2, 1) := by decide +kernel
theorem dL_law_195 : decode cL_law 195 = .ok (.aload_n 0, 1) := by decide +kernel
theorem dL_law_196 : decode cL_law 196 = .ok (.iload_n 3, 1) := by decide +kernel
theorem dL_law_197 : decode cL_law 197 = .ok (.iconst 1, 1) := by decide +kernel
theorem dL_law_198 : decode cL_law 198 = .ok (.iadd, 1) := by decide +kernel
theorem dL_law_199 : decode cL_law 199 = .ok (.iaload, 1) := by decide +kernel
theorem dL_law_200 : decode cL_law 200 = .ok (.aload_n 0, 1) := by decide +kernel
theorem dL_law_201 : decode cL_law 201 = .ok (.iload_n 3, 1) := by decide +kernel
theorem dL_law_202 : decode cL_law 202 = .ok (.iconst 2, 1) := by decide +kernel
theorem dL_law_203 : decode cL_law 203 = .ok (.iadd, 1) := by decide +kernel
theorem dL_law_204 : decode cL_law 204 = .ok (.iaload, 1) := by decide +kernel
theorem dL_law_205 : decode cL_law 205 = .ok (.invokevirtual 17, 3) := by decide +kernel
theorem dL_law_208 : decode cL_law 208 = .ok (.if_icmp .eq 1153, 3) := by decide +kernel
theorem dL_law_211 : decode cL_law 211 = .ok (.iconst 0, 1) := by decide +kernel
theorem dL_law_212 : decode cL_law 212 = .ok (.ireturn, 1) := by decide +kernel
theorem dL_law_213 : decode cL_law 213 = .ok (.aload_n 1, 1) := by decide +kernel
theorem dL_law_214 : decode cL_law 214 = .ok (.aload_n 0, 1) := by decide +kernel
theorem dL_law_215 : decode cL_law 215 = .ok (.iload_n 3, 1) := by decide +kernel
theorem dL_law_216 : decode cL_law 216 = .ok (.iconst 1, 1) := by decide +kernel
theorem dL_law_217 : decode cL_law 217 = .ok (.iadd, 1) := by decide +kernel
theorem dL_law_218 : decode cL_law 218 = .ok (.iaload, 1) := by decide +kernel
theorem dL_law_219 : decode cL_law 219 = .ok (.aload_n 0, 1) := by decide +kernel
theorem dL_law_220 : decode cL_law 220 = .ok (.iload_n 3, 1) := by decide +kernel
theorem dL_law_221 : decode cL_law 221 = .ok (.iconst 2, 1) := by decide +kernel
theorem dL_law_222 : decode cL_law 222 = .ok (.iadd, 1) := by decide +kernel
theorem dL_law_223 : decode cL_law 223 = .ok (.iaload, 1) := by decide +kernel
theorem dL_law_224 : decode cL_law 224 = .ok (.invokevirtual 18, 3) := by decide +kernel
theorem dL_law_227 : decode cL_law 227 = .ok (.aload_n 2, 1) := by decide +kernel
theorem dL_law_228 : decode cL_law 228 = .ok (.aload_n 0, 1) := by decide +kernel
theorem dL_law_229 : decode cL_law 229 = .ok (.iload_n 3, 1) := by decide +kernel
theorem dL_law_230 : decode cL_law 230 = .ok (.iconst 1, 1) := by decide +kernel
theorem dL_law_231 : decode cL_law 231 = .ok (.iadd, 1) := by decide +kernel
theorem dL_law_232 : decode cL_law 232 = .ok (.iaload, 1) := by decide +kernel
theorem dL_law_233 : decode cL_law 233 = .ok (.aload_n 0, 1) := by decide +kernel
theorem dL_law_234 : decode cL_law 234 = .ok (.iload_n 3, 1) := by decide +kernel
theorem dL_law_235 : decode cL_law 235 = .ok (.iconst 2, 1) := by decide +kernel
theorem dL_law_236 : decode cL_law 236 = .ok (.iadd, 1) := by decide +kernel
theorem dL_law_237 : decode cL_law 237 = .ok (.iaload, 1) := by decide +kernel
theorem dL_law_238 : decode cL_law 238 = .ok (.invokevirtual 21, 3) := by decide +kernel
theorem dL_law_241 : decode cL_law 241 = .ok (.if_icmp .eq 1120, 3) := by decide +kernel
theorem dL_law_244 : decode cL_law 244 = .ok (.iconst 0, 1) := by decide +kernel
theorem dL_law_245 : decode cL_law 245 = .ok (.ireturn, 1) := by decide +kernel
theorem dL_law_246 : decode cL_law 246 = .ok (.aload_n 1, 1) := by decide +kernel
theorem dL_law_247 : decode cL_law 247 = .ok (.aload_n 0, 1) := by decide +kernel
theorem dL_law_248 : decode cL_law 248 = .ok (.iload_n 3, 1) := by decide +kernel
theorem dL_law_249 : decode cL_law 249 = .ok (.iconst 1, 1) := by decide +kernel
theorem dL_law_250 : decode cL_law 250 = .ok (.iadd, 1) := by decide +kernel
theorem dL_law_251 : decode cL_law 251 = .ok (.iaload, 1) := by decide +kernel
theorem dL_law_252 : decode cL_law 252 = .ok (.invokevirtual 22, 3) := by decide +kernel
theorem dL_law_255 : decode cL_law 255 = .ok (.aload_n 2, 1) := by decide +kernel
theorem dL_law_256 : decode cL_law 256 = .ok (.aload_n 0, 1) := by decide +kernel
theorem dL_law_257 : decode cL_law 257 = .ok (.iload_n 3, 1) := by decide +kernel
theorem dL_law_258 : decode cL_law 258 = .ok (.iconst 1, 1) := by decide +kernel
theorem dL_law_259 : decode cL_law 259 = .ok (.iadd, 1) := by decide +kernel
theorem dL_law_260 : decode cL_law 260 = .ok (.iaload, 1) := by decide +kernel
theorem dL_law_261 : decode cL_law 261 = .ok (.invokevirtual 26, 3) := by decide +kernel
theorem dL_law_264 : decode cL_law 264 = .ok (.if_icmp .eq 1097, 3) := by decide +kernel
theorem dL_law_267 : decode cL_law 267 = .ok (.iconst 0, 1) := by decide +kernel
theorem dL_law_268 : decode cL_law 268 = .ok (.ireturn, 1) := by decide +kernel
theorem dL_law_269 : decode cL_law 269 = .ok (.aload_n 1, 1) := by decide +kernel
theorem dL_law_270 : decode cL_law 270 = .ok (.aload_n 0, 1) := by decide +kernel
theorem dL_law_271 : decode cL_law 271 = .ok (.iload_n 3, 1) := by decide +kernel
theorem dL_law_272 : decode cL_law 272 = .ok (.iconst 1, 1) := by decide +kernel
theorem dL_law_273 : decode cL_law 273 = .ok (.iadd, 1) := by decide +kernel
theorem dL_law_274 : decode cL_law 274 = .ok (.iaload, 1) := by decide +kernel
theorem dL_law_275 : decode cL_law 275 = .ok (.aload_n 0, 1) := by decide +kernel
theorem dL_law_276 : decode cL_law 276 = .ok (.iload_n 3, 1) := by decide +kernel
theorem dL_law_277 : decode cL_law 277 = .ok (.iconst 2, 1) := by decide +kernel
theorem dL_law_278 : decode cL_law 278 = .ok (.iadd, 1) := by decide +kernel
theorem dL_law_279 : decode cL_law 279 = .ok (.iaload, 1) := by decide +kernel
theorem dL_law_280 : decode cL_law 280 = .ok (.aload_n 0, 1) := by decide +kernel
theorem dL_law_281 : decode cL_law 281 = .ok (.iload_n 3, 1) := by decide +kernel
theorem dL_law_282 : decode cL_law 282 = .ok (.iconst 3, 1) := by decide +kernel
theorem dL_law_283 : decode cL_law 283 = .ok (.iadd, 1) := by decide +kernel
theorem dL_law_284 : decode cL_law 284 = .ok (.iaload, 1) := by decide +kernel
theorem dL_law_285 : decode cL_law 285 = .ok (.aload_n 0, 1) := by decide +kernel
theorem dL_law_286 : decode cL_law 286 = .ok (.iload_n 3, 1) := by decide +kernel
theorem dL_law_287 : decode cL_law 287 = .ok (.iconst 4, 1) := by decide +kernel
theorem dL_law_288 : decode cL_law 288 = .ok (.iadd, 1) := by decide +kernel
theorem dL_law_289 : decode cL_law 289 = .ok (.iaload, 1) := by decide +kernel
theorem dL_law_290 : decode cL_law 290 = .ok (.aload_n 0, 1) := by decide +kernel
theorem dL_law_291 : decode cL_law 291 = .ok (.iload_n 3, 1) := by decide +kernel
theorem dL_law_292 : decode cL_law 292 = .ok (.iconst 5, 1) := by decide +kernel
theorem dL_law_293 : decode cL_law 293 = .ok (.iadd, 1) := by decide +kernel
theorem dL_law_294 : decode cL_law 294 = .ok (.iaload, 1) := by decide +kernel
theorem dL_law_295 : decode cL_law 295 = .ok (.ifCond .eq 7, 3) := by decide +kernel
theorem dL_law_298 : decode cL_law 298 = .ok (.iconst 1, 1) := by decide +kernel
theorem dL_law_299 : decode cL_law 299 = .ok (.goto 4, 3) := by decide +kernel
theorem dL_law_302 : decode cL_law 302 = .ok (.iconst 0, 1) := by decide +kernel
theorem dL_law_303 : decode cL_law 303 = .ok (.invokevirtual 27, 3) := by decide +kernel
theorem dL_law_306 : decode cL_law 306 = .ok (.aload_n 2, 1) := by decide +kernel
theorem dL_law_307 : decode cL_law 307 = .ok (.aload_n 0, 1) := by decide +kernel
theorem dL_law_308 : decode cL_law 308 = .ok (.iload_n 3, 1) := by decide +kernel
theorem dL_law_309 : decode cL_law 309 = .ok (.iconst 1, 1) := by decide +kernel
theorem dL_law_310 : decode cL_law 310 = .ok (.iadd, 1) := by decide +kernel
theorem dL_law_311 : decode cL_law 311 = .ok (.iaload, 1) := by decide +kernel
theorem dL_law_312 : decode cL_law 312 = .ok (.aload_n 0, 1) := by decide +kernel
theorem dL_law_313 : decode cL_law 313 = .ok (.iload_n 3, 1) := by decide +kernel
theorem dL_law_314 : decode cL_law 314 = .ok (.iconst 2, 1) := by decide +kernel
theorem dL_law_315 : decode cL_law 315 = .ok (.iadd, 1) := by decide +kernel
theorem dL_law_316 : decode cL_law 316 = .ok (.iaload, 1) := by decide +kernel
theorem dL_law_317 : decode cL_law 317 = .ok (.aload_n 0, 1) := by decide +kernel
theorem dL_law_318 : decode cL_law 318 = .ok (.iload_n 3, 1) := by decide +kernel
theorem dL_law_319 : decode cL_law 319 = .ok (.iconst 3, 1) := by decide +kernel
theorem dL_law_320 : decode cL_law 320 = .ok (.iadd, 1) := by decide +kernel
theorem dL_law_321 : decode cL_law 321 = .ok (.iaload, 1) := by decide +kernel
theorem dL_law_322 : decode cL_law 322 = .ok (.aload_n 0, 1) := by decide +kernel
theorem dL_law_323 : decode cL_law 323 = .ok (.iload_n 3, 1) := by decide +kernel
theorem dL_law_324 : decode cL_law 324 = .ok (.iconst 4, 1) := by decide +kernel
theorem dL_law_325 : decode cL_law 325 = .ok (.iadd, 1) := by decide +kernel
theorem dL_law_326 : decode cL_law 326 = .ok (.iaload, 1) := by decide +kernel
theorem dL_law_327 : decode cL_law 327 = .ok (.aload_n 0, 1) := by decide +kernel
theorem dL_law_328 : decode cL_law 328 = .ok (.iload_n 3, 1) := by decide +kernel
theorem dL_law_329 : decode cL_law 329 = .ok (.iconst 5, 1) := by decide +kernel
theorem dL_law_330 : decode cL_law 330 = .ok (.iadd, 1) := by decide +kernel
theorem dL_law_331 : decode cL_law 331 = .ok (.iaload, 1) := by decide +kernel
theorem dL_law_332 : decode cL_law 332 = .ok (.ifCond .eq 7, 3) := by decide +kernel
theorem dL_law_335 : decode cL_law 335 = .ok (.iconst 1, 1) := by decide +kernel
theorem dL_law_336 : decode cL_law 336 = .ok (.goto 4, 3) := by decide +kernel
theorem dL_law_339 : decode cL_law 339 = .ok (.iconst 0, 1) := by decide +kernel
theorem dL_law_340 : decode cL_law 340 = .ok (.invokevirtual 31, 3) := by decide +kernel
theorem dL_law_343 : decode cL_law 343 = .ok (.if_icmp .eq 1018, 3) := by decide +kernel
theorem dL_law_346 : decode cL_law 346 = .ok (.iconst 0, 1) := by decide +kernel
theorem dL_law_347 : decode cL_law 347 = .ok (.ireturn, 1) := by decide +kernel
theorem dL_law_348 : decode cL_law 348 = .ok (.aload_n 1, 1) := by decide +kernel
theorem dL_law_349 : decode cL_law 349 = .ok (.aload_n 0, 1) := by decide +kernel
theorem dL_law_350 : decode cL_law 350 = .ok (.iload_n 3, 1) := by decide +kernel
theorem dL_law_351 : decode cL_law 351 = .ok (.iconst 1, 1) := by decide +kernel
theorem dL_law_352 : decode cL_law 352 = .ok (.iadd, 1) := by decide +kernel
theorem dL_law_353 : decode cL_law 353 = .ok (.iaload, 1) := by decide +kernel
theorem dL_law_354 : decode cL_law 354 = .ok (.aload_n 0, 1) := by decide +kernel
theorem dL_law_355 : decode cL_law 355 = .ok (.iload_n 3, 1) := by decide +kernel
theorem dL_law_356 : decode cL_law 356 = .ok (.iconst 2, 1) := by decide +kernel
theorem dL_law_357 : decode cL_law 357 = .ok (.iadd, 1) := by decide +kernel
theorem dL_law_358 : decode cL_law 358 = .ok (.iaload, 1) := by decide +kernel
theorem dL_law_359 : decode cL_law 359 = .ok (.invokevirtual 32, 3) := by decide +kernel
theorem dL_law_362 : decode cL_law 362 = .ok (.aload_n 2, 1) := by decide +kernel
theorem dL_law_363 : decode cL_law 363 = .ok (.aload_n 0, 1) := by decide +kernel
theorem dL_law_364 : decode cL_law 364 = .ok (.iload_n 3, 1) := by decide +kernel
theorem dL_law_365 : decode cL_law 365 = .ok (.iconst 1, 1) := by decide +kernel
theorem dL_law_366 : decode cL_law 366 = .ok (.iadd, 1) := by decide +kernel
theorem dL_law_367 : decode cL_law 367 = .ok (.iaload, 1) := by decide +kernel
theorem dL_law_368 : decode cL_law 368 = .ok (.aload_n 0, 1) := by decide +kernel
theorem dL_law_369 : decode cL_law 369 = .ok (.iload_n 3, 1) := by decide +kernel
theorem dL_law_370 : decode cL_law 370 = .ok (.iconst 2, 1) := by decide +kernel
theorem dL_law_371 : decode cL_law 371 = .ok (.iadd, 1) := by decide +kernel
theorem dL_law_372 : decode cL_law 372 = .ok (.iaload, 1) := by decide +kernel
theorem dL_law_373 : decode cL_law 373 = .ok (.invokevirtual 35, 3) := by decide +kernel
theorem dL_law_376 : decode cL_law 376 = .ok (.if_icmp .eq 985, 3) := by decide +kernel
theorem dL_law_379 : decode cL_law 379 = .ok (.iconst 0, 1) := by decide +kernel
theorem dL_law_380 : decode cL_law 380 = .ok (.ireturn, 1) := by decide +kernel
theorem dL_law_381 : decode cL_law 381 = .ok (.aload_n 1, 1) := by decide +kernel
theorem dL_law_382 : decode cL_law 382 = .ok (.aload_n 0, 1) := by decide +kernel
theorem dL_law_383 : decode cL_law 383 = .ok (.iload_n 3, 1) := by decide +kernel
theorem dL_law_384 : decode cL_law 384 = .ok (.iconst 1, 1) := by decide +kernel
theorem dL_law_385 : decode cL_law 385 = .ok (.iadd, 1) := by decide +kernel
theorem dL_law_386 : decode cL_law 386 = .ok (.iaload, 1) := by decide +kernel
theorem dL_law_387 : decode cL_law 387 = .ok (.invokevirtual 36, 3) := by decide +kernel
theorem dL_law_390 : decode cL_law 390 = .ok (.aload_n 2, 1) := by decide +kernel
theorem dL_law_391 : decode cL_law 391 = .ok (.aload_n 0, 1) := by decide +kernel
theorem dL_law_392 : decode cL_law 392 = .ok (.iload_n 3, 1) := by decide +kernel
theorem dL_law_393 : decode cL_law 393 = .ok (.iconst 1, 1) := by decide +kernel
theorem dL_law_394 : decode cL_law 394 = .ok (.iadd, 1) := by decide +kernel
theorem dL_law_395 : decode cL_law 395 = .ok (.iaload, 1) := by decide +kernel
theorem dL_law_396 : decode cL_law 396 = .ok (.invokevirtual 39, 3) := by decide +kernel
theorem dL_law_399 : decode cL_law 399 = .ok (.if_icmp .eq 962, 3) := by decide +kernel
theorem dL_law_402 : decode cL_law 402 = .ok (.iconst 0, 1) := by decide +kernel
theorem dL_law_403 : decode cL_law 403 = .ok (.ireturn, 1) := by decide +kernel
theorem dL_law_404 : decode cL_law 404 = .ok (.aload_n 1, 1) := by decide +kernel
theorem dL_law_405 : decode cL_law 405 = .ok (.aload_n 0, 1) := by decide +kernel
theorem dL_law_406 : decode cL_law 406 = .ok (.iload_n 3, 1) := by decide +kernel
theorem dL_law_407 : decode cL_law 407 = .ok (.iconst 1, 1) := by decide +kernel
theorem dL_law_408 : decode cL_law 408 = .ok (.iadd, 1) := by decide +kernel
theorem dL_law_409 : decode cL_law 409 = .ok (.iaload, 1) := by decide +kernel
theorem dL_law_410 : decode cL_law 410 = .ok (.aload_n 0, 1) := by decide +kernel
theorem dL_law_411 : decode cL_law 411 = .ok (.iload_n 3, 1) := by decide +kernel
theorem dL_law_412 : decode cL_law 412 = .ok (.iconst 2, 1) := by decide +kernel
theorem dL_law_413 : decode cL_law 413 = .ok (.iadd, 1) := by decide +kernel
theorem dL_law_414 : decode cL_law 414 = .ok (.iaload, 1) := by decide +kernel
theorem dL_law_415 : decode cL_law 415 = .ok (.aload_n 0, 1) := by decide +kernel
theorem dL_law_416 : decode cL_law 416 = .ok (.iload_n 3, 1) := by decide +kernel
theorem dL_law_417 : decode cL_law 417 = .ok (.iconst 3, 1) := by decide +kernel
theorem dL_law_418 : decode cL_law 418 = .ok (.iadd, 1) := by decide +kernel
theorem dL_law_419 : decode cL_law 419 = .ok (.iaload, 1) := by decide +kernel
theorem dL_law_420 : decode cL_law 420 = .ok (.invokevirtual 40, 3) := by decide +kernel
theorem dL_law_423 : decode cL_law 423 = .ok (.aload_n 2, 1) := by decide +kernel
theorem dL_law_424 : decode cL_law 424 = .ok (.aload_n 0, 1) := by decide +kernel
theorem dL_law_425 : decode cL_law 425 = .ok (.iload_n 3, 1) := by decide +kernel
theorem dL_law_426 : decode cL_law 426 = .ok (.iconst 1, 1) := by decide +kernel
theorem dL_law_427 : decode cL_law 427 = .ok (.iadd, 1) := by decide +kernel
theorem dL_law_428 : decode cL_law 428 = .ok (.iaload, 1) := by decide +kernel
theorem dL_law_429 : decode cL_law 429 = .ok (.aload_n 0, 1) := by decide +kernel
theorem dL_law_430 : decode cL_law 430 = .ok (.iload_n 3, 1) := by decide +kernel
theorem dL_law_431 : decode cL_law 431 = .ok (.iconst 2, 1) := by decide +kernel
theorem dL_law_432 : decode cL_law 432 = .ok (.iadd, 1) := by decide +kernel
theorem dL_law_433 : decode cL_law 433 = .ok (.iaload, 1) := by decide +kernel
theorem dL_law_434 : decode cL_law 434 = .ok (.aload_n 0, 1) := by decide +kernel
theorem dL_law_435 : decode cL_law 435 = .ok (.iload_n 3, 1) := by decide +kernel
theorem dL_law_436 : decode cL_law 436 = .ok (.iconst 3, 1) := by decide +kernel
theorem dL_law_437 : decode cL_law 437 = .ok (.iadd, 1) := by decide +kernel
theorem dL_law_438 : decode cL_law 438 = .ok (.iaload, 1) := by decide +kernel
theorem dL_law_439 : decode cL_law 439 = .ok (.invokevirtual 44, 3) := by decide +kernel
theorem dL_law_442 : decode cL_law 442 = .ok (.if_icmp .eq 919, 3) := by decide +kernel
theorem dL_law_445 : decode cL_law 445 = .ok (.iconst 0, 1) := by decide +kernel
theorem dL_law_446 : decode cL_law 446 = .ok (.ireturn, 1) := by decide +kernel
theorem dL_law_447 : decode cL_law 447 = .ok (.aload_n 1, 1) := by decide +kernel
theorem dL_law_448 : decode cL_law 448 = .ok (.aload_n 0, 1) := by decide +kernel
theorem dL_law_449 : decode cL_law 449 = .ok (.iload_n 3, 1) := by decide +kernel
theorem dL_law_450 : decode cL_law 450 = .ok (.iconst 1, 1) := by decide +kernel
theorem dL_law_451 : decode cL_law 451 = .ok (.iadd, 1) := by decide +kernel
theorem dL_law_452 : decode cL_law 452 = .ok (.iaload, 1) := by decide +kernel
theorem dL_law_453 : decode cL_law 453 = .ok (.aload_n 0, 1) := by decide +kernel
theorem dL_law_454 : decode cL_law 454 = .ok (.iload_n 3, 1) := by decide +kernel
theorem dL_law_455 : decode cL_law 455 = .ok (.iconst 2, 1) := by decide +kernel
theorem dL_law_456 : decode cL_law 456 = .ok (.iadd, 1) := by decide +kernel
theorem dL_law_457 : decode cL_law 457 = .ok (.iaload, 1) := by decide +kernel
theorem dL_law_458 : decode cL_law 458 = .ok (.aload_n 0, 1) := by decide +kernel
theorem dL_law_459 : decode cL_law 459 = .ok (.iload_n 3, 1) := by decide +kernel
theorem dL_law_460 : decode cL_law 460 = .ok (.iconst 3, 1) := by decide +kernel
theorem dL_law_461 : decode cL_law 461 = .ok (.iadd, 1) := by decide +kernel
theorem dL_law_462 : decode cL_law 462 = .ok (.iaload, 1) := by decide +kernel
theorem dL_law_463 : decode cL_law 463 = .ok (.aload_n 0, 1) := by decide +kernel
theorem dL_law_464 : decode cL_law 464 = .ok (.iload_n 3, 1) := by decide +kernel
theorem dL_law_465 : decode cL_law 465 = .ok (.iconst 4, 1) := by decide +kernel
theorem dL_law_466 : decode cL_law 466 = .ok (.iadd, 1) := by decide +kernel
theorem dL_law_467 : decode cL_law 467 = .ok (.iaload, 1) := by decide +kernel
theorem dL_law_468 : decode cL_law 468 = .ok (.aload_n 0, 1) := by decide +kernel
theorem dL_law_469 : decode cL_law 469 = .ok (.iload_n 3, 1) := by decide +kernel
theorem dL_law_470 : decode cL_law 470 = .ok (.iconst 5, 1) := by decide +kernel
theorem dL_law_471 : decode cL_law 471 = .ok (.iadd, 1) := by decide +kernel
theorem dL_law_472 : decode cL_law 472 = .ok (.iaload, 1) := by decide +kernel
theorem dL_law_473 : decode cL_law 473 = .ok (.invokevirtual 45, 3) := by decide +kernel
theorem dL_law_476 : decode cL_law 476 = .ok (.aload_n 2, 1) := by decide +kernel
theorem dL_law_477 : decode cL_law 477 = .ok (.aload_n 0, 1) := by decide +kernel
theorem dL_law_478 : decode cL_law 478 = .ok (.iload_n 3, 1) := by decide +kernel
theorem dL_law_479 : decode cL_law 479 = .ok (.iconst 1, 1) := by decide +kernel
theorem dL_law_480 : decode cL_law 480 = .ok (.iadd, 1) := by decide +kernel
theorem dL_law_481 : decode cL_law 481 = .ok (.iaload, 1) := by decide +kernel
theorem dL_law_482 : decode cL_law 482 = .ok (.aload_n 0, 1) := by decide +kernel
theorem dL_law_483 : decode cL_law 483 = .ok (.iload_n 3, 1) := by decide +kernel
theorem dL_law_484 : decode cL_law 484 = .ok (.iconst 2, 1) := by decide +kernel
theorem dL_law_485 : decode cL_law 485 = .ok (.iadd, 1) := by decide +kernel
theorem dL_law_486 : decode cL_law 486 = .ok (.iaload, 1) := by decide +kernel
theorem dL_law_487 : decode cL_law 487 = .ok (.aload_n 0, 1) := by decide +kernel
theorem dL_law_488 : decode cL_law 488 = .ok (.iload_n 3, 1) := by decide +kernel
theorem dL_law_489 : decode cL_law 489 = .ok (.iconst 3, 1) := by decide +kernel
theorem dL_law_490 : decode cL_law 490 = .ok (.iadd, 1) := by decide +kernel
theorem dL_law_491 : decode cL_law 491 = .ok (.iaload, 1) := by decide +kernel
theorem dL_law_492 : decode cL_law 492 = .ok (.aload_n 0, 1) := by decide +kernel
theorem dL_law_493 : decode cL_law 493 = .ok (.iload_n 3, 1) := by decide +kernel
theorem dL_law_494 : decode cL_law 494 = .ok (.iconst 4, 1) := by decide +kernel
theorem dL_law_495 : decode cL_law 495 = .ok (.iadd, 1) := by decide +kernel
theorem dL_law_496 : decode cL_law 496 = .ok (.iaload, 1) := by decide +kernel
theorem dL_law_497 : decode cL_law 497 = .ok (.aload_n 0, 1) := by decide +kernel
theorem dL_law_498 : decode cL_law 498 = .ok (.iload_n 3, 1) := by decide +kernel
theorem dL_law_499 : decode cL_law 499 = .ok (.iconst 5, 1) := by decide +kernel
theorem dL_law_500 : decode cL_law 500 = .ok (.iadd, 1) := by decide +kernel
theorem dL_law_501 : decode cL_law 501 = .ok (.iaload, 1) := by decide +kernel
theorem dL_law_502 : decode cL_law 502 = .ok (.invokevirtual 49, 3) := by decide +kernel
theorem dL_law_505 : decode cL_law 505 = .ok (.if_icmp .eq 856, 3) := by decide +kernel
theorem dL_law_508 : decode cL_law 508 = .ok (.iconst 0, 1) := by decide +kernel
theorem dL_law_509 : decode cL_law 509 = .ok (.ireturn, 1) := by decide +kernel
theorem dL_law_510 : decode cL_law 510 = .ok (.aload_n 1, 1) := by decide +kernel
theorem dL_law_511 : decode cL_law 511 = .ok (.aload_n 0, 1) := by decide +kernel
theorem dL_law_512 : decode cL_law 512 = .ok (.iload_n 3, 1) := by decide +kernel
theorem dL_law_513 : decode cL_law 513 = .ok (.iconst 1, 1) := by decide +kernel
theorem dL_law_514 : decode cL_law 514 = .ok (.iadd, 1) := by decide +kernel
theorem dL_law_515 : decode cL_law 515 = .ok (.iaload, 1) := by decide +kernel
theorem dL_law_516 : decode cL_law 516 = .ok (.aload_n 0, 1) := by decide +kernel
theorem dL_law_517 : decode cL_law 517 = .ok (.iload_n 3, 1) := by decide +kernel
theorem dL_law_518 : decode cL_law 518 = .ok (.iconst 2, 1) := by decide +kernel
theorem dL_law_519 : decode cL_law 519 = .ok (.iadd, 1) := by decide +kernel
theorem dL_law_520 : decode cL_law 520 = .ok (.iaload, 1) := by decide +kernel
theorem dL_law_521 : decode cL_law 521 = .ok (.invokevirtual 50, 3) := by decide +kernel
theorem dL_law_524 : decode cL_law 524 = .ok (.aload_n 2, 1) := by decide +kernel
theorem dL_law_525 : decode cL_law 525 = .ok (.aload_n 0, 1) := by decide +kernel
theorem dL_law_526 : decode cL_law 526 = .ok (.iload_n 3, 1) := by decide +kernel
theorem dL_law_527 : decode cL_law 527 = .ok (.iconst 1, 1) := by decide +kernel
theorem dL_law_528 : decode cL_law 528 = .ok (.iadd, 1) := by decide +kernel
theorem dL_law_529 : decode cL_law 529 = .ok (.iaload, 1) := by decide +kernel
theorem dL_law_530 : decode cL_law 530 = .ok (.aload_n 0, 1) := by decide +kernel
theorem dL_law_531 : decode cL_law 531 = .ok (.iload_n 3, 1) := by decide +kernel
theorem dL_law_532 : decode cL_law 532 = .ok (.iconst 2, 1) := by decide +kernel
theorem dL_law_533 : decode cL_law 533 = .ok (.iadd, 1) := by decide +kernel
theorem dL_law_534 : decode cL_law 534 = .ok (.iaload, 1) := by decide +kernel
theorem dL_law_535 : decode cL_law 535 = .ok (.invokevirtual 53, 3) := by decide +kernel
theorem dL_law_538 : decode cL_law 538 = .ok (.if_icmp .eq 823, 3) := by decide +kernel
theorem dL_law_541 : decode cL_law 541 = .ok (.iconst 0, 1) := by decide +kernel
theorem dL_law_542 : decode cL_law 542 = .ok (.ireturn, 1) := by decide +kernel
theorem dL_law_543 : decode cL_law 543 = .ok (.aload_n 1, 1) := by decide +kernel
theorem dL_law_544 : decode cL_law 544 = .ok (.aload_n 0, 1) := by decide +kernel
theorem dL_law_545 : decode cL_law 545 = .ok (.iload_n 3, 1) := by decide +kernel
theorem dL_law_546 : decode cL_law 546 = .ok (.iconst 1, 1) := by decide +kernel
theorem dL_law_547 : decode cL_law 547 = .ok (.iadd, 1) := by decide +kernel
theorem dL_law_548 : decode cL_law 548 = .ok (.iaload, 1) := by decide +kernel
theorem dL_law_549 : decode cL_law 549 = .ok (.aload_n 0, 1) := by decide +kernel
theorem dL_law_550 : decode cL_law 550 = .ok (.iload_n 3, 1) := by decide +kernel
theorem dL_law_551 : decode cL_law 551 = .ok (.iconst 2, 1) := by decide +kernel
theorem dL_law_552 : decode cL_law 552 = .ok (.iadd, 1) := by decide +kernel
theorem dL_law_553 : decode cL_law 553 = .ok (.iaload, 1) := by decide +kernel
theorem dL_law_554 : decode cL_law 554 = .ok (.invokevirtual 54, 3) := by decide +kernel
theorem dL_law_557 : decode cL_law 557 = .ok (.aload_n 2, 1) := by decide +kernel
theorem dL_law_558 : decode cL_law 558 = .ok (.aload_n 0, 1) := by decide +kernel
theorem dL_law_559 : decode cL_law 559 = .ok (.iload_n 3, 1) := by decide +kernel
theorem dL_law_560 : decode cL_law 560 = .ok (.iconst 1, 1) := by decide +kernel
theorem dL_law_561 : decode cL_law 561 = .ok (.iadd, 1) := by decide +kernel
theorem dL_law_562 : decode cL_law 562 = .ok (.iaload, 1) := by decide +kernel
theorem dL_law_563 : decode cL_law 563 = .ok (.aload_n 0, 1) := by decide +kernel
theorem dL_law_564 : decode cL_law 564 = .ok (.iload_n 3, 1) := by decide +kernel
theorem dL_law_565 : decode cL_law 565 = .ok (.iconst 2, 1) := by decide +kernel
theorem dL_law_566 : decode cL_law 566 = .ok (.iadd, 1) := by decide +kernel
theorem dL_law_567 : decode cL_law 567 = .ok (.iaload, 1) := by decide +kernel
theorem dL_law_568 : decode cL_law 568 = .ok (.invokevirtual 57, 3) := by decide +kernel
theorem dL_law_571 : decode cL_law 571 = .ok (.if_icmp .eq 790, 3) := by decide +kernel
theorem dL_law_574 : decode cL_law 574 = .ok (.iconst 0, 1) := by decide +kernel
theorem dL_law_575 : decode cL_law 575 = .ok (.ireturn, 1) := by decide +kernel
theorem dL_law_576 : decode cL_law 576 = .ok (.aload_n 1, 1) := by decide +kernel
theorem dL_law_577 : decode cL_law 577 = .ok (.aload_n 0, 1) := by decide +kernel
theorem dL_law_578 : decode cL_law 578 = .ok (.iload_n 3, 1) := by decide +kernel
theorem dL_law_579 : decode cL_law 579 = .ok (.iconst 1, 1) := by decide +kernel
theorem dL_law_580 : decode cL_law 580 = .ok (.iadd, 1) := by decide +kernel
theorem dL_law_581 : decode cL_law 581 = .ok (.iaload, 1) := by decide +kernel
theorem dL_law_582 : decode cL_law 582 = .ok (.invokevirtual 58, 3) := by decide +kernel
theorem dL_law_585 : decode cL_law 585 = .ok (.aload_n 2, 1) := by decide +kernel
theorem dL_law_586 : decode cL_law 586 = .ok (.aload_n 0, 1) := by decide +kernel
theorem dL_law_587 : decode cL_law 587 = .ok (.iload_n 3, 1) := by decide +kernel
theorem dL_law_588 : decode cL_law 588 = .ok (.iconst 1, 1) := by decide +kernel
theorem dL_law_589 : decode cL_law 589 = .ok (.iadd, 1) := by decide +kernel
theorem dL_law_590 : decode cL_law 590 = .ok (.iaload, 1) := by decide +kernel
theorem dL_law_591 : decode cL_law 591 = .ok (.invokevirtual 61, 3) := by decide +kernel
theorem dL_law_594 : decode cL_law 594 = .ok (.if_icmp .eq 767, 3) := by decide +kernel
theorem dL_law_597 : decode cL_law 597 = .ok (.iconst 0, 1) := by decide +kernel
theorem dL_law_598 : decode cL_law 598 = .ok (.ireturn, 1) := by decide +kernel
theorem dL_law_599 : decode cL_law 599 = .ok (.aload_n 1, 1) := by decide +kernel
theorem dL_law_600 : decode cL_law 600 = .ok (.aload_n 0, 1) := by decide +kernel
theorem dL_law_601 : decode cL_law 601 = .ok (.iload_n 3, 1) := by decide +kernel
theorem dL_law_602 : decode cL_law 602 = .ok (.iconst 1, 1) := by decide +kernel
theorem dL_law_603 : decode cL_law 603 = .ok (.iadd, 1) := by decide +kernel
theorem dL_law_604 : decode cL_law 604 = .ok (.iaload, 1) := by decide +kernel
theorem dL_law_605 : decode cL_law 605 = .ok (.aload_n 0, 1) := by decide +kernel
theorem dL_law_606 : decode cL_law 606 = .ok (.iload_n 3, 1) := by decide +kernel
theorem dL_law_607 : decode cL_law 607 = .ok (.iconst 2, 1) := by decide +kernel
theorem dL_law_608 : decode cL_law 608 = .ok (.iadd, 1) := by decide +kernel
theorem dL_law_609 : decode cL_law 609 = .ok (.iaload, 1) := by decide +kernel
theorem dL_law_610 : decode cL_law 610 = .ok (.ifCond .eq 7, 3) := by decide +kernel
theorem dL_law_613 : decode cL_law 613 = .ok (.iconst 1, 1) := by decide +kernel
theorem dL_law_614 : decode cL_law 614 = .ok (.goto 4, 3) := by decide +kernel
theorem dL_law_617 : decode cL_law 617 = .ok (.iconst 0, 1) := by decide +kernel
theorem dL_law_618 : decode cL_law 618 = .ok (.invokevirtual 62, 3) := by decide +kernel
theorem dL_law_621 : decode cL_law 621 = .ok (.aload_n 2, 1) := by decide +kernel
theorem dL_law_622 : decode cL_law 622 = .ok (.aload_n 0, 1) := by decide +kernel
theorem dL_law_623 : decode cL_law 623 = .ok (.iload_n 3, 1) := by decide +kernel
theorem dL_law_624 : decode cL_law 624 = .ok (.iconst 1, 1) := by decide +kernel
theorem dL_law_625 : decode cL_law 625 = .ok (.iadd, 1) := by decide +kernel
theorem dL_law_626 : decode cL_law 626 = .ok (.iaload, 1) := by decide +kernel
theorem dL_law_627 : decode cL_law 627 = .ok (.aload_n 0, 1) := by decide +kernel
theorem dL_law_628 : decode cL_law 628 = .ok (.iload_n 3, 1) := by decide +kernel
theorem dL_law_629 : decode cL_law 629 = .ok (.iconst 2, 1) := by decide +kernel
theorem dL_law_630 : decode cL_law 630 = .ok (.iadd, 1) := by decide +kernel
theorem dL_law_631 : decode cL_law 631 = .ok (.iaload, 1) := by decide +kernel
theorem dL_law_632 : decode cL_law 632 = .ok (.ifCond .eq 7, 3) := by decide +kernel
theorem dL_law_635 : decode cL_law 635 = .ok (.iconst 1, 1) := by decide +kernel
theorem dL_law_636 : decode cL_law 636 = .ok (.goto 4, 3) := by decide +kernel
theorem dL_law_639 : decode cL_law 639 = .ok (.iconst 0, 1) := by decide +kernel
theorem dL_law_640 : decode cL_law 640 = .ok (.invokevirtual 66, 3) := by decide +kernel
theorem dL_law_643 : decode cL_law 643 = .ok (.if_icmp .eq 718, 3) := by decide +kernel
theorem dL_law_646 : decode cL_law 646 = .ok (.iconst 0, 1) := by decide +kernel
theorem dL_law_647 : decode cL_law 647 = .ok (.ireturn, 1) := by decide +kernel
theorem dL_law_648 : decode cL_law 648 = .ok (.aload_n 1, 1) := by decide +kernel
theorem dL_law_649 : decode cL_law 649 = .ok (.aload_n 0, 1) := by decide +kernel
theorem dL_law_650 : decode cL_law 650 = .ok (.iload_n 3, 1) := by decide +kernel
theorem dL_law_651 : decode cL_law 651 = .ok (.iconst 1, 1) := by decide +kernel
theorem dL_law_652 : decode cL_law 652 = .ok (.iadd, 1) := by decide +kernel
theorem dL_law_653 : decode cL_law 653 = .ok (.iaload, 1) := by decide +kernel
theorem dL_law_654 : decode cL_law 654 = .ok (.aload_n 0, 1) := by decide +kernel
theorem dL_law_655 : decode cL_law 655 = .ok (.iload_n 3, 1) := by decide +kernel
theorem dL_law_656 : decode cL_law 656 = .ok (.iconst 2, 1) := by decide +kernel
theorem dL_law_657 : decode cL_law 657 = .ok (.iadd, 1) := by decide +kernel
theorem dL_law_658 : decode cL_law 658 = .ok (.iaload, 1) := by decide +kernel
theorem dL_law_659 : decode cL_law 659 = .ok (.invokevirtual 67, 3) := by decide +kernel
theorem dL_law_662 : decode cL_law 662 = .ok (.aload_n 2, 1) := by decide +kernel
theorem dL_law_663 : decode cL_law 663 = .ok (.aload_n 0, 1) := by decide +kernel
theorem dL_law_664 : decode cL_law 664 = .ok (.iload_n 3, 1) := by decide +kernel
theorem dL_law_665 : decode cL_law 665 = .ok (.iconst 1, 1) := by decide +kernel
theorem dL_law_666 : decode cL_law 666 = .ok (.iadd, 1) := by decide +kernel
theorem dL_law_667 : decode cL_law 667 = .ok (.iaload, 1) := by decide +kernel
theorem dL_law_668 : decode cL_law 668 = .ok (.aload_n 0, 1) := by decide +kernel
theorem dL_law_669 : decode cL_law 669 = .ok (.iload_n 3, 1) := by decide +kernel
theorem dL_law_670 : decode cL_law 670 = .ok (.iconst 2, 1) := by decide +kernel
theorem dL_law_671 : decode cL_law 671 = .ok (.iadd, 1) := by decide +kernel
theorem dL_law_672 : decode cL_law 672 = .ok (.iaload, 1) := by decide +kernel
theorem dL_law_673 : decode cL_law 673 = .ok (.invokevirtual 70, 3) := by decide +kernel
theorem dL_law_676 : decode cL_law 676 = .ok (.if_icmp .eq 685, 3) := by decide +kernel
theorem dL_law_679 : decode cL_law 679 = .ok (.iconst 0, 1) := by decide +kernel
theorem dL_law_680 : decode cL_law 680 = .ok (.ireturn, 1) := by decide +kernel
theorem dL_law_681 : decode cL_law 681 = .ok (.aload_n 1, 1) := by decide +kernel
theorem dL_law_682 : decode cL_law 682 = .ok (.aload_n 0, 1) := by decide +kernel
theorem dL_law_683 : decode cL_law 683 = .ok (.iload_n 3, 1) := by decide +kernel
theorem dL_law_684 : decode cL_law 684 = .ok (.iconst 1, 1) := by decide +kernel
theorem dL_law_685 : decode cL_law 685 = .ok (.iadd, 1) := by decide +kernel
theorem dL_law_686 : decode cL_law 686 = .ok (.iaload, 1) := by decide +kernel
theorem dL_law_687 : decode cL_law 687 = .ok (.aload_n 0, 1) := by decide +kernel
theorem dL_law_688 : decode cL_law 688 = .ok (.iload_n 3, 1) := by decide +kernel
theorem dL_law_689 : decode cL_law 689 = .ok (.iconst 2, 1) := by decide +kernel
theorem dL_law_690 : decode cL_law 690 = .ok (.iadd, 1) := by decide +kernel
theorem dL_law_691 : decode cL_law 691 = .ok (.iaload, 1) := by decide +kernel
theorem dL_law_692 : decode cL_law 692 = .ok (.aload_n 0, 1) := by decide +kernel
theorem dL_law_693 : decode cL_law 693 = .ok (.iload_n 3, 1) := by decide +kernel
theorem dL_law_694 : decode cL_law 694 = .ok (.iconst 3, 1) := by decide +kernel
theorem dL_law_695 : decode cL_law 695 = .ok (.iadd, 1) := by decide +kernel
theorem dL_law_696 : decode cL_law 696 = .ok (.iaload, 1) := by decide +kernel
theorem dL_law_697 : decode cL_law 697 = .ok (.aload_n 0, 1) := by decide +kernel
theorem dL_law_698 : decode cL_law 698 = .ok (.iload_n 3, 1) := by decide +kernel
theorem dL_law_699 : decode cL_law 699 = .ok (.iconst 4, 1) := by decide +kernel
theorem dL_law_700 : decode cL_law 700 = .ok (.iadd, 1) := by decide +kernel
theorem dL_law_701 : decode cL_law 701 = .ok (.iaload, 1) := by decide +kernel
theorem dL_law_702 : decode cL_law 702 = .ok (.aload_n 0, 1) := by decide +kernel
theorem dL_law_703 : decode cL_law 703 = .ok (.iload_n 3, 1) := by decide +kernel
theorem dL_law_704 : decode cL_law 704 = .ok (.iconst 5, 1) := by decide +kernel
theorem dL_law_705 : decode cL_law 705 = .ok (.iadd, 1) := by decide +kernel
theorem dL_law_706 : decode cL_law 706 = .ok (.iaload, 1) := by decide +kernel
theorem dL_law_707 : decode cL_law 707 = .ok (.invokevirtual 71, 3) := by decide +kernel
theorem dL_law_710 : decode cL_law 710 = .ok (.aload_n 2, 1) := by decide +kernel
theorem dL_law_711 : decode cL_law 711 = .ok (.aload_n 0, 1) := by decide +kernel
theorem dL_law_712 : decode cL_law 712 = .ok (.iload_n 3, 1) := by decide +kernel
theorem dL_law_713 : decode cL_law 713 = .ok (.iconst 1, 1) := by decide +kernel
theorem dL_law_714 : decode cL_law 714 = .ok (.iadd, 1) := by decide +kernel
theorem dL_law_715 : decode cL_law 715 = .ok (.iaload, 1) := by decide +kernel
theorem dL_law_716 : decode cL_law 716 = .ok (.aload_n 0, 1) := by decide +kernel
theorem dL_law_717 : decode cL_law 717 = .ok (.iload_n 3, 1) := by decide +kernel
theorem dL_law_718 : decode cL_law 718 = .ok (.iconst 2, 1) := by decide +kernel
theorem dL_law_719 : decode cL_law 719 = .ok (.iadd, 1) := by decide +kernel
theorem dL_law_720 : decode cL_law 720 = .ok (.iaload, 1) := by decide +kernel
theorem dL_law_721 : decode cL_law 721 = .ok (.aload_n 0, 1) := by decide +kernel
theorem dL_law_722 : decode cL_law 722 = .ok (.iload_n 3, 1) := by decide +kernel
theorem dL_law_723 : decode cL_law 723 = .ok (.iconst 3, 1) := by decide +kernel
theorem dL_law_724 : decode cL_law 724 = .ok (.iadd, 1) := by decide +kernel
theorem dL_law_725 : decode cL_law 725 = .ok (.iaload, 1) := by decide +kernel
theorem dL_law_726 : decode cL_law 726 = .ok (.aload_n 0, 1) := by decide +kernel
theorem dL_law_727 : decode cL_law 727 = .ok (.iload_n 3, 1) := by decide +kernel
theorem dL_law_728 : decode cL_law 728 = .ok (.iconst 4, 1) := by decide +kernel
theorem dL_law_729 : decode cL_law 729 = .ok (.iadd, 1) := by decide +kernel
theorem dL_law_730 : decode cL_law 730 = .ok (.iaload, 1) := by decide +kernel
theorem dL_law_731 : decode cL_law 731 = .ok (.aload_n 0, 1) := by decide +kernel
theorem dL_law_732 : decode cL_law 732 = .ok (.iload_n 3, 1) := by decide +kernel
theorem dL_law_733 : decode cL_law 733 = .ok (.iconst 5, 1) := by decide +kernel
theorem dL_law_734 : decode cL_law 734 = .ok (.iadd, 1) := by decide +kernel
theorem dL_law_735 : decode cL_law 735 = .ok (.iaload, 1) := by decide +kernel
theorem dL_law_736 : decode cL_law 736 = .ok (.invokevirtual 74, 3) := by decide +kernel
theorem dL_law_739 : decode cL_law 739 = .ok (.if_icmp .eq 622, 3) := by decide +kernel
theorem dL_law_742 : decode cL_law 742 = .ok (.iconst 0, 1) := by decide +kernel
theorem dL_law_743 : decode cL_law 743 = .ok (.ireturn, 1) := by decide +kernel
theorem dL_law_744 : decode cL_law 744 = .ok (.aload_n 1, 1) := by decide +kernel
theorem dL_law_745 : decode cL_law 745 = .ok (.aload_n 0, 1) := by decide +kernel
theorem dL_law_746 : decode cL_law 746 = .ok (.iload_n 3, 1) := by decide +kernel
theorem dL_law_747 : decode cL_law 747 = .ok (.iconst 1, 1) := by decide +kernel
theorem dL_law_748 : decode cL_law 748 = .ok (.iadd, 1) := by decide +kernel
theorem dL_law_749 : decode cL_law 749 = .ok (.iaload, 1) := by decide +kernel
theorem dL_law_750 : decode cL_law 750 = .ok (.aload_n 0, 1) := by decide +kernel
theorem dL_law_751 : decode cL_law 751 = .ok (.iload_n 3, 1) := by decide +kernel
theorem dL_law_752 : decode cL_law 752 = .ok (.iconst 2, 1) := by decide +kernel
theorem dL_law_753 : decode cL_law 753 = .ok (.iadd, 1) := by decide +kernel
theorem dL_law_754 : decode cL_law 754 = .ok (.iaload, 1) := by decide +kernel
theorem dL_law_755 : decode cL_law 755 = .ok (.aload_n 0, 1) := by decide +kernel
theorem dL_law_756 : decode cL_law 756 = .ok (.iload_n 3, 1) := by decide +kernel
theorem dL_law_757 : decode cL_law 757 = .ok (.iconst 3, 1) := by decide +kernel
theorem dL_law_758 : decode cL_law 758 = .ok (.iadd, 1) := by decide +kernel
theorem dL_law_759 : decode cL_law 759 = .ok (.iaload, 1) := by decide +kernel
theorem dL_law_760 : decode cL_law 760 = .ok (.invokevirtual 75, 3) := by decide +kernel
theorem dL_law_763 : decode cL_law 763 = .ok (.aload_n 2, 1) := by decide +kernel
theorem dL_law_764 : decode cL_law 764 = .ok (.aload_n 0, 1) := by decide +kernel
theorem dL_law_765 : decode cL_law 765 = .ok (.iload_n 3, 1) := by decide +kernel
theorem dL_law_766 : decode cL_law 766 = .ok (.iconst 1, 1) := by decide +kernel
theorem dL_law_767 : decode cL_law 767 = .ok (.iadd, 1) := by decide +kernel
theorem dL_law_768 : decode cL_law 768 = .ok (.iaload, 1) := by decide +kernel
theorem dL_law_769 : decode cL_law 769 = .ok (.aload_n 0, 1) := by decide +kernel
theorem dL_law_770 : decode cL_law 770 = .ok (.iload_n 3, 1) := by decide +kernel
theorem dL_law_771 : decode cL_law 771 = .ok (.iconst 2, 1) := by decide +kernel
theorem dL_law_772 : decode cL_law 772 = .ok (.iadd, 1) := by decide +kernel
theorem dL_law_773 : decode cL_law 773 = .ok (.iaload, 1) := by decide +kernel
theorem dL_law_774 : decode cL_law 774 = .ok (.aload_n 0, 1) := by decide +kernel
theorem dL_law_775 : decode cL_law 775 = .ok (.iload_n 3, 1) := by decide +kernel
theorem dL_law_776 : decode cL_law 776 = .ok (.iconst 3, 1) := by decide +kernel
theorem dL_law_777 : decode cL_law 777 = .ok (.iadd, 1) := by decide +kernel
theorem dL_law_778 : decode cL_law 778 = .ok (.iaload, 1) := by decide +kernel
theorem dL_law_779 : decode cL_law 779 = .ok (.invokevirtual 78, 3) := by decide +kernel
theorem dL_law_782 : decode cL_law 782 = .ok (.if_icmp .eq 579, 3) := by decide +kernel
theorem dL_law_785 : decode cL_law 785 = .ok (.iconst 0, 1) := by decide +kernel
theorem dL_law_786 : decode cL_law 786 = .ok (.ireturn, 1) := by decide +kernel
theorem dL_law_787 : decode cL_law 787 = .ok (.aload_n 1, 1) := by decide +kernel
theorem dL_law_788 : decode cL_law 788 = .ok (.aload_n 0, 1) := by decide +kernel
theorem dL_law_789 : decode cL_law 789 = .ok (.iload_n 3, 1) := by decide +kernel
theorem dL_law_790 : decode cL_law 790 = .ok (.iconst 1, 1) := by decide +kernel
theorem dL_law_791 : decode cL_law 791 = .ok (.iadd, 1) := by decide +kernel
theorem dL_law_792 : decode cL_law 792 = .ok (.iaload, 1) := by decide +kernel
theorem dL_law_793 : decode cL_law 793 = .ok (.invokevirtual 79, 3) := by decide +kernel
theorem dL_law_796 : decode cL_law 796 = .ok (.aload_n 2, 1) := by decide +kernel
theorem dL_law_797 : decode cL_law 797 = .ok (.aload_n 0, 1) := by decide +kernel
theorem dL_law_798 : decode cL_law 798 = .ok (.iload_n 3, 1) := by decide +kernel
theorem dL_law_799 : decode cL_law 799 = .ok (.iconst 1, 1) := by decide +kernel
theorem dL_law_800 : decode cL_law 800 = .ok (.iadd, 1) := by decide +kernel
theorem dL_law_801 : decode cL_law 801 = .ok (.iaload, 1) := by decide +kernel
theorem dL_law_802 : decode cL_law 802 = .ok (.invokevirtual 82, 3) := by decide +kernel
theorem dL_law_805 : decode cL_law 805 = .ok (.if_icmp .eq 556, 3) := by decide +kernel
theorem dL_law_808 : decode cL_law 808 = .ok (.iconst 0, 1) := by decide +kernel
theorem dL_law_809 : decode cL_law 809 = .ok (.ireturn, 1) := by decide +kernel
theorem dL_law_810 : decode cL_law 810 = .ok (.aload_n 1, 1) := by decide +kernel
theorem dL_law_811 : decode cL_law 811 = .ok (.aload_n 0, 1) := by decide +kernel
theorem dL_law_812 : decode cL_law 812 = .ok (.iload_n 3, 1) := by decide +kernel
theorem dL_law_813 : decode cL_law 813 = .ok (.iconst 1, 1) := by decide +kernel
theorem dL_law_814 : decode cL_law 814 = .ok (.iadd, 1) := by decide +kernel
theorem dL_law_815 : decode cL_law 815 = .ok (.iaload, 1) := by decide +kernel
theorem dL_law_816 : decode cL_law 816 = .ok (.invokevirtual 83, 3) := by decide +kernel
theorem dL_law_819 : decode cL_law 819 = .ok (.aload_n 2, 1) := by decide +kernel
theorem dL_law_820 : decode cL_law 820 = .ok (.aload_n 0, 1) := by decide +kernel
theorem dL_law_821 : decode cL_law 821 = .ok (.iload_n 3, 1) := by decide +kernel
theorem dL_law_822 : decode cL_law 822 = .ok (.iconst 1, 1) := by decide +kernel
theorem dL_law_823 : decode cL_law 823 = .ok (.iadd, 1) := by decide +kernel
theorem dL_law_824 : decode cL_law 824 = .ok (.iaload, 1) := by decide +kernel
theorem dL_law_825 : decode cL_law 825 = .ok (.invokevirtual 86, 3) := by decide +kernel
theorem dL_law_828 : decode cL_law 828 = .ok (.if_icmp .eq 533, 3) := by decide +kernel
theorem dL_law_831 : decode cL_law 831 = .ok (.iconst 0, 1) := by decide +kernel
theorem dL_law_832 : decode cL_law 832 = .ok (.ireturn, 1) := by decide +kernel
theorem dL_law_833 : decode cL_law 833 = .ok (.aload_n 1, 1) := by decide +kernel
theorem dL_law_834 : decode cL_law 834 = .ok (.aload_n 0, 1) := by decide +kernel
theorem dL_law_835 : decode cL_law 835 = .ok (.iload_n 3, 1) := by decide +kernel
theorem dL_law_836 : decode cL_law 836 = .ok (.iconst 1, 1) := by decide +kernel
theorem dL_law_837 : decode cL_law 837 = .ok (.iadd, 1) := by decide +kernel
theorem dL_law_838 : decode cL_law 838 = .ok (.iaload, 1) := by decide +kernel
theorem dL_law_839 : decode cL_law 839 = .ok (.invokevirtual 87, 3) := by decide +kernel
theorem dL_law_842 : decode cL_law 842 = .ok (.aload_n 2, 1) := by decide +kernel
theorem dL_law_843 : decode cL_law 843 = .ok (.aload_n 0, 1) := by decide +kernel
theorem dL_law_844 : decode cL_law 844 = .ok (.iload_n 3, 1) := by decide +kernel
theorem dL_law_845 : decode cL_law 845 = .ok (.iconst 1, 1) := by decide +kernel
theorem dL_law_846 : decode cL_law 846 = .ok (.iadd, 1) := by decide +kernel
theorem dL_law_847 : decode cL_law 847 = .ok (.iaload, 1) := by decide +kernel
theorem dL_law_848 : decode cL_law 848 = .ok (.invokevirtual 90, 3) := by decide +kernel
theorem dL_law_851 : decode cL_law 851 = .ok (.if_icmp .eq 510, 3) := by decide +kernel
theorem dL_law_854 : decode cL_law 854 = .ok (.iconst 0, 1) := by decide +kernel
theorem dL_law_855 : decode cL_law 855 = .ok (.ireturn, 1) := by decide +kernel
theorem dL_law_856 : decode cL_law 856 = .ok (.aload_n 1, 1) := by decide +kernel
theorem dL_law_857 : decode cL_law 857 = .ok (.aload_n 0, 1) := by decide +kernel
theorem dL_law_858 : decode cL_law 858 = .ok (.iload_n 3, 1) := by decide +kernel
theorem dL_law_859 : decode cL_law 859 = .ok (.iconst 1, 1) := by decide +kernel
theorem dL_law_860 : decode cL_law 860 = .ok (.iadd, 1) := by decide +kernel
theorem dL_law_861 : decode cL_law 861 = .ok (.iaload, 1) := by decide +kernel
theorem dL_law_862 : decode cL_law 862 = .ok (.invokevirtual 91, 3) := by decide +kernel
theorem dL_law_865 : decode cL_law 865 = .ok (.aload_n 2, 1) := by decide +kernel
theorem dL_law_866 : decode cL_law 866 = .ok (.aload_n 0, 1) := by decide +kernel
theorem dL_law_867 : decode cL_law 867 = .ok (.iload_n 3, 1) := by decide +kernel
theorem dL_law_868 : decode cL_law 868 = .ok (.iconst 1, 1) := by decide +kernel
theorem dL_law_869 : decode cL_law 869 = .ok (.iadd, 1) := by decide +kernel
theorem dL_law_870 : decode cL_law 870 = .ok (.iaload, 1) := by decide +kernel
theorem dL_law_871 : decode cL_law 871 = .ok (.invokevirtual 94, 3) := by decide +kernel
theorem dL_law_874 : decode cL_law 874 = .ok (.if_icmp .eq 487, 3) := by decide +kernel
theorem dL_law_877 : decode cL_law 877 = .ok (.iconst 0, 1) := by decide +kernel
theorem dL_law_878 : decode cL_law 878 = .ok (.ireturn, 1) := by decide +kernel
theorem dL_law_879 : decode cL_law 879 = .ok (.aload_n 1, 1) := by decide +kernel
theorem dL_law_880 : decode cL_law 880 = .ok (.aload_n 0, 1) := by decide +kernel
theorem dL_law_881 : decode cL_law 881 = .ok (.iload_n 3, 1) := by decide +kernel
theorem dL_law_882 : decode cL_law 882 = .ok (.iconst 1, 1) := by decide +kernel
theorem dL_law_883 : decode cL_law 883 = .ok (.iadd, 1) := by decide +kernel
theorem dL_law_884 : decode cL_law 884 = .ok (.iaload, 1) := by decide +kernel
theorem dL_law_885 : decode cL_law 885 = .ok (.aload_n 0, 1) := by decide +kernel
theorem dL_law_886 : decode cL_law 886 = .ok (.iload_n 3, 1) := by decide +kernel
theorem dL_law_887 : decode cL_law 887 = .ok (.iconst 2, 1) := by decide +kernel
theorem dL_law_888 : decode cL_law 888 = .ok (.iadd, 1) := by decide +kernel
theorem dL_law_889 : decode cL_law 889 = .ok (.iaload, 1) := by decide +kernel
theorem dL_law_890 : decode cL_law 890 = .ok (.invokevirtual 95, 3) := by decide +kernel
theorem dL_law_893 : decode cL_law 893 = .ok (.aload_n 2, 1) := by decide +kernel
theorem dL_law_894 : decode cL_law 894 = .ok (.aload_n 0, 1) := by decide +kernel
theorem dL_law_895 : decode cL_law 895 = .ok (.iload_n 3, 1) := by decide +kernel
theorem dL_law_896 : decode cL_law 896 = .ok (.iconst 1, 1) := by decide +kernel
theorem dL_law_897 : decode cL_law 897 = .ok (.iadd, 1) := by decide +kernel
theorem dL_law_898 : decode cL_law 898 = .ok (.iaload, 1) := by decide +kernel
theorem dL_law_899 : decode cL_law 899 = .ok (.aload_n 0, 1) := by decide +kernel
theorem dL_law_900 : decode cL_law 900 = .ok (.iload_n 3, 1) := by decide +kernel
theorem dL_law_901 : decode cL_law 901 = .ok (.iconst 2, 1) := by decide +kernel
theorem dL_law_902 : decode cL_law 902 = .ok (.iadd, 1) := by decide +kernel
theorem dL_law_903 : decode cL_law 903 = .ok (.iaload, 1) := by decide +kernel
theorem dL_law_904 : decode cL_law 904 = .ok (.invokevirtual 98, 3) := by decide +kernel
theorem dL_law_907 : decode cL_law 907 = .ok (.if_icmp .eq 454, 3) := by decide +kernel
theorem dL_law_910 : decode cL_law 910 = .ok (.iconst 0, 1) := by decide +kernel
theorem dL_law_911 : decode cL_law 911 = .ok (.ireturn, 1) := by decide +kernel
theorem dL_law_912 : decode cL_law 912 = .ok (.aload_n 1, 1) := by decide +kernel
theorem dL_law_913 : decode cL_law 913 = .ok (.aload_n 0, 1) := by decide +kernel
theorem dL_law_914 : decode cL_law 914 = .ok (.iload_n 3, 1) := by decide +kernel
theorem dL_law_915 : decode cL_law 915 = .ok (.iconst 1, 1) := by decide +kernel
theorem dL_law_916 : decode cL_law 916 = .ok (.iadd, 1) := by decide +kernel
theorem dL_law_917 : decode cL_law 917 = .ok (.iaload, 1) := by decide +kernel
theorem dL_law_918 : decode cL_law 918 = .ok (.aload_n 0, 1) := by decide +kernel
theorem dL_law_919 : decode cL_law 919 = .ok (.iload_n 3, 1) := by decide +kernel
theorem dL_law_920 : decode cL_law 920 = .ok (.iconst 2, 1) := by decide +kernel
theorem dL_law_921 : decode cL_law 921 = .ok (.iadd, 1) := by decide +kernel
theorem dL_law_922 : decode cL_law 922 = .ok (.iaload, 1) := by decide +kernel
theorem dL_law_923 : decode cL_law 923 = .ok (.invokevirtual 99, 3) := by decide +kernel
theorem dL_law_926 : decode cL_law 926 = .ok (.aload_n 2, 1) := by decide +kernel
theorem dL_law_927 : decode cL_law 927 = .ok (.aload_n 0, 1) := by decide +kernel
theorem dL_law_928 : decode cL_law 928 = .ok (.iload_n 3, 1) := by decide +kernel
theorem dL_law_929 : decode cL_law 929 = .ok (.iconst 1, 1) := by decide +kernel
theorem dL_law_930 : decode cL_law 930 = .ok (.iadd, 1) := by decide +kernel
theorem dL_law_931 : decode cL_law 931 = .ok (.iaload, 1) := by decide +kernel
theorem dL_law_932 : decode cL_law 932 = .ok (.aload_n 0, 1) := by decide +kernel
theorem dL_law_933 : decode cL_law 933 = .ok (.iload_n 3, 1) := by decide +kernel
theorem dL_law_934 : decode cL_law 934 = .ok (.iconst 2, 1) := by decide +kernel
theorem dL_law_935 : decode cL_law 935 = .ok (.iadd, 1) := by decide +kernel
theorem dL_law_936 : decode cL_law 936 = .ok (.iaload, 1) := by decide +kernel
theorem dL_law_937 : decode cL_law 937 = .ok (.invokevirtual 102, 3) := by decide +kernel
theorem dL_law_940 : decode cL_law 940 = .ok (.if_icmp .eq 421, 3) := by decide +kernel
theorem dL_law_943 : decode cL_law 943 = .ok (.iconst 0, 1) := by decide +kernel
theorem dL_law_944 : decode cL_law 944 = .ok (.ireturn, 1) := by decide +kernel
theorem dL_law_945 : decode cL_law 945 = .ok (.aload_n 1, 1) := by decide +kernel
theorem dL_law_946 : decode cL_law 946 = .ok (.aload_n 0, 1) := by decide +kernel
theorem dL_law_947 : decode cL_law 947 = .ok (.iload_n 3, 1) := by decide +kernel
theorem dL_law_948 : decode cL_law 948 = .ok (.iconst 1, 1) := by decide +kernel
theorem dL_law_949 : decode cL_law 949 = .ok (.iadd, 1) := by decide +kernel
theorem dL_law_950 : decode cL_law 950 = .ok (.iaload, 1) := by decide +kernel
theorem dL_law_951 : decode cL_law 951 = .ok (.aload_n 0, 1) := by decide +kernel
theorem dL_law_952 : decode cL_law 952 = .ok (.iload_n 3, 1) := by decide +kernel
theorem dL_law_953 : decode cL_law 953 = .ok (.iconst 2, 1) := by decide +kernel
theorem dL_law_954 : decode cL_law 954 = .ok (.iadd, 1) := by decide +kernel
theorem dL_law_955 : decode cL_law 955 = .ok (.iaload, 1) := by decide +kernel
theorem dL_law_956 : decode cL_law 956 = .ok (.invokevirtual 103, 3) := by decide +kernel
theorem dL_law_959 : decode cL_law 959 = .ok (.aload_n 2, 1) := by decide +kernel
theorem dL_law_960 : decode cL_law 960 = .ok (.aload_n 0, 1) := by decide +kernel
theorem dL_law_961 : decode cL_law 961 = .ok (.iload_n 3, 1) := by decide +kernel
theorem dL_law_962 : decode cL_law 962 = .ok (.iconst 1, 1) := by decide +kernel
theorem dL_law_963 : decode cL_law 963 = .ok (.iadd, 1) := by decide +kernel
theorem dL_law_964 : decode cL_law 964 = .ok (.iaload, 1) := by decide +kernel
theorem dL_law_965 : decode cL_law 965 = .ok (.aload_n 0, 1) := by decide +kernel
theorem dL_law_966 : decode cL_law 966 = .ok (.iload_n 3, 1) := by decide +kernel
theorem dL_law_967 : decode cL_law 967 = .ok (.iconst 2, 1) := by decide +kernel
theorem dL_law_968 : decode cL_law 968 = .ok (.iadd, 1) := by decide +kernel
theorem dL_law_969 : decode cL_law 969 = .ok (.iaload, 1) := by decide +kernel
theorem dL_law_970 : decode cL_law 970 = .ok (.invokevirtual 106, 3) := by decide +kernel
theorem dL_law_973 : decode cL_law 973 = .ok (.if_icmp .eq 388, 3) := by decide +kernel
theorem dL_law_976 : decode cL_law 976 = .ok (.iconst 0, 1) := by decide +kernel
theorem dL_law_977 : decode cL_law 977 = .ok (.ireturn, 1) := by decide +kernel
theorem dL_law_978 : decode cL_law 978 = .ok (.aload_n 1, 1) := by decide +kernel
theorem dL_law_979 : decode cL_law 979 = .ok (.aload_n 0, 1) := by decide +kernel
theorem dL_law_980 : decode cL_law 980 = .ok (.iload_n 3, 1) := by decide +kernel
theorem dL_law_981 : decode cL_law 981 = .ok (.iconst 1, 1) := by decide +kernel
theorem dL_law_982 : decode cL_law 982 = .ok (.iadd, 1) := by decide +kernel
theorem dL_law_983 : decode cL_law 983 = .ok (.iaload, 1) := by decide +kernel
theorem dL_law_984 : decode cL_law 984 = .ok (.aload_n 0, 1) := by decide +kernel
theorem dL_law_985 : decode cL_law 985 = .ok (.iload_n 3, 1) := by decide +kernel
theorem dL_law_986 : decode cL_law 986 = .ok (.iconst 2, 1) := by decide +kernel
theorem dL_law_987 : decode cL_law 987 = .ok (.iadd, 1) := by decide +kernel
theorem dL_law_988 : decode cL_law 988 = .ok (.iaload, 1) := by decide +kernel
theorem dL_law_989 : decode cL_law 989 = .ok (.aload_n 0, 1) := by decide +kernel
theorem dL_law_990 : decode cL_law 990 = .ok (.iload_n 3, 1) := by decide +kernel
theorem dL_law_991 : decode cL_law 991 = .ok (.iconst 3, 1) := by decide +kernel
theorem dL_law_992 : decode cL_law 992 = .ok (.iadd, 1) := by decide +kernel
theorem dL_law_993 : decode cL_law 993 = .ok (.iaload, 1) := by decide +kernel
theorem dL_law_994 : decode cL_law 994 = .ok (.aload_n 0, 1) := by decide +kernel
theorem dL_law_995 : decode cL_law 995 = .ok (.iload_n 3, 1) := by decide +kernel
theorem dL_law_996 : decode cL_law 996 = .ok (.iconst 4, 1) := by decide +kernel
theorem dL_law_997 : decode cL_law 997 = .ok (.iadd, 1) := by decide +kernel
theorem dL_law_998 : decode cL_law 998 = .ok (.iaload, 1) := by decide +kernel
theorem dL_law_999 : decode cL_law 999 = .ok (.invokevirtual 107, 3) := by decide +kernel
theorem dL_law_1002 : decode cL_law 1002 = .ok (.aload_n 2, 1) := by decide +kernel
theorem dL_law_1003 : decode cL_law 1003 = .ok (.aload_n 0, 1) := by decide +kernel
theorem dL_law_1004 : decode cL_law 1004 = .ok (.iload_n 3, 1) := by decide +kernel
theorem dL_law_1005 : decode cL_law 1005 = .ok (.iconst 1, 1) := by decide +kernel
theorem dL_law_1006 : decode cL_law 1006 = .ok (.iadd, 1) := by decide +kernel
theorem dL_law_1007 : decode cL_law 1007 = .ok (.iaload, 1) := by decide +kernel
theorem dL_law_1008 : decode cL_law 1008 = .ok (.aload_n 0, 1) := by decide +kernel
theorem dL_law_1009 : decode cL_law 1009 = .ok (.iload_n 3, 1) := by decide +kernel
theorem dL_law_1010 : decode cL_law 1010 = .ok (.iconst 2, 1) := by decide +kernel
theorem dL_law_1011 : decode cL_law 1011 = .ok (.iadd, 1) := by decide +kernel
theorem dL_law_1012 : decode cL_law 1012 = .ok (.iaload, 1) := by decide +kernel
theorem dL_law_1013 : decode cL_law 1013 = .ok (.aload_n 0, 1) := by decide +kernel
theorem dL_law_1014 : decode cL_law 1014 = .ok (.iload_n 3, 1) := by decide +kernel
theorem dL_law_1015 : decode cL_law 1015 = .ok (.iconst 3, 1) := by decide +kernel
theorem dL_law_1016 : decode cL_law 1016 = .ok (.iadd, 1) := by decide +kernel
theorem dL_law_1017 : decode cL_law 1017 = .ok (.iaload, 1) := by decide +kernel
theorem dL_law_1018 : decode cL_law 1018 = .ok (.aload_n 0, 1) := by decide +kernel
theorem dL_law_1019 : decode cL_law 1019 = .ok (.iload_n 3, 1) := by decide +kernel
theorem dL_law_1020 : decode cL_law 1020 = .ok (.iconst 4, 1) := by decide +kernel
theorem dL_law_1021 : decode cL_law 1021 = .ok (.iadd, 1) := by decide +kernel
theorem dL_law_1022 : decode cL_law 1022 = .ok (.iaload, 1) := by decide +kernel
theorem dL_law_1023 : decode cL_law 1023 = .ok (.invokevirtual 111, 3) := by decide +kernel
theorem dL_law_1026 : decode cL_law 1026 = .ok (.if_icmp .eq 335, 3) := by decide +kernel
theorem dL_law_1029 : decode cL_law 1029 = .ok (.iconst 0, 1) := by decide +kernel
theorem dL_law_1030 : decode cL_law 1030 = .ok (.ireturn, 1) := by decide +kernel
theorem dL_law_1031 : decode cL_law 1031 = .ok (.aload_n 1, 1) := by decide +kernel
theorem dL_law_1032 : decode cL_law 1032 = .ok (.aload_n 0, 1) := by decide +kernel
theorem dL_law_1033 : decode cL_law 1033 = .ok (.iload_n 3, 1) := by decide +kernel
theorem dL_law_1034 : decode cL_law 1034 = .ok (.iconst 1, 1) := by decide +kernel
theorem dL_law_1035 : decode cL_law 1035 = .ok (.iadd, 1) := by decide +kernel
theorem dL_law_1036 : decode cL_law 1036 = .ok (.iaload, 1) := by decide +kernel
theorem dL_law_1037 : decode cL_law 1037 = .ok (.aload_n 0, 1) := by decide +kernel
theorem dL_law_1038 : decode cL_law 1038 = .ok (.iload_n 3, 1) := by decide +kernel
theorem dL_law_1039 : decode cL_law 1039 = .ok (.iconst 2, 1) := by decide +kernel
theorem dL_law_1040 : decode cL_law 1040 = .ok (.iadd, 1) := by decide +kernel
theorem dL_law_1041 : decode cL_law 1041 = .ok (.iaload, 1) := by decide +kernel
theorem dL_law_1042 : decode cL_law 1042 = .ok (.invokevirtual 112, 3) := by decide +kernel
theorem dL_law_1045 : decode cL_law 1045 = .ok (.aload_n 2, 1) := by decide +kernel
theorem dL_law_1046 : decode cL_law 1046 = .ok (.aload_n 0, 1) := by decide +kernel
theorem dL_law_1047 : decode cL_law 1047 = .ok (.iload_n 3, 1) := by decide +kernel
theorem dL_law_1048 : decode cL_law 1048 = .ok (.iconst 1, 1) := by decide +kernel
theorem dL_law_1049 : decode cL_law 1049 = .ok (.iadd, 1) := by decide +kernel
theorem dL_law_1050 : decode cL_law 1050 = .ok (.iaload, 1) := by decide +kernel
theorem dL_law_1051 : decode cL_law 1051 = .ok (.aload_n 0, 1) := by decide +kernel
theorem dL_law_1052 : decode cL_law 1052 = .ok (.iload_n 3, 1) := by decide +kernel
theorem dL_law_1053 : decode cL_law 1053 = .ok (.iconst 2, 1) := by decide +kernel
theorem dL_law_1054 : decode cL_law 1054 = .ok (.iadd, 1) := by decide +kernel
theorem dL_law_1055 : decode cL_law 1055 = .ok (.iaload, 1) := by decide +kernel
theorem dL_law_1056 : decode cL_law 1056 = .ok (.invokevirtual 115, 3) := by decide +kernel
theorem dL_law_1059 : decode cL_law 1059 = .ok (.if_icmp .eq 302, 3) := by decide +kernel
theorem dL_law_1062 : decode cL_law 1062 = .ok (.iconst 0, 1) := by decide +kernel
theorem dL_law_1063 : decode cL_law 1063 = .ok (.ireturn, 1) := by decide +kernel
theorem dL_law_1064 : decode cL_law 1064 = .ok (.aload_n 1, 1) := by decide +kernel
theorem dL_law_1065 : decode cL_law 1065 = .ok (.aload_n 0, 1) := by decide +kernel
theorem dL_law_1066 : decode cL_law 1066 = .ok (.iload_n 3, 1) := by decide +kernel
theorem dL_law_1067 : decode cL_law 1067 = .ok (.iconst 1, 1) := by decide +kernel
theorem dL_law_1068 : decode cL_law 1068 = .ok (.iadd, 1) := by decide +kernel
theorem dL_law_1069 : decode cL_law 1069 = .ok (.iaload, 1) := by decide +kernel
theorem dL_law_1070 : decode cL_law 1070 = .ok (.invokevirtual 116, 3) := by decide +kernel
theorem dL_law_1073 : decode cL_law 1073 = .ok (.aload_n 2, 1) := by decide +kernel
theorem dL_law_1074 : decode cL_law 1074 = .ok (.aload_n 0, 1) := by decide +kernel
theorem dL_law_1075 : decode cL_law 1075 = .ok (.iload_n 3, 1) := by decide +kernel
theorem dL_law_1076 : decode cL_law 1076 = .ok (.iconst 1, 1) := by decide +kernel
theorem dL_law_1077 : decode cL_law 1077 = .ok (.iadd, 1) := by decide +kernel
theorem dL_law_1078 : decode cL_law 1078 = .ok (.iaload, 1) := by decide +kernel
theorem dL_law_1079 : decode cL_law 1079 = .ok (.invokevirtual 119, 3) := by decide +kernel
theorem dL_law_1082 : decode cL_law 1082 = .ok (.if_icmp .eq 279, 3) := by decide +kernel
theorem dL_law_1085 : decode cL_law 1085 = .ok (.iconst 0, 1) := by decide +kernel
theorem dL_law_1086 : decode cL_law 1086 = .ok (.ireturn, 1) := by decide +kernel
theorem dL_law_1087 : decode cL_law 1087 = .ok (.aload_n 1, 1) := by decide +kernel
theorem dL_law_1088 : decode cL_law 1088 = .ok (.aload_n 0, 1) := by decide +kernel
theorem dL_law_1089 : decode cL_law 1089 = .ok (.iload_n 3, 1) := by decide +kernel
theorem dL_law_1090 : decode cL_law 1090 = .ok (.iconst 1, 1) := by decide +kernel
theorem dL_law_1091 : decode cL_law 1091 = .ok (.iadd, 1) := by decide +kernel
theorem dL_law_1092 : decode cL_law 1092 = .ok (.iaload, 1) := by decide +kernel
theorem dL_law_1093 : decode cL_law 1093 = .ok (.invokevirtual 120, 3) := by decide +kernel
theorem dL_law_1096 : decode cL_law 1096 = .ok (.aload_n 2, 1) := by decide +kernel
theorem dL_law_1097 : decode cL_law 1097 = .ok (.aload_n 0, 1) := by decide +kernel
theorem dL_law_1098 : decode cL_law 1098 = .ok (.iload_n 3, 1) := by decide +kernel
theorem dL_law_1099 : decode cL_law 1099 = .ok (.iconst 1, 1) := by decide +kernel
theorem dL_law_1100 : decode cL_law 1100 = .ok (.iadd, 1) := by decide +kernel
theorem dL_law_1101 : decode cL_law 1101 = .ok (.iaload, 1) := by decide +kernel
theorem dL_law_1102 : decode cL_law 1102 = .ok (.invokevirtual 123, 3) := by decide +kernel
theorem dL_law_1105 : decode cL_law 1105 = .ok (.if_icmp .eq 256, 3) := by decide +kernel
theorem dL_law_1108 : decode cL_law 1108 = .ok (.iconst 0, 1) := by decide +kernel
theorem dL_law_1109 : decode cL_law 1109 = .ok (.ireturn, 1) := by decide +kernel
theorem dL_law_1110 : decode cL_law 1110 = .ok (.aload_n 1, 1) := by decide +kernel
theorem dL_law_1111 : decode cL_law 1111 = .ok (.aload_n 0, 1) := by decide +kernel
theorem dL_law_1112 : decode cL_law 1112 = .ok (.iload_n 3, 1) := by decide +kernel
theorem dL_law_1113 : decode cL_law 1113 = .ok (.iconst 1, 1) := by decide +kernel
theorem dL_law_1114 : decode cL_law 1114 = .ok (.iadd, 1) := by decide +kernel
theorem dL_law_1115 : decode cL_law 1115 = .ok (.iaload, 1) := by decide +kernel
theorem dL_law_1116 : decode cL_law 1116 = .ok (.aload_n 0, 1) := by decide +kernel
theorem dL_law_1117 : decode cL_law 1117 = .ok (.iload_n 3, 1) := by decide +kernel
theorem dL_law_1118 : decode cL_law 1118 = .ok (.iconst 2, 1) := by decide +kernel
theorem dL_law_1119 : decode cL_law 1119 = .ok (.iadd, 1) := by decide +kernel
theorem dL_law_1120 : decode cL_law 1120 = .ok (.iaload, 1) := by decide +kernel
theorem dL_law_1121 : decode cL_law 1121 = .ok (.invokevirtual 124, 3) := by decide +kernel
theorem dL_law_1124 : decode cL_law 1124 = .ok (.aload_n 2, 1) := by decide +kernel
theorem dL_law_1125 : decode cL_law 1125 = .ok (.aload_n 0, 1) := by decide +kernel
theorem dL_law_1126 : decode cL_law 1126 = .ok (.iload_n 3, 1) := by decide +kernel
theorem dL_law_1127 : decode cL_law 1127 = .ok (.iconst 1, 1) := by decide +kernel
theorem dL_law_1128 : decode cL_law 1128 = .ok (.iadd, 1) := by decide +kernel
theorem dL_law_1129 : decode cL_law 1129 = .ok (.iaload, 1) := by decide +kernel
theorem dL_law_1130 : decode cL_law 1130 = .ok (.aload_n 0, 1) := by decide +kernel
theorem dL_law_1131 : decode cL_law 1131 = .ok (.iload_n 3, 1) := by decide +kernel
theorem dL_law_1132 : decode cL_law 1132 = .ok (.iconst 2, 1) := by decide +kernel
theorem dL_law_1133 : decode cL_law 1133 = .ok (.iadd, 1) := by decide +kernel
theorem dL_law_1134 : decode cL_law 1134 = .ok (.iaload, 1) := by decide +kernel
theorem dL_law_1135 : decode cL_law 1135 = .ok (.invokevirtual 127, 3) := by decide +kernel
theorem dL_law_1138 : decode cL_law 1138 = .ok (.if_icmp .eq 223, 3) := by decide +kernel
theorem dL_law_1141 : decode cL_law 1141 = .ok (.iconst 0, 1) := by decide +kernel
theorem dL_law_1142 : decode cL_law 1142 = .ok (.ireturn, 1) := by decide +kernel
theorem dL_law_1143 : decode cL_law 1143 = .ok (.aload_n 1, 1) := by decide +kernel
theorem dL_law_1144 : decode cL_law 1144 = .ok (.aload_n 0, 1) := by decide +kernel
theorem dL_law_1145 : decode cL_law 1145 = .ok (.iload_n 3, 1) := by decide +kernel
theorem dL_law_1146 : decode cL_law 1146 = .ok (.iconst 1, 1) := by decide +kernel
theorem dL_law_1147 : decode cL_law 1147 = .ok (.iadd, 1) := by decide +kernel
theorem dL_law_1148 : decode cL_law 1148 = .ok (.iaload, 1) := by decide +kernel
theorem dL_law_1149 : decode cL_law 1149 = .ok (.aload_n 0, 1) := by decide +kernel
theorem dL_law_1150 : decode cL_law 1150 = .ok (.iload_n 3, 1) := by decide +kernel
theorem dL_law_1151 : decode cL_law 1151 = .ok (.iconst 2, 1) := by decide +kernel
theorem dL_law_1152 : decode cL_law 1152 = .ok (.iadd, 1) := by decide +kernel
theorem dL_law_1153 : decode cL_law 1153 = .ok (.iaload, 1) := by decide +kernel
theorem dL_law_1154 : decode cL_law 1154 = .ok (.aload_n 0, 1) := by decide +kernel
theorem dL_law_1155 : decode cL_law 1155 = .ok (.iload_n 3, 1) := by decide +kernel
theorem dL_law_1156 : decode cL_law 1156 = .ok (.iconst 3, 1) := by decide +kernel
theorem dL_law_1157 : decode cL_law 1157 = .ok (.iadd, 1) := by decide +kernel
theorem dL_law_1158 : decode cL_law 1158 = .ok (.iaload, 1) := by decide +kernel
theorem dL_law_1159 : decode cL_law 1159 = .ok (.invokevirtual 128, 3) := by decide +kernel
theorem dL_law_1162 : decode cL_law 1162 = .ok (.aload_n 2, 1) := by decide +kernel
theorem dL_law_1163 : decode cL_law 1163 = .ok (.aload_n 0, 1) := by decide +kernel
theorem dL_law_1164 : decode cL_law 1164 = .ok (.iload_n 3, 1) := by decide +kernel
theorem dL_law_1165 : decode cL_law 1165 = .ok (.iconst 1, 1) := by decide +kernel
theorem dL_law_1166 : decode cL_law 1166 = .ok (.iadd, 1) := by decide +kernel
theorem dL_law_1167 : decode cL_law 1167 = .ok (.iaload, 1) := by decide +kernel
theorem dL_law_1168 : decode cL_law 1168 = .ok (.aload_n 0, 1) := by decide +kernel
theorem dL_law_1169 : decode cL_law 1169 = .ok (.iload_n 3, 1) := by decide +kernel
theorem dL_law_1170 : decode cL_law 1170 = .ok (.iconst 2, 1) := by decide +kernel
theorem dL_law_1171 : decode cL_law 1171 = .ok (.iadd, 1) := by decide +kernel
theorem dL_law_1172 : decode cL_law 1172 = .ok (.iaload, 1) := by decide +kernel
theorem dL_law_1173 : decode cL_law 1173 = .ok (.aload_n 0, 1) := by decide +kernel
theorem dL_law_1174 : decode cL_law 1174 = .ok (.iload_n 3, 1) := by decide +kernel
theorem dL_law_1175 : decode cL_law 1175 = .ok (.iconst 3, 1) := by decide +kernel
theorem dL_law_1176 : decode cL_law 1176 = .ok (.iadd, 1) := by decide +kernel
theorem dL_law_1177 : decode cL_law 1177 = .ok (.iaload, 1) := by decide +kernel
theorem dL_law_1178 : decode cL_law 1178 = .ok (.invokevirtual 131, 3) := by decide +kernel
theorem dL_law_1181 : decode cL_law 1181 = .ok (.if_icmp .eq 180, 3) := by decide +kernel
theorem dL_law_1184 : decode cL_law 1184 = .ok (.iconst 0, 1) := by decide +kernel
theorem dL_law_1185 : decode cL_law 1185 = .ok (.ireturn, 1) := by decide +kernel
theorem dL_law_1186 : decode cL_law 1186 = .ok (.aload_n 1, 1) := by decide +kernel
theorem dL_law_1187 : decode cL_law 1187 = .ok (.aload_n 0, 1) := by decide +kernel
theorem dL_law_1188 : decode cL_law 1188 = .ok (.iload_n 3, 1) := by decide +kernel
theorem dL_law_1189 : decode cL_law 1189 = .ok (.iconst 1, 1) := by decide +kernel
theorem dL_law_1190 : decode cL_law 1190 = .ok (.iadd, 1) := by decide +kernel
theorem dL_law_1191 : decode cL_law 1191 = .ok (.iaload, 1) := by decide +kernel
theorem dL_law_1192 : decode cL_law 1192 = .ok (.aload_n 0, 1) := by decide +kernel
theorem dL_law_1193 : decode cL_law 1193 = .ok (.iload_n 3, 1) := by decide +kernel
theorem dL_law_1194 : decode cL_law 1194 = .ok (.iconst 2, 1) := by decide +kernel
theorem dL_law_1195 : decode cL_law 1195 = .ok (.iadd, 1) := by decide +kernel
theorem dL_law_1196 : decode cL_law 1196 = .ok (.iaload, 1) := by decide +kernel
theorem dL_law_1197 : decode cL_law 1197 = .ok (.aload_n 0, 1) := by decide +kernel
theorem dL_law_1198 : decode cL_law 1198 = .ok (.iload_n 3, 1) := by decide +kernel
theorem dL_law_1199 : decode cL_law 1199 = .ok (.iconst 3, 1) := by decide +kernel
theorem dL_law_1200 : decode cL_law 1200 = .ok (.iadd, 1) := by decide +kernel
theorem dL_law_1201 : decode cL_law 1201 = .ok (.iaload, 1) := by decide +kernel
theorem dL_law_1202 : decode cL_law 1202 = .ok (.aload_n 0, 1) := by decide +kernel
theorem dL_law_1203 : decode cL_law 1203 = .ok (.iload_n 3, 1) := by decide +kernel
theorem dL_law_1204 : decode cL_law 1204 = .ok (.iconst 4, 1) := by decide +kernel
theorem dL_law_1205 : decode cL_law 1205 = .ok (.iadd, 1) := by decide +kernel
theorem dL_law_1206 : decode cL_law 1206 = .ok (.iaload, 1) := by decide +kernel
theorem dL_law_1207 : decode cL_law 1207 = .ok (.invokevirtual 132, 3) := by decide +kernel
theorem dL_law_1210 : decode cL_law 1210 = .ok (.aload_n 2, 1) := by decide +kernel
theorem dL_law_1211 : decode cL_law 1211 = .ok (.aload_n 0, 1) := by decide +kernel
theorem dL_law_1212 : decode cL_law 1212 = .ok (.iload_n 3, 1) := by decide +kernel
theorem dL_law_1213 : decode cL_law 1213 = .ok (.iconst 1, 1) := by decide +kernel
theorem dL_law_1214 : decode cL_law 1214 = .ok (.iadd, 1) := by decide +kernel
theorem dL_law_1215 : decode cL_law 1215 = .ok (.iaload, 1) := by decide +kernel
theorem dL_law_1216 : decode cL_law 1216 = .ok (.aload_n 0, 1) := by decide +kernel
theorem dL_law_1217 : decode cL_law 1217 = .ok (.iload_n 3, 1) := by decide +kernel
theorem dL_law_1218 : decode cL_law 1218 = .ok (.iconst 2, 1) := by decide +kernel
theorem dL_law_1219 : decode cL_law 1219 = .ok (.iadd, 1) := by decide +kernel
theorem dL_law_1220 : decode cL_law 1220 = .ok (.iaload, 1) := by decide +kernel
theorem dL_law_1221 : decode cL_law 1221 = .ok (.aload_n 0, 1) := by decide +kernel
theorem dL_law_1222 : decode cL_law 1222 = .ok (.iload_n 3, 1) := by decide +kernel
theorem dL_law_1223 : decode cL_law 1223 = .ok (.iconst 3, 1) := by decide +kernel
theorem dL_law_1224 : decode cL_law 1224 = .ok (.iadd, 1) := by decide +kernel
theorem dL_law_1225 : decode cL_law 1225 = .ok (.iaload, 1) := by decide +kernel
theorem dL_law_1226 : decode cL_law 1226 = .ok (.aload_n 0, 1) := by decide +kernel
theorem dL_law_1227 : decode cL_law 1227 = .ok (.iload_n 3, 1) := by decide +kernel
theorem dL_law_1228 : decode cL_law 1228 = .ok (.iconst 4, 1) := by decide +kernel
theorem dL_law_1229 : decode cL_law 1229 = .ok (.iadd, 1) := by decide +kernel
theorem dL_law_1230 : decode cL_law 1230 = .ok (.iaload, 1) := by decide +kernel
theorem dL_law_1231 : decode cL_law 1231 = .ok (.invokevirtual 135, 3) := by decide +kernel
theorem dL_law_1234 : decode cL_law 1234 = .ok (.if_icmp .eq 127, 3) := by decide +kernel
theorem dL_law_1237 : decode cL_law 1237 = .ok (.iconst 0, 1) := by decide +kernel
theorem dL_law_1238 : decode cL_law 1238 = .ok (.ireturn, 1) := by decide +kernel
theorem dL_law_1239 : decode cL_law 1239 = .ok (.aload_n 1, 1) := by decide +kernel
theorem dL_law_1240 : decode cL_law 1240 = .ok (.aload_n 0, 1) := by decide +kernel
theorem dL_law_1241 : decode cL_law 1241 = .ok (.iload_n 3, 1) := by decide +kernel
theorem dL_law_1242 : decode cL_law 1242 = .ok (.iconst 1, 1) := by decide +kernel
theorem dL_law_1243 : decode cL_law 1243 = .ok (.iadd, 1) := by decide +kernel
theorem dL_law_1244 : decode cL_law 1244 = .ok (.iaload, 1) := by decide +kernel
theorem dL_law_1245 : decode cL_law 1245 = .ok (.aload_n 0, 1) := by decide +kernel
theorem dL_law_1246 : decode cL_law 1246 = .ok (.iload_n 3, 1) := by decide +kernel
theorem dL_law_1247 : decode cL_law 1247 = .ok (.iconst 2, 1) := by decide +kernel
theorem dL_law_1248 : decode cL_law 1248 = .ok (.iadd, 1) := by decide +kernel
theorem dL_law_1249 : decode cL_law 1249 = .ok (.iaload, 1) := by decide +kernel
theorem dL_law_1250 : decode cL_law 1250 = .ok (.invokevirtual 136, 3) := by decide +kernel
theorem dL_law_1253 : decode cL_law 1253 = .ok (.aload_n 2, 1) := by decide +kernel
theorem dL_law_1254 : decode cL_law 1254 = .ok (.aload_n 0, 1) := by decide +kernel
theorem dL_law_1255 : decode cL_law 1255 = .ok (.iload_n 3, 1) := by decide +kernel
theorem dL_law_1256 : decode cL_law 1256 = .ok (.iconst 1, 1) := by decide +kernel
theorem dL_law_1257 : decode cL_law 1257 = .ok (.iadd, 1) := by decide +kernel
theorem dL_law_1258 : decode cL_law 1258 = .ok (.iaload, 1) := by decide +kernel
theorem dL_law_1259 : decode cL_law 1259 = .ok (.aload_n 0, 1) := by decide +kernel
theorem dL_law_1260 : decode cL_law 1260 = .ok (.iload_n 3, 1) := by decide +kernel
theorem dL_law_1261 : decode cL_law 1261 = .ok (.iconst 2, 1) := by decide +kernel
theorem dL_law_1262 : decode cL_law 1262 = .ok (.iadd, 1) := by decide +kernel
theorem dL_law_1263 : decode cL_law 1263 = .ok (.iaload, 1) := by decide +kernel
theorem dL_law_1264 : decode cL_law 1264 = .ok (.invokevirtual 139, 3) := by decide +kernel
theorem dL_law_1267 : decode cL_law 1267 = .ok (.if_icmp .eq 94, 3) := by decide +kernel
theorem dL_law_1270 : decode cL_law 1270 = .ok (.iconst 0, 1) := by decide +kernel
theorem dL_law_1271 : decode cL_law 1271 = .ok (.ireturn, 1) := by decide +kernel
theorem dL_law_1272 : decode cL_law 1272 = .ok (.aload_n 1, 1) := by decide +kernel
theorem dL_law_1273 : decode cL_law 1273 = .ok (.aload_n 0, 1) := by decide +kernel
theorem dL_law_1274 : decode cL_law 1274 = .ok (.iload_n 3, 1) := by decide +kernel
theorem dL_law_1275 : decode cL_law 1275 = .ok (.iconst 1, 1) := by decide +kernel
theorem dL_law_1276 : decode cL_law 1276 = .ok (.iadd, 1) := by decide +kernel
theorem dL_law_1277 : decode cL_law 1277 = .ok (.iaload, 1) := by decide +kernel
theorem dL_law_1278 : decode cL_law 1278 = .ok (.aload_n 0, 1) := by decide +kernel
theorem dL_law_1279 : decode cL_law 1279 = .ok (.iload_n 3, 1) := by decide +kernel
theorem dL_law_1280 : decode cL_law 1280 = .ok (.iconst 2, 1) := by decide +kernel
theorem dL_law_1281 : decode cL_law 1281 = .ok (.iadd, 1) := by decide +kernel
theorem dL_law_1282 : decode cL_law 1282 = .ok (.iaload, 1) := by decide +kernel
theorem dL_law_1283 : decode cL_law 1283 = .ok (.invokevirtual 140, 3) := by decide +kernel
theorem dL_law_1286 : decode cL_law 1286 = .ok (.aload_n 2, 1) := by decide +kernel
theorem dL_law_1287 : decode cL_law 1287 = .ok (.aload_n 0, 1) := by decide +kernel
theorem dL_law_1288 : decode cL_law 1288 = .ok (.iload_n 3, 1) := by decide +kernel
theorem dL_law_1289 : decode cL_law 1289 = .ok (.iconst 1, 1) := by decide +kernel
theorem dL_law_1290 : decode cL_law 1290 = .ok (.iadd, 1) := by decide +kernel
theorem dL_law_1291 : decode cL_law 1291 = .ok (.iaload, 1) := by decide +kernel
theorem dL_law_1292 : decode cL_law 1292 = .ok (.aload_n 0, 1) := by decide +kernel
theorem dL_law_1293 : decode cL_law 1293 = .ok (.iload_n 3, 1) := by decide +kernel
theorem dL_law_1294 : decode cL_law 1294 = .ok (.iconst 2, 1) := by decide +kernel
theorem dL_law_1295 : decode cL_law 1295 = .ok (.iadd, 1) := by decide +kernel
theorem dL_law_1296 : decode cL_law 1296 = .ok (.iaload, 1) := by decide +kernel
theorem dL_law_1297 : decode cL_law 1297 = .ok (.invokevirtual 143, 3) := by decide +kernel
theorem dL_law_1300 : decode cL_law 1300 = .ok (.if_icmp .eq 61, 3) := by decide +kernel
theorem dL_law_1303 : decode cL_law 1303 = .ok (.iconst 0, 1) := by decide +kernel
theorem dL_law_1304 : decode cL_law 1304 = .ok (.ireturn, 1) := by decide +kernel
theorem dL_law_1305 : decode cL_law 1305 = .ok (.aload_n 1, 1) := by decide +kernel
theorem dL_law_1306 : decode cL_law 1306 = .ok (.aload_n 0, 1) := by decide +kernel
theorem dL_law_1307 : decode cL_law 1307 = .ok (.iload_n 3, 1) := by decide +kernel
theorem dL_law_1308 : decode cL_law 1308 = .ok (.iconst 1, 1) := by decide +kernel
theorem dL_law_1309 : decode cL_law 1309 = .ok (.iadd, 1) := by decide +kernel
theorem dL_law_1310 : decode cL_law 1310 = .ok (.iaload, 1) := by decide +kernel
theorem dL_law_1311 : decode cL_law 1311 = .ok (.aload_n 0, 1) := by decide +kernel
theorem dL_law_1312 : decode cL_law 1312 = .ok (.iload_n 3, 1) := by decide +kernel
theorem dL_law_1313 : decode cL_law 1313 = .ok (.iconst 2, 1) := by decide +kernel
theorem dL_law_1314 : decode cL_law 1314 = .ok (.iadd, 1) := by decide +kernel
theorem dL_law_1315 : decode cL_law 1315 = .ok (.iaload, 1) := by decide +kernel
theorem dL_law_1316 : decode cL_law 1316 = .ok (.invokevirtual 144, 3) := by decide +kernel
theorem dL_law_1319 : decode cL_law 1319 = .ok (.aload_n 2, 1) := by decide +kernel
theorem dL_law_1320 : decode cL_law 1320 = .ok (.aload_n 0, 1) := by decide +kernel
theorem dL_law_1321 : decode cL_law 1321 = .ok (.iload_n 3, 1) := by decide +kernel
theorem dL_law_1322 : decode cL_law 1322 = .ok (.iconst 1, 1) := by decide +kernel
theorem dL_law_1323 : decode cL_law 1323 = .ok (.iadd, 1) := by decide +kernel
theorem dL_law_1324 : decode cL_law 1324 = .ok (.iaload, 1) := by decide +kernel
theorem dL_law_1325 : decode cL_law 1325 = .ok (.aload_n 0, 1) := by decide +kernel
theorem dL_law_1326 : decode cL_law 1326 = .ok (.iload_n 3, 1) := by decide +kernel
theorem dL_law_1327 : decode cL_law 1327 = .ok (.iconst 2, 1) := by decide +kernel
theorem dL_law_1328 : decode cL_law 1328 = .ok (.iadd, 1) := by decide +kernel
theorem dL_law_1329 : decode cL_law 1329 = .ok (.iaload, 1) := by decide +kernel
theorem dL_law_1330 : decode cL_law 1330 = .ok (.invokevirtual 147, 3) := by decide +kernel
theorem dL_law_1333 : decode cL_law 1333 = .ok (.if_icmp .eq 28, 3) := by decide +kernel
theorem dL_law_1336 : decode cL_law 1336 = .ok (.iconst 0, 1) := by decide +kernel
theorem dL_law_1337 : decode cL_law 1337 = .ok (.ireturn, 1) := by decide +kernel
theorem dL_law_1338 : decode cL_law 1338 = .ok (.aload_n 1, 1) := by decide +kernel
theorem dL_law_1339 : decode cL_law 1339 = .ok (.aload_n 0, 1) := by decide +kernel
theorem dL_law_1340 : decode cL_law 1340 = .ok (.iload_n 3, 1) := by decide +kernel
theorem dL_law_1341 : decode cL_law 1341 = .ok (.iconst 1, 1) := by decide +kernel
theorem dL_law_1342 : decode cL_law 1342 = .ok (.iadd, 1) := by decide +kernel
theorem dL_law_1343 : decode cL_law 1343 = .ok (.iaload, 1) := by decide +kernel
theorem dL_law_1344 : decode cL_law 1344 = .ok (.invokevirtual 148, 3) := by decide +kernel
theorem dL_law_1347 : decode cL_law 1347 = .ok (.aload_n 2, 1) := by decide +kernel
theorem dL_law_1348 : decode cL_law 1348 = .ok (.aload_n 0, 1) := by decide +kernel
theorem dL_law_1349 : decode cL_law 1349 = .ok (.iload_n 3, 1) := by decide +kernel
theorem dL_law_1350 : decode cL_law 1350 = .ok (.iconst 1, 1) := by decide +kernel
theorem dL_law_1351 : decode cL_law 1351 = .ok (.iadd, 1) := by decide +kernel
theorem dL_law_1352 : decode cL_law 1352 = .ok (.iaload, 1) := by decide +kernel
theorem dL_law_1353 : decode cL_law 1353 = .ok (.invokevirtual 151, 3) := by decide +kernel
theorem dL_law_1356 : decode cL_law 1356 = .ok (.if_icmp .eq 5, 3) := by decide +kernel
theorem dL_law_1359 : decode cL_law 1359 = .ok (.iconst 0, 1) := by decide +kernel
theorem dL_law_1360 : decode cL_law 1360 = .ok (.ireturn, 1) := by decide +kernel
theorem dL_law_1361 : decode cL_law 1361 = .ok (.iinc 3 6, 3) := by decide +kernel
theorem dL_law_1364 : decode cL_law 1364 = .ok (.goto (-1346), 3) := by decide +kernel
theorem dL_law_1367 : decode cL_law 1367 = .ok (.iconst 1, 1) := by decide +kernel
theorem dL_law_1368 : decode cL_law 1368 = .ok (.ireturn, 1) := by decide +kernel
end
section
/-! THE CORE: a judgement G over an abstract memory: tags for addresses, Ints for ints; a store κ (tag, slot), a set V of live tags, a static layout of the tags; the machine hidden -/
abbrev Av : Type := Int ⊕ Option Nat
abbrev Ks : Type := Nat → Nat → Int
abbrev Vs : Type := Nat → Bool
abbrev Iv (x : Int) : Av := .inl x
abbrev Rf (t : Nat) : Av := .inr (some t)
abbrev Nl : Av := .inr none
def cv (ρ : Nat → Nat) (v : Av) : Value := match v with
  | .inl x => .int (Int32.ofInt x)
  | .inr none => .null
  | .inr (some t) => .ref (ρ t)
def inR (x : Int) : Prop := -2147483648 ≤ x ∧ x < 2147483648
/-- launch; classes' numbers and slots; array classes (0 int, 1 boolean, 2 Object, 3 Row); the first address that may be written; addresses of old things by their tags; kinds and sizes of tags; kinds of slots (0 int, 1 a reference by its tag or 0, c + 2 the tag c) -/
abbrev Cx : Type := Launch × va_G × (Nat → ClassId) × Nat × (Nat → Nat) × (Nat → Nat × Nat) × (Nat → Nat → Nat)
abbrev kd (X : Cx) (t : Nat) : Nat × Nat := X.2.2.2.2.2.1 t
def tysG (X : Cx) : List (ClassId × FieldType) := [(X.2.2.1 0, .int), (X.2.2.1 1, .boolean), (X.2.2.1 2, .object "java/lang/Object"), (X.2.2.1 3, .object "WoodenMains$Row")]
def frA (X : Cx) : Nat → Prop := fun q => X.2.2.2.1 ≤ q
def vr (X : Cx) (t : Nat) (r : Nat → Int) (j : Nat) : Av := match X.2.2.2.2.2.2 t j with
  | 0 => .inl (r j)
  | 1 => .inr (if r j = 0 then none else some (r j).toNat)
  | c + 2 => .inr (some c)
def rfo (ρ : Nat → Nat) (v : Av) : Option Nat := match v with
  | .inl _ => none
  | .inr o => o.map ρ
def entI (X : Cx) (k t : Nat) (r : Nat → Int) : va_E := .inl (X.2.2.1 k, (kd X t).2, .inl (fun j => Int32.ofInt (r j)))
def entR (X : Cx) (ρ : Nat → Nat) (k t : Nat) (r : Nat → Int) : va_E := .inl (X.2.2.1 k, (kd X t).2, .inr (.inr (.inr (.inr (fun j => rfo ρ (vr X t r j))))))
def entO (X : Cx) (ρ : Nat → Nat) (t : Nat) (r : Nat → Int) : va_E := .inr ((kd X t).1, (List.range (kd X t).2).map (fun j => cv ρ (vr X t r j)))
def ent (X : Cx) (ρ : Nat → Nat) (t : Nat) (r : Nat → Int) : va_E :=
  if (kd X t).1 = 20 then entI X 0 t r else if (kd X t).1 = 21 then entI X 1 t r else if (kd X t).1 = 22 then entR X ρ 2 t r else if (kd X t).1 = 23 then entR X ρ 3 t r else entO X ρ t r
def wkI (U : State) (H : Heap) (a n : Nat) (f : Nat → Int32) : Prop := ∃ cell : Cell, H[a]? = some cell ∧ U.isArrayOf cell .int ∧ cell.vm ≠ .unknown ∧ cell.slots.size = n ∧ ∀ j : Nat, j < n → cell.slots[j]? = some (.int (f j))
def wkO (U : State) (H : Heap) (a : Nat) : Prop := ∃ cell : Cell, H[a]? = some cell ∧ U.isArrayOf cell (.object "java/lang/Object") ∧ cell.vm ≠ .unknown ∧ cell.slots.size = 0
/-- old things: 30 an array of ints, 31 the empty array of objects, else the mirror of Object[] -/
def oldOk (X : Cx) (t : Nat) (r : Nat → Int) (a : Nat) (U : State) (H : Heap) : Prop :=
  if (kd X t).1 = 30 then wkI U H a (kd X t).2 (fun j => Int32.ofInt (r j)) else if (kd X t).1 = 31 then wkO U H a else va_Mi "[Ljava/lang/Object;" a U
def cellOk (X : Cx) (ρ : Nat → Nat) (t : Nat) (r : Nat → Int) (U : State) (H : Heap) : Prop :=
  if 30 ≤ (kd X t).1 then ρ t = X.2.2.2.2.1 t ∧ ¬ frA X (ρ t) ∧ ρ t < H.size ∧ oldOk X t r (ρ t) U H else frA X (ρ t) ∧ va_at X.2.1 vwCl (ρ t, ent X ρ t r) H
def mm (X : Cx) (ρ : Nat → Nat) (V : Vs) (κ : Ks) (U : State) (H : Heap) : Prop :=
  (∀ t : Nat, V t = true → cellOk X ρ t (κ t) U H) ∧ (∀ a b : Nat, V a = true → V b = true → (kd X a).1 < 30 → (kd X b).1 < 30 → ρ a = ρ b → a = b) ∧
  (∀ t j : Nat, inR (κ t j)) ∧ (∀ t j q : Nat, V t = true → vr X t (κ t) j = .inr (some q) → V q = true) ∧ ∃ N : Nat, ∀ t, V t = true → t < N
def rowset (κ : Ks) (t : Nat) (r : Nat → Int) : Ks := fun a => if a = t then r else κ a
def up1 (r : Nat → Int) (j : Nat) (v : Int) : Nat → Int := fun b => if b = j then v else r b
def st2 (κ : Ks) (t j : Nat) (v : Int) : Ks := rowset κ t (up1 (κ t) j v)
def vset (V : Vs) (t : Nat) : Vs := fun a => if a = t then true else V a
def okA (V : Vs) (v : Av) : Prop := match v with
  | .inr (some t) => V t = true
  | _ => True
def okS (V : Vs) : List Av → Prop
  | [] => True
  | v :: st => okA V v ∧ okS V st
abbrev Lc : Type := List (Option Av)
def okL (V : Vs) : Lc → Prop
  | [] => True
  | o :: L => (∀ v, o = some v → okA V v) ∧ okL V L
theorem cv_cat (ρ : Nat → Nat) (v : Av) : (cv ρ v).category = 1 := by
  rcases v with x | (_ | t) <;> rfl
theorem rowset_s (κ : Ks) (t : Nat) (r : Nat → Int) : rowset κ t r t = r := if_pos rfl
theorem rowset_n (κ : Ks) {t a : Nat} (r : Nat → Int) (h : a ≠ t) : rowset κ t r a = κ a := if_neg h
theorem wkI.moved {u U : State} {H : Heap} {a n : Nat} {f : Nat → Int32} (hvm : u.vm.Alike U.vm) (h : wkI u H a n f) : wkI U H a n f := by
  obtain ⟨c, h1, h2, h3⟩ := h
  exact ⟨c, h1, State.isArrayOf_alike hvm h2, h3⟩
theorem wkO.moved {u U : State} {H : Heap} {a : Nat} (hvm : u.vm.Alike U.vm) (h : wkO u H a) : wkO U H a := by
  obtain ⟨c, h1, h2, h3⟩ := h
  exact ⟨c, h1, State.isArrayOf_alike hvm h2, h3⟩
theorem cellOk.moved {X : Cx} {ρ : Nat → Nat} {t : Nat} {r : Nat → Int} {u U : State} {H : Heap} (hvm : u.vm.Alike U.vm) (h : cellOk X ρ t r u H) : cellOk X ρ t r U H := by
  unfold cellOk at h ⊢
  split
  · rename_i c
    rw [if_pos c] at h
    refine ⟨h.1, h.2.1, h.2.2.1, ?_⟩
    have h3 := h.2.2.2
    unfold oldOk at h3 ⊢
    split
    · rename_i c
      rw [if_pos c] at h3
      exact h3.moved hvm
    · rename_i c
      rw [if_neg c] at h3
      split
      · rename_i c
        rw [if_pos c] at h3
        exact h3.moved hvm
      · rename_i c
        rw [if_neg c] at h3
        exact h3.moved hvm
  · rename_i c
    rw [if_neg c] at h
    exact h
theorem cellOk.lt {X : Cx} {ρ : Nat → Nat} {t : Nat} {r : Nat → Int} {U : State} {H : Heap} (h : cellOk X ρ t r U H) : ρ t < H.size := by
  unfold cellOk at h
  split at h
  · exact h.2.2.1
  · exact h.2.lt
theorem cellOk.kept {X : Cx} {ρ : Nat → Nat} {t : Nat} {r : Nat → Int} {U : State} {H H1 : Heap} (h : cellOk X ρ t r U H) (hs : H.size ≤ H1.size) (hq : H1[ρ t]? = H[ρ t]?) : cellOk X ρ t r U H1 := by
  unfold cellOk at h ⊢
  split
  · rename_i c
    rw [if_pos c] at h
    refine ⟨h.1, h.2.1, Nat.lt_of_lt_of_le h.2.2.1 hs, ?_⟩
    have h3 := h.2.2.2
    unfold oldOk at h3 ⊢
    split
    · rename_i c
      rw [if_pos c] at h3
      obtain ⟨c, h1, h2⟩ := h3
      exact ⟨c, by rw [hq]; exact h1, h2⟩
    · rename_i c
      rw [if_neg c] at h3
      split
      · rename_i c
        rw [if_pos c] at h3
        obtain ⟨c, h1, h2⟩ := h3
        exact ⟨c, by rw [hq]; exact h1, h2⟩
      · rename_i c
        rw [if_neg c] at h3
        exact h3
  · rename_i c
    rw [if_neg c] at h
    exact ⟨h.1, h.2.kept hq⟩
theorem mm.moved {X : Cx} {ρ : Nat → Nat} {V : Vs} {κ : Ks} {u U : State} {H : Heap} (hvm : u.vm.Alike U.vm) (h : mm X ρ V κ u H) : mm X ρ V κ U H := ⟨fun t ht => (h.1 t ht).moved hvm, h.2⟩
/-- a fresh cell, as the kit has it -/
theorem mm.at {X : Cx} {ρ : Nat → Nat} {V : Vs} {κ : Ks} {U : State} {H : Heap} (h : mm X ρ V κ U H) {t : Nat} (ht : V t = true) (hk : (kd X t).1 < 30) : frA X (ρ t) ∧ va_at X.2.1 vwCl (ρ t, ent X ρ t (κ t)) H := by
  have h1 := h.1 t ht
  unfold cellOk at h1
  rw [if_neg (Nat.not_le.mpr hk)] at h1
  exact h1
theorem mm.old {X : Cx} {ρ : Nat → Nat} {V : Vs} {κ : Ks} {U : State} {H : Heap} (h : mm X ρ V κ U H) {t : Nat} (ht : V t = true) (hk : 30 ≤ (kd X t).1) : ρ t = X.2.2.2.2.1 t ∧ ¬ frA X (ρ t) ∧ ρ t < H.size ∧ oldOk X t (κ t) (ρ t) U H := by
  have h1 := h.1 t ht
  unfold cellOk at h1
  rw [if_pos hk] at h1
  exact h1
def lvl (X : Cx) (V : Vs) (N : Nat) : List Nat := (List.range N).filter (fun t => V t && decide ((kd X t).1 < 30))
def wsO (X : Cx) (ρ : Nat → Nat) (κ : Ks) (l : List Nat) : va_W := l.map (fun t => (ρ t, ent X ρ t (κ t)))
theorem lvl_mem {X : Cx} {V : Vs} {N t : Nat} : t ∈ lvl X V N ↔ t < N ∧ V t = true ∧ (kd X t).1 < 30 := by
  unfold lvl
  rw [List.mem_filter, List.mem_range, Bool.and_eq_true, decide_eq_true_eq]
theorem lvl_nodup (X : Cx) (V : Vs) (N : Nat) : (lvl X V N).Nodup := List.Pairwise.filter _ List.nodup_range
theorem wsO_get {X : Cx} {ρ : Nat → Nat} {κ : Ks} {l : List Nat} {k : Nat} {q : Nat × va_E} (h : (wsO X ρ κ l)[k]? = some q) : ∃ t, l[k]? = some t ∧ q = (ρ t, ent X ρ t (κ t)) := by
  unfold wsO at h
  rw [List.getElem?_map] at h
  cases ht : l[k]? with
  | none => rw [ht] at h; cases h
  | some t => rw [ht] at h; cases h; exact ⟨t, rfl, rfl⟩
theorem mm.P {X : Cx} {ρ : Nat → Nat} {V : Vs} {κ : Ks} {U : State} {H : Heap} (h : mm X ρ V κ U H) (N : Nat) : va_P X.2.1 vwCl (wsO X ρ κ (lvl X V N)) H := fun k q hq => by
  obtain ⟨t, h1, rfl⟩ := wsO_get hq
  have h2 := lvl_mem.mp (List.mem_of_getElem? h1)
  exact (h.at h2.2.1 h2.2.2).2
theorem nodup_get {l : List Nat} (hl : l.Nodup) {i j t : Nat} (h1 : l[i]? = some t) (h2 : l[j]? = some t) : i = j := by
  obtain ⟨a1, a2⟩ := List.getElem?_eq_some_iff.mp h1
  obtain ⟨b1, b2⟩ := List.getElem?_eq_some_iff.mp h2
  exact (List.getElem_inj hl).mp (a2.trans b2.symm)
theorem mm.D {X : Cx} {ρ : Nat → Nat} {V : Vs} {κ : Ks} {U : State} {H : Heap} (h : mm X ρ V κ U H) (N : Nat) : va_D (frA X) (wsO X ρ κ (lvl X V N)) := by
  refine ⟨fun i j p q hp hq hpq => ?_, fun k q hq => ?_⟩
  · obtain ⟨t, h1, rfl⟩ := wsO_get hp
    obtain ⟨t', h1', rfl⟩ := wsO_get hq
    have h2 := lvl_mem.mp (List.mem_of_getElem? h1)
    have h2' := lvl_mem.mp (List.mem_of_getElem? h1')
    have e := h.2.1 t t' h2.2.1 h2'.2.1 h2.2.2 h2'.2.2 hpq
    subst e
    exact nodup_get (lvl_nodup X V N) h1 h1'
  · obtain ⟨t, h1, rfl⟩ := wsO_get hq
    have h2 := lvl_mem.mp (List.mem_of_getElem? h1)
    exact (h.at h2.2.1 h2.2.2).1
theorem lvl_pos {X : Cx} {V : Vs} {N t : Nat} (hN : ∀ t, V t = true → t < N) (ht : V t = true) (hk : (kd X t).1 < 30) : ∃ k : Nat, (lvl X V N)[k]? = some t := List.getElem?_of_mem (lvl_mem.mpr ⟨hN t ht, ht, hk⟩)
theorem wsO_pos {X : Cx} {ρ : Nat → Nat} {κ : Ks} {l : List Nat} {k t : Nat} (h : l[k]? = some t) : (wsO X ρ κ l)[k]? = some (ρ t, ent X ρ t (κ t)) := by
  unfold wsO
  rw [List.getElem?_map, h]
  rfl
theorem old_kept {X : Cx} {ρ : Nat → Nat} {V : Vs} {κ : Ks} {U : State} {H0 H H1 : Heap} {locs locs1 : List Loc} (hlo : X.2.2.2.1 ≤ H0.size) (h : mm X ρ V κ U H) (hS : va_S (frA X) H0 H locs) (hS1 : va_S (frA X) H0 H1 locs1) {a : Nat} (ha : V a = true) (hk : 30 ≤ (kd X a).1) : H1[ρ a]? = H[ρ a]? ∧ ρ a < H1.size := by
  have h1 := (h.old ha hk).2.1
  have h2 : ρ a < H0.size := Nat.lt_of_lt_of_le (Nat.not_le.mp h1) hlo
  exact ⟨(hS1.2.1 _ h2 h1).trans (hS.2.1 _ h2 h1).symm, Nat.lt_of_lt_of_le h2 hS1.1⟩
theorem cellOk.old {X : Cx} {ρ : Nat → Nat} {t : Nat} {r : Nat → Int} {U : State} {H H1 : Heap} (h : cellOk X ρ t r U H) (hk : 30 ≤ (kd X t).1) (hq : H1[ρ t]? = H[ρ t]?) (hs : ρ t < H1.size) : cellOk X ρ t r U H1 := by
  unfold cellOk at h ⊢
  rw [if_pos hk] at h ⊢
  refine ⟨h.1, h.2.1, hs, ?_⟩
  have h3 := h.2.2.2
  unfold oldOk at h3 ⊢
  split
  · rename_i c
    rw [if_pos c] at h3
    obtain ⟨c, h1, h2⟩ := h3
    exact ⟨c, by rw [hq]; exact h1, h2⟩
  · rename_i c
    rw [if_neg c] at h3
    split
    · rename_i c
      rw [if_pos c] at h3
      obtain ⟨c, h1, h2⟩ := h3
      exact ⟨c, by rw [hq]; exact h1, h2⟩
    · rename_i c
      rw [if_neg c] at h3
      exact h3
theorem mm.write {X : Cx} {ρ : Nat → Nat} {V : Vs} {κ : Ks} {U : State} {H0 H H1 : Heap} {locs locs1 : List Loc} {t N k : Nat} {r : Nat → Int} (hlo : X.2.2.2.1 ≤ H0.size) (h : mm X ρ V κ U H) (hN : ∀ t, V t = true → t < N) (hkt : (lvl X V N)[k]? = some t) (hS : va_S (frA X) H0 H locs) (hS1 : va_S (frA X) H0 H1 locs1) (hP : va_P X.2.1 vwCl ((wsO X ρ κ (lvl X V N)).set k (ρ t, ent X ρ t r)) H1) (hr : ∀ j, inR (r j)) (hc : ∀ j q, vr X t r j = .inr (some q) → V q = true) : mm X ρ V (rowset κ t r) U H1 := by
  have ht := lvl_mem.mp (List.mem_of_getElem? hkt)
  have hkl : k < (wsO X ρ κ (lvl X V N)).length := by
    unfold wsO
    rw [List.length_map]
    exact (List.getElem?_eq_some_iff.mp hkt).1
  refine ⟨fun a ha => ?_, h.2.1, fun a j => ?_, fun a j q ha hq => ?_, h.2.2.2.2⟩
  · by_cases hat : a = t
    · subst hat
      rw [rowset_s]
      unfold cellOk
      rw [if_neg (Nat.not_le.mpr ht.2.2)]
      exact ⟨(h.at ha ht.2.2).1, hP k _ (List.getElem?_set_self hkl)⟩
    · rw [rowset_n κ r hat]
      by_cases ha30 : 30 ≤ (kd X a).1
      · exact (h.1 a ha).old ha30 (old_kept hlo h hS hS1 ha ha30).1 (old_kept hlo h hS hS1 ha ha30).2
      · have ha30 := Nat.not_le.mp ha30
        obtain ⟨k', hk'⟩ := lvl_pos hN ha ha30
        have hne : k ≠ k' := fun e => by
          subst e
          rw [hkt] at hk'
          exact hat (Option.some.inj hk').symm
        have h1 := hP k' _ ((List.getElem?_set_ne hne).trans (wsO_pos hk'))
        unfold cellOk
        rw [if_neg (Nat.not_le.mpr ha30)]
        exact ⟨(h.at ha ha30).1, h1⟩
  · by_cases hat : a = t
    · subst hat
      rw [rowset_s]
      exact hr j
    · rw [rowset_n κ r hat]
      exact h.2.2.1 a j
  · by_cases hat : a = t
    · subst hat
      rw [rowset_s] at hq
      exact hc j q hq
    · rw [rowset_n κ r hat] at hq
      exact h.2.2.2.1 a j q ha hq
theorem ent_ext {X : Cx} {ρ ρ' : Nat → Nat} {t : Nat} {r : Nat → Int} (h : ∀ j q, vr X t r j = .inr (some q) → ρ' q = ρ q) : ent X ρ' t r = ent X ρ t r := by
  have h1 : ∀ j, cv ρ' (vr X t r j) = cv ρ (vr X t r j) := fun j => by
    rcases hv : vr X t r j with x | (_ | q)
    · rfl
    · rfl
    · show Value.ref (ρ' q) = Value.ref (ρ q)
      rw [h j q hv]
  have h2 : ∀ j, rfo ρ' (vr X t r j) = rfo ρ (vr X t r j) := fun j => by
    rcases hv : vr X t r j with x | (_ | q)
    · rfl
    · rfl
    · show some (ρ' q) = some (ρ q)
      rw [h j q hv]
  unfold ent entO entR
  simp only [h1, h2]
theorem mm.push {X : Cx} {ρ : Nat → Nat} {V : Vs} {κ : Ks} {U : State} {H0 H H1 : Heap} {locs locs1 : List Loc} {t N q0 : Nat} {r : Nat → Int} (hlo : X.2.2.2.1 ≤ H0.size) (h : mm X ρ V κ U H) (hN : ∀ t, V t = true → t < N) (ht : V t = false) (hk : (kd X t).1 < 30) (hS : va_S (frA X) H0 H locs) (hS1 : va_S (frA X) H0 H1 locs1) (hP : va_P X.2.1 vwCl (wsO X ρ κ (lvl X V N) ++ [(q0, ent X ρ t r)]) H1) (hD : va_D (frA X) (wsO X ρ κ (lvl X V N) ++ [(q0, ent X ρ t r)])) (hr : ∀ j, inR (r j)) (hc : ∀ j q, vr X t r j ≠ .inr (some q)) : mm X (fun a => if a = t then q0 else ρ a) (vset V t) (rowset κ t r) U H1 := by
  have hρ : ∀ a, V a = true → (fun a => if a = t then q0 else ρ a) a = ρ a := fun a ha => if_neg (fun e => by rw [e, ht] at ha; cases ha)
  have hV : ∀ a, vset V t a = true → a ≠ t → V a = true := fun a ha hne => by
    unfold vset at ha
    rwa [if_neg hne] at ha
  have hlast : (wsO X ρ κ (lvl X V N) ++ [(q0, ent X ρ t r)])[(wsO X ρ κ (lvl X V N)).length]? = some (q0, ent X ρ t r) := by
    rw [List.getElem?_append_right (Nat.le_refl _), Nat.sub_self]
    rfl
  have hfr : frA X q0 := hD.2 _ _ hlast
  have hold : ∀ {a k : Nat}, (lvl X V N)[k]? = some a → k < (wsO X ρ κ (lvl X V N)).length ∧ (wsO X ρ κ (lvl X V N) ++ [(q0, ent X ρ t r)])[k]? = some (ρ a, ent X ρ a (κ a)) := fun {a k} hk' => by
    have hl : k < (wsO X ρ κ (lvl X V N)).length := by
      unfold wsO
      rw [List.length_map]
      exact (List.getElem?_eq_some_iff.mp hk').1
    exact ⟨hl, by rw [List.getElem?_append_left hl]; exact wsO_pos hk'⟩
  have hne : ∀ a, V a = true → (kd X a).1 < 30 → ρ a ≠ q0 := fun a ha hka e => by
    obtain ⟨k', hk'⟩ := lvl_pos hN ha hka
    obtain ⟨g1, g2⟩ := hold hk'
    have := hD.1 _ _ _ _ g2 hlast e
    omega
  refine ⟨fun a ha => ?_, fun a b ha hb hka hkb hab => ?_, fun a j => ?_, fun a j q ha hq => ?_, ?_⟩
  · by_cases hat : a = t
    · subst hat
      rw [rowset_s]
      unfold cellOk
      rw [if_neg (Nat.not_le.mpr hk)]
      have e2 : (fun b => if b = a then q0 else ρ b) a = q0 := if_pos rfl
      rw [e2]
      refine ⟨hfr, ?_⟩
      rw [ent_ext (ρ := ρ) (fun j q hq => absurd hq (hc j q))]
      exact hP _ _ hlast
    · have hVa := hV a ha hat
      rw [rowset_n κ r hat]
      have h1 : cellOk X ρ a (κ a) U H1 := by
        by_cases ha30 : 30 ≤ (kd X a).1
        · exact (h.1 a hVa).old ha30 (old_kept hlo h hS hS1 hVa ha30).1 (old_kept hlo h hS hS1 hVa ha30).2
        · have ha30 := Nat.not_le.mp ha30
          obtain ⟨k', hk'⟩ := lvl_pos hN hVa ha30
          unfold cellOk
          rw [if_neg (Nat.not_le.mpr ha30)]
          exact ⟨(h.at hVa ha30).1, hP k' _ (hold hk').2⟩
      unfold cellOk at h1 ⊢
      rw [hρ a hVa]
      rw [ent_ext (ρ := ρ) (fun j q hq => hρ q (h.2.2.2.1 a j q hVa hq))]
      exact h1
  · by_cases hat : a = t
    · by_cases hbt : b = t
      · rw [hat, hbt]
      · exfalso
        have hVb := hV b hb hbt
        rw [hρ b hVb] at hab
        have e2 : (fun b => if b = t then q0 else ρ b) a = q0 := if_pos hat
        rw [e2] at hab
        exact hne b hVb hkb hab.symm
    · have hVa := hV a ha hat
      by_cases hbt : b = t
      · exfalso
        rw [hρ a hVa] at hab
        have e2 : (fun b => if b = t then q0 else ρ b) b = q0 := if_pos hbt
        rw [e2] at hab
        exact hne a hVa hka hab
      · have hVb := hV b hb hbt
        rw [hρ a hVa, hρ b hVb] at hab
        exact h.2.1 a b hVa hVb hka hkb hab
  · by_cases hat : a = t
    · subst hat
      rw [rowset_s]
      exact hr j
    · rw [rowset_n κ r hat]
      exact h.2.2.1 a j
  · by_cases hat : a = t
    · subst hat
      rw [rowset_s] at hq
      exact absurd hq (hc j q)
    · rw [rowset_n κ r hat] at hq
      have h1 := h.2.2.2.1 a j q (hV a ha hat) hq
      unfold vset
      split
      · rfl
      · exact h1
  · refine ⟨N + t + 1, fun a ha => ?_⟩
    by_cases hat : a = t
    · omega
    · have := hN a (hV a ha hat)
      omega
/-- words that stay but are not carried by the kit's lists -/
def nwL : List Cond := lw_tbl.filter (fun w => match w with
  | .methodLinkNest .. => true
  | .castable .. => true
  | .declares .. => true
  | _ => false)
def am (X : Cx) (U : State) (H : Heap) : Prop :=
  va_K X.2.1 vwCl (tysG X) U ∧ (∀ w ∈ nwL, va_Nw w U) ∧ (va_AO "java/lang/Object" U ∧ va_AO "WoodenMains$Row" U) ∧
  va_Z "WoodenMains" "LEAST_SETTINGS" "[I" (.ref (X.2.2.2.2.1 30)) (frA X) U H ∧ va_Z "WoodenMains" "MOST_SETTINGS" "[I" (.ref (X.2.2.2.2.1 31)) (frA X) U H ∧
  va_Z "java/util/ArrayList" "DEFAULTCAPACITY_EMPTY_ELEMENTDATA" "[Ljava/lang/Object;" (.ref (X.2.2.2.2.1 32)) (frA X) U H
theorem nwL_warm {w : Cond} (h : w ∈ nwL) {s U : State} (hW : s.WarmedH U.vm) (hZ : va_Nw w s) : va_Nw w U := by
  have h2 := (List.mem_filter.mp h).2
  cases w <;> first | exact hZ.warmM hW | exact hZ.warmC hW | exact hZ.warmD hW | cases h2
theorem am.moved {X : Cx} {u U : State} {H : Heap} (hW : u.WarmedH U.vm) (h : am X u H) : am X U H :=
  ⟨va_K.moved hW.alike h.1, fun w hw => nwL_warm hw hW (h.2.1 w hw), ⟨h.2.2.1.1.moved hW.alike, h.2.2.1.2.moved hW.alike⟩, h.2.2.2.1.moved hW.alike, h.2.2.2.2.1.moved hW.alike, h.2.2.2.2.2.moved hW.alike⟩
-- locals
def lvL (ρ : Nat → Nat) (ls : Array Slot) (n : Nat) (L : Lc) : Prop := ls.size = n ∧ lv_wf ls ∧ ∀ (i : Nat) (v : Av), L[i]? = some (some v) → ls[i]? = some (.val (cv ρ v))
def pr1 (ρ : Nat → Nat) (L : Lc) : List (Nat × Value) := (List.range L.length).filterMap (fun i => match L[i]? with
  | some (some v) => some (i, cv ρ v)
  | _ => none)
theorem pr1_mem {ρ : Nat → Nat} {L : Lc} {i : Nat} {w : Value} : (i, w) ∈ pr1 ρ L ↔ ∃ v, L[i]? = some (some v) ∧ w = cv ρ v := by
  unfold pr1
  rw [List.mem_filterMap]
  constructor
  · rintro ⟨j, hj, h⟩
    cases hL : L[j]? with
    | none => rw [hL] at h; cases h
    | some o =>
      cases o with
      | none => rw [hL] at h; cases h
      | some u =>
        rw [hL] at h
        cases h
        exact ⟨u, hL, rfl⟩
  · rintro ⟨v, h, rfl⟩
    refine ⟨i, List.mem_range.mpr (List.getElem?_eq_some_iff.mp h).1, ?_⟩
    rw [h]
theorem lvL.has {ρ : Nat → Nat} {ls : Array Slot} {n : Nat} {L : Lc} (h : lvL ρ ls n L) : lv_has ls n (pr1 ρ L) := ⟨h.1, h.2.1, fun q hq => by
  obtain ⟨v, h1, h2⟩ := pr1_mem.mp hq
  rw [h2]
  exact h.2.2 q.1 v h1⟩
theorem lvL.store {ρ : Nat → Nat} {ls : Array Slot} {n i : Nat} {L : Lc} {v : Av} (h : lv_has ls n ((i, cv ρ v) :: (pr1 ρ L).filter (fun q => !(q.1 == i) && !(q.1 + 1 == i && q.2.category == 2)))) : lvL ρ ls n (L.set i (some v)) := by
  refine ⟨h.1, h.2.1, fun j w hj => ?_⟩
  by_cases hij : j = i
  · subst hij
    have hl : j < L.length := by
      have := (List.getElem?_eq_some_iff.mp hj).1
      rwa [List.length_set] at this
    rw [List.getElem?_set_self hl] at hj
    cases hj
    exact h.2.2 (j, cv ρ v) List.mem_cons_self
  · rw [List.getElem?_set_ne (Ne.symm hij)] at hj
    refine h.2.2 (j, cv ρ w) (List.mem_cons_of_mem _ (List.mem_filter.mpr ⟨pr1_mem.mpr ⟨w, hj, rfl⟩, ?_⟩))
    simp [hij, cv_cat]
theorem okL.get {V : Vs} : ∀ {L : Lc} {i : Nat} {v : Av}, okL V L → L[i]? = some (some v) → okA V v
  | [], i, v, _, h => by simp at h
  | o :: L, 0, v, hk, h => hk.1 v (by simpa using h)
  | o :: L, i + 1, v, hk, h => okL.get hk.2 (by simpa using h)
theorem okL.set {V : Vs} : ∀ {L : Lc} {i : Nat} {v : Av}, okL V L → okA V v → okL V (L.set i (some v))
  | [], i, v, _, _ => trivial
  | o :: L, 0, v, hk, h => ⟨fun w hw => by cases hw; exact h, hk.2⟩
  | o :: L, i + 1, v, hk, h => ⟨hk.1, okL.set hk.2 h⟩
theorem okA.mono {V V' : Vs} (h : ∀ t, V t = true → V' t = true) {v : Av} (hk : okA V v) : okA V' v := by
  rcases v with x | (_ | t)
  · trivial
  · trivial
  · exact h t hk
theorem okS.mono {V V' : Vs} (h : ∀ t, V t = true → V' t = true) : ∀ {st : List Av}, okS V st → okS V' st
  | [], _ => trivial
  | _ :: _, hk => ⟨hk.1.mono h, okS.mono h hk.2⟩
theorem okL.mono {V V' : Vs} (h : ∀ t, V t = true → V' t = true) : ∀ {L : Lc}, okL V L → okL V' L
  | [], _ => trivial
  | _ :: _, hk => ⟨fun v hv => (hk.1 v hv).mono h, okL.mono h hk.2⟩
theorem cv_ext {V : Vs} {ρ ρ' : Nat → Nat} (h : ∀ t, V t = true → ρ' t = ρ t) {v : Av} (hk : okA V v) : cv ρ' v = cv ρ v := by
  rcases v with x | (_ | t)
  · rfl
  · rfl
  · show Value.ref (ρ' t) = Value.ref (ρ t)
    rw [h t hk]
theorem cvS_ext {V : Vs} {ρ ρ' : Nat → Nat} (h : ∀ t, V t = true → ρ' t = ρ t) : ∀ {st : List Av}, okS V st → st.map (cv ρ') = st.map (cv ρ)
  | [], _ => rfl
  | v :: st, hk => by rw [List.map_cons, List.map_cons, cv_ext h hk.1, cvS_ext h hk.2]
theorem lvL.ext {V : Vs} {ρ ρ' : Nat → Nat} (h : ∀ t, V t = true → ρ' t = ρ t) {ls : Array Slot} {n : Nat} {L : Lc} (hk : okL V L) (hl : lvL ρ ls n L) : lvL ρ' ls n L := ⟨hl.1, hl.2.1, fun i v hi => by rw [cv_ext h (hk.get hi)]; exact hl.2.2 i v hi⟩
-- methods, contracts
abbrev Mt : Type := MethodName × ByteArray × Nat × Option FieldType
abbrev Po : Type := Option Av → Vs → Ks → Prop
def cxC (X : Cx) (mt : Mt) (d : Nat) (p : Program) (R : Room) (s : State) (m : MethodId) (args : Array Value) (meth : Method) (c : Code) (mc ms : Nat) : Prop :=
  p.tables.exec = Jvm.exec ∧ c.code = mt.2.1 ∧ c.maxLocals = mt.2.2.1 ∧ s.vm.findClass mt.1.cls = some m.cls ∧ (∀ w ∈ tbG, w.before args s = true) ∧ meth.sig.returnType = mt.2.2.2 ∧ meth.locks = false ∧ meth.name = mt.1.name ∧ am X s s.heap ∧ (d ≤ R.frames ∧ 64 * d ≤ R.locals ∧ mc ≤ R.cells ∧ ms ≤ R.slots) ∧ X.2.2.2.1 ≤ s.heap.size
def hhS (X : Cx) (mt : Mt) (V0 : Vs) (ρ0 : Nat → Nat) (bc bs : Nat) (L : Lc) (st : List Av) (V : Vs) (κ : Ks) (s : State) (H : Heap) (locs : List Loc) (cells slots : Nat) (ls : Array Slot) (mc ms : Nat) (ρ : Nat → Nat) : Prop :=
  lvL ρ ls mt.2.2.1 L ∧ okL V L ∧ okS V st ∧ mm X ρ V κ s H ∧ va_S (frA X) s.heap H locs ∧ (cells + bc ≤ mc ∧ slots + bs ≤ ms) ∧ (∀ t, V0 t = true → V t = true ∧ ρ t = ρ0 t)
def qcG (X : Cx) (P : Po) (V0 : Vs) (ρ0 : Nat → Nat) : Array Value → State → Outcome → State → Prop := fun _ st oc t => (∃ (r : Option Av) (V' : Vs) (κ' : Ks) (ρ' : Nat → Nat), oc = .returned (r.map (cv ρ')) ∧ mm X ρ' V' κ' t t.heap ∧ P r V' κ' ∧ (∀ v, r = some v → okA V' v) ∧ ∀ t, V0 t = true → V' t = true ∧ ρ' t = ρ0 t) ∧ va_F (frA X) st t
def G (X : Cx) (mt : Mt) (d : Nat) (P : Po) (V0 : Vs) (bc bs pc : Nat) (L : Lc) (st : List Av) (V : Vs) (κ : Ks) : Prop :=
  ∀ (p : Program) (e : Env) (R : Room) (s : State) (m : MethodId) (args : Array Value) (below : List Frame) (meth : Method) (c : Code) (mc ms : Nat) (ρ0 : Nat → Nat), cxC X mt d p R s m args meth c mc ms →
  ∀ (H : Heap) (locs : List Loc) (cells slots : Nat) (ls : Array Slot) (ρ : Nat → Nat), hhS X mt V0 ρ0 bc bs L st V κ s H locs cells slots ls mc ms ρ →
  W p X.1 e R s m args below meth c H locs cells slots (MQ below (qcG X P V0 ρ0) args s mc ms (frA X)) (F0 m pc ls (st.map (cv ρ)))
def Ct (X : Cx) (mt : Mt) (d bc bs : Nat) (as : List Av) (V : Vs) (κ : Ks) (P : Po) : Prop := ∀ ρ : Nat → Nat,
  Met X.1 mt.1 (.code mt.1 mt.2.1 mt.2.2.1 mt.2.2.2 :: tbG) { frames := d, cells := bc, slots := bs, locals := 64 * d } (va_Pc (as.map (cv ρ)) (fun U => okS V as ∧ mm X ρ V κ U U.heap ∧ am X U U.heap ∧ X.2.2.2.1 ≤ U.heap.size)) (qcG X P V ρ) bc bs (frA X)
end
section
/-! ROWS of G: constants, locals, stack, arithmetic, branches (printed by wip/whole/gen05.py) -/
theorem inR_toInt {x : Int} (h : inR x) : (Int32.ofInt x).toInt = x := Int32.toInt_ofInt_of_le h.1 h.2
theorem ofI_eq {x y : Int} (hx : inR x) (hy : inR y) : Int32.ofInt x = Int32.ofInt y ↔ x = y := by rw [← Int32.toInt_inj, inR_toInt hx, inR_toInt hy]
theorem ofI_lt {x y : Int} (hx : inR x) (hy : inR y) : Int32.ofInt x < Int32.ofInt y ↔ x < y := by rw [Int32.lt_iff_toInt_lt, inR_toInt hx, inR_toInt hy]
theorem ofI_le {x y : Int} (hx : inR x) (hy : inR y) : Int32.ofInt x ≤ Int32.ofInt y ↔ x ≤ y := by rw [Int32.le_iff_toInt_le, inR_toInt hx, inR_toInt hy]
theorem inR_0 : inR 0 := by unfold inR; omega
theorem ofI_0 : Int32.ofInt 0 = 0 := rfl
theorem toInt_inR (x : Int32) : inR x.toInt := ⟨Int32.le_toInt x, Int32.toInt_lt x⟩
theorem ofI_tdiv {x y : Int} (hx : inR x) (hy : inR y) : Int32.ofInt x / Int32.ofInt y = Int32.ofInt (x.tdiv y) := (Int32.ofInt_tdiv hx.1 (Int.le_sub_one_of_lt hx.2) hy.1 (Int.le_sub_one_of_lt hy.2)).symm
theorem ofI_tmod {x y : Int} (hx : inR x) (hy : inR y) : Int32.ofInt x - Int32.ofInt x / Int32.ofInt y * Int32.ofInt y = Int32.ofInt (x.tmod y) := by
  rw [ofI_tdiv hx hy, ← Int32.ofInt_mul, ← Int32.ofInt_sub]
  congr 1
  have := Int.mul_tdiv_add_tmod x y
  rw [Int.mul_comm] at this
  omega
def bAnd (x y : Int) : Int := (Int32.ofInt x &&& Int32.ofInt y).toInt
def bOr (x y : Int) : Int := (Int32.ofInt x ||| Int32.ofInt y).toInt
def bXor (x y : Int) : Int := (Int32.ofInt x ^^^ Int32.ofInt y).toInt
def bShl (x y : Int) : Int := (Int32.ofInt x <<< (Int32.ofInt y &&& 31)).toInt
def bShr (x y : Int) : Int := (Int32.ofInt x >>> (Int32.ofInt y &&& 31)).toInt
def bUshr (x y : Int) : Int := ((Int32.ofInt x).toUInt32 >>> ((Int32.ofInt y).toUInt32 &&& Int32.toUInt32 31)).toInt32.toInt
theorem hhS.stk {X : Cx} {mt : Mt} {V0 : Vs} {ρ0 : Nat → Nat} {bc bs : Nat} {L : Lc} {st st' : List Av} {V : Vs} {κ : Ks} {s : State} {H : Heap} {locs : List Loc} {cells slots : Nat} {ls : Array Slot} {mc ms : Nat} {ρ : Nat → Nat} (h : hhS X mt V0 ρ0 bc bs L st V κ s H locs cells slots ls mc ms ρ) (k : okS V st') : hhS X mt V0 ρ0 bc bs L st' V κ s H locs cells slots ls mc ms ρ := ⟨h.1, h.2.1, k, h.2.2.2⟩
theorem hhS.loc {X : Cx} {mt : Mt} {V0 : Vs} {ρ0 : Nat → Nat} {bc bs : Nat} {L L' : Lc} {st st' : List Av} {V : Vs} {κ : Ks} {s : State} {H : Heap} {locs : List Loc} {cells slots : Nat} {ls ls' : Array Slot} {mc ms : Nat} {ρ : Nat → Nat} (h : hhS X mt V0 ρ0 bc bs L st V κ s H locs cells slots ls mc ms ρ) (k : okS V st') (kl : okL V L') (hl : lvL ρ ls' mt.2.2.1 L') : hhS X mt V0 ρ0 bc bs L' st' V κ s H locs cells slots ls' mc ms ρ := ⟨hl, kl, k, h.2.2.2⟩
section G5
variable {X : Cx} {mt : Mt} {d : Nat} {P : Po} {V0 : Vs} {bc bs pc : Nat} {L : Lc} {st : List Av} {V : Vs} {κ : Ks}
theorem frA_new {s : State} (h : X.2.2.2.1 ≤ s.heap.size) : ∀ q : Nat, s.heap.size ≤ q → frA X q := fun _ hq => Nat.le_trans h hq
theorem lv_args_get {ρ : Nat → Nat} : ∀ (as : List Av) (o i : Nat) (v : Av), as[i]? = some v → (o + i, cv ρ v) ∈ lv_args o (as.map (cv ρ))
  | [], _, _, _, h => by simp at h
  | a :: as, o, 0, v, h => by
    simp at h
    subst h
    rw [List.map_cons]
    unfold lv_args
    simp
  | a :: as, o, i + 1, v, h => by
    have h1 : as[i]? = some v := by simpa using h
    have h2 := lv_args_get (ρ := ρ) as (o + 1) i v h1
    rw [List.map_cons]
    unfold lv_args
    rw [cv_cat]
    refine List.mem_cons_of_mem _ ?_
    rw [show o + (i + 1) = o + 1 + i by omega]
    exact h2
theorem lg_sl_len {ρ : Nat → Nat} : ∀ (as : List Av), (lg_sl (as.map (cv ρ))).length = as.length
  | [] => rfl
  | a :: as => by
    have ih := lg_sl_len (ρ := ρ) as
    have e : lg_sl ((a :: as).map (cv ρ)) = .val (cv ρ a) :: lg_sl (as.map (cv ρ)) := by
      unfold lg_sl
      rw [List.map_cons, List.flatMap_cons, cv_cat]
      rfl
    rw [e, List.length_cons, List.length_cons, ih]
theorem okL_of (V : Vs) : ∀ (as : List Av) (n : Nat), okS V as → okL V (as.map some ++ List.replicate n none)
  | [], n, _ => by
    induction n with
    | zero => trivial
    | succ n ih => exact ⟨fun v h => (nomatch h), ih⟩
  | a :: as, n, h => ⟨fun v hv => by cases hv; exact h.1, okL_of V as n h.2⟩
theorem Ct.of {as : List Av} (k : Nat) (hy : plainName mt.1.cls = true) (hlen : as.length + k = mt.2.2.1) (hL : as.map some ++ List.replicate k none = L) (h : G X mt d P V bc bs 0 L [] V κ) : Ct X mt d bc bs as V κ P := by
  intro ρ
  refine Met.ofW (cc := mt.2.1) (maxL := mt.2.2.1) (ret := mt.2.2.2) hy rfl ?_
  intro p e s m args below meth c s₁ B hml hv
  obtain ⟨rfl, hok, hM, hA, hlo⟩ := hv
  have hts := atoms_spec (ws := .code mt.1 mt.2.1 mt.2.2.1 mt.2.2.2 :: tbG) B.pre
  have hl := lv_entry (as.map (cv ρ)) (n := mt.2.2.1) (by rw [lg_sl_len]; omega)
  rw [lg_entry_eq]
  refine h p e _ s m _ below meth c bc bs ρ ⟨B.exec, B.bytes, hml, findClass_of_methodNamed B.named, fun w hw => hts w (List.mem_cons_of_mem _ hw), B.returns, B.notSynchronized, (name_of_methodNamed B.named B.method).1, hA, ⟨Nat.le_refl _, Nat.le_refl _, Nat.le_refl _, Nat.le_refl _⟩, hlo⟩ s.heap [] 0 0 _ ρ ⟨⟨hl.1, hl.2.1, fun i v hi => ?_⟩, hL ▸ okL_of V as k hok, trivial, hM, va_S.rf, ⟨by omega, by omega⟩, fun t ht => ⟨ht, rfl⟩⟩
  rw [← hL] at hi
  have h1 : as[i]? = some v := by
    by_cases hi2 : i < as.length
    · rw [List.getElem?_append_left (by simpa using hi2)] at hi
      rw [List.getElem?_map] at hi
      cases ha : as[i]? with
      | none => rw [ha] at hi; cases hi
      | some w => rw [ha] at hi; cases hi; rfl
    · rw [List.getElem?_append_right (by simpa using hi2)] at hi
      rw [List.getElem?_replicate] at hi
      split at hi <;> cases hi
  have h2 := lv_args_get (ρ := ρ) as 0 i v h1
  rw [Nat.zero_add] at h2
  exact hl.2.2 (i, cv ρ v) h2
theorem G.post {P' : Po} (hP : ∀ r V κ, P r V κ → P' r V κ) (h : G X mt d P V0 bc bs pc L st V κ) : G X mt d P' V0 bc bs pc L st V κ := fun p e R s m args below meth c mc ms ρ0 C H locs cells slots ls ρ hh T hT S => by
  obtain ⟨t, h1, o, h2, h3, h4, h5⟩ := h p e R s m args below meth c mc ms ρ0 C H locs cells slots ls ρ hh T hT S
  obtain ⟨⟨r, V', κ', ρ', q1, q2, q3, q4⟩, q5⟩ := h4
  exact ⟨t, h1, o, h2, h3, ⟨⟨r, V', κ', ρ', q1, q2, hP _ _ _ q3, q4⟩, q5⟩, h5⟩
theorem g_iret {v : Int} (hd : decode mt.2.1 pc = .ok (.ireturn, 1)) (hr : mt.2.2.2 = some .int) (h : P (some (Iv v)) V κ) : G X mt d P V0 bc bs pc L [Iv v] V κ := fun p e R s m args below meth c mc ms ρ0 C H locs cells slots ls ρ hh => W.widen (k := mc) (n := ms) (by have := hh.2.2.2.2.2.1.1; omega) (by have := hh.2.2.2.2.2.1.2; omega) (W.iret C.1 C.2.1 (C.2.2.2.2.2.1.trans hr) (fun t ht hW => ⟨⟨some (Iv v), V, κ, ρ, rfl, by rw [ht]; exact hh.2.2.2.1.moved hW.alike, h, fun w hw => by cases hw; trivial, hh.2.2.2.2.2.2⟩, hh.2.2.2.2.1.F ht⟩) hh.2.2.2.2.1.2.2 hd C.2.2.2.2.2.2.1)
theorem narZ {v : Int} (hv : v = 0 ∨ v = 1) : narrow .boolean (.int (Int32.ofInt v)) = .int (Int32.ofInt v) := by rcases hv with rfl | rfl <;> decide
theorem g_zret {v : Int} (hd : decode mt.2.1 pc = .ok (.ireturn, 1)) (hr : mt.2.2.2 = some .boolean) (hv : v = 0 ∨ v = 1) (h : P (some (Iv v)) V κ) : G X mt d P V0 bc bs pc L [Iv v] V κ := fun p e R s m args below meth c mc ms ρ0 C H locs cells slots ls ρ hh => W.widen (k := mc) (n := ms) (by have := hh.2.2.2.2.2.1.1; omega) (by have := hh.2.2.2.2.2.1.2; omega) (W.zret C.1 C.2.1 (C.2.2.2.2.2.1.trans hr) (narZ hv) (fun t ht hW => ⟨⟨some (Iv v), V, κ, ρ, rfl, by rw [ht]; exact hh.2.2.2.1.moved hW.alike, h, fun w hw => by cases hw; trivial, hh.2.2.2.2.2.2⟩, hh.2.2.2.2.1.F ht⟩) hh.2.2.2.2.1.2.2 hd C.2.2.2.2.2.2.1)
theorem g_vret (hd : decode mt.2.1 pc = .ok (.return_, 1)) (hr : mt.2.2.2 = none) (h : P none V κ) : G X mt d P V0 bc bs pc L [] V κ := fun p e R s m args below meth c mc ms ρ0 C H locs cells slots ls ρ hh => W.widen (k := mc) (n := ms) (by have := hh.2.2.2.2.2.1.1; omega) (by have := hh.2.2.2.2.2.1.2; omega) (W.vret C.1 C.2.1 (C.2.2.2.2.2.1.trans hr) (fun t ht hW => ⟨⟨none, V, κ, ρ, rfl, by rw [ht]; exact hh.2.2.2.1.moved hW.alike, h, fun w hw => (nomatch hw), hh.2.2.2.2.2.2⟩, hh.2.2.2.2.1.F ht⟩) hh.2.2.2.2.1.2.2 hd C.2.2.2.2.2.2.1)
theorem g_aret {v : Option Nat} {rt : FieldType} (hd : decode mt.2.1 pc = .ok (.areturn, 1)) (hr : mt.2.2.2 = some rt) (hrt : (∃ n, rt = .object n) ∨ ∃ t, rt = .array t) (h : P (some (.inr v)) V κ) : G X mt d P V0 bc bs pc L [.inr v] V κ := fun p e R s m args below meth c mc ms ρ0 C H locs cells slots ls ρ hh => W.widen (k := mc) (n := ms) (by have := hh.2.2.2.2.2.1.1; omega) (by have := hh.2.2.2.2.2.1.2; omega) (W.aret (v := cv ρ (.inr v)) C.1 C.2.1 (C.2.2.2.2.2.1.trans hr) hrt (by rcases v with _ | t; exact Or.inl rfl; exact Or.inr ⟨_, rfl⟩) (fun t ht hW => ⟨⟨some (.inr v), V, κ, ρ, rfl, by rw [ht]; exact hh.2.2.2.1.moved hW.alike, h, fun w hw => by cases hw; exact hh.2.2.1.1, hh.2.2.2.2.2.2⟩, hh.2.2.2.2.1.F ht⟩) hh.2.2.2.2.1.2.2 hd C.2.2.2.2.2.2.1)
theorem g_iconst (n' : Nat) {n : Int} (hd : decode mt.2.1 pc = .ok (.iconst n, 1)) (hv : Int32.ofInt n = Int32.ofInt n) (hn : pc + 1 = n') (k : G X mt d P V0 bc bs n' L (Iv n :: st) V κ) : G X mt d P V0 bc bs pc L st V κ := fun p e R s m args below meth c mc ms ρ0 C H locs cells slots ls ρ hh => lv_iconst C.1 C.2.1 hd hv (by rw [hn]; exact k p e R s m args below meth c mc ms ρ0 C H locs cells slots ls ρ (hh.stk ⟨trivial, hh.2.2.1⟩))
theorem g_bipush (n' : Nat) {n : Int} (hd : decode mt.2.1 pc = .ok (.bipush n, 2)) (hv : (Int8.ofInt n).toInt32 = Int32.ofInt n) (hn : pc + 2 = n') (k : G X mt d P V0 bc bs n' L (Iv n :: st) V κ) : G X mt d P V0 bc bs pc L st V κ := fun p e R s m args below meth c mc ms ρ0 C H locs cells slots ls ρ hh => lv_bipush C.1 C.2.1 hd hv (by rw [hn]; exact k p e R s m args below meth c mc ms ρ0 C H locs cells slots ls ρ (hh.stk ⟨trivial, hh.2.2.1⟩))
theorem g_sipush (n' : Nat) {n : Int} (hd : decode mt.2.1 pc = .ok (.sipush n, 3)) (hv : (Int16.ofInt n).toInt32 = Int32.ofInt n) (hn : pc + 3 = n') (k : G X mt d P V0 bc bs n' L (Iv n :: st) V κ) : G X mt d P V0 bc bs pc L st V κ := fun p e R s m args below meth c mc ms ρ0 C H locs cells slots ls ρ hh => lv_sipush C.1 C.2.1 hd hv (by rw [hn]; exact k p e R s m args below meth c mc ms ρ0 C H locs cells slots ls ρ (hh.stk ⟨trivial, hh.2.2.1⟩))
theorem g_ldc (n' : Nat) {n : Int} {idx : Nat} {w : Int32} (hd : decode mt.2.1 pc = .ok (.ldc idx, 2)) (hw : Cond.constant mt.1.cls idx w ∈ tbG) (hv : w = Int32.ofInt n) (hn : pc + 2 = n') (k : G X mt d P V0 bc bs n' L (Iv n :: st) V κ) : G X mt d P V0 bc bs pc L st V κ := fun p e R s m args below meth c mc ms ρ0 C H locs cells slots ls ρ hh => lv_ldc C.1 C.2.1 C.2.2.2.1 (C.2.2.2.2.1 _ (hv ▸ hw)) hd (by rw [hn]; exact k p e R s m args below meth c mc ms ρ0 C H locs cells slots ls ρ (hh.stk ⟨trivial, hh.2.2.1⟩))
theorem g_ldcw (n' : Nat) {n : Int} {idx : Nat} {w : Int32} (hd : decode mt.2.1 pc = .ok (.ldc_w idx, 3)) (hw : Cond.constant mt.1.cls idx w ∈ tbG) (hv : w = Int32.ofInt n) (hn : pc + 3 = n') (k : G X mt d P V0 bc bs n' L (Iv n :: st) V κ) : G X mt d P V0 bc bs pc L st V κ := fun p e R s m args below meth c mc ms ρ0 C H locs cells slots ls ρ hh => lv_ldcw C.1 C.2.1 C.2.2.2.1 (C.2.2.2.2.1 _ (hv ▸ hw)) hd (by rw [hn]; exact k p e R s m args below meth c mc ms ρ0 C H locs cells slots ls ρ (hh.stk ⟨trivial, hh.2.2.1⟩))
theorem g_null (n' : Nat) (hd : decode mt.2.1 pc = .ok (.aconst_null, 1)) (hn : pc + 1 = n') (k : G X mt d P V0 bc bs n' L (Nl :: st) V κ) : G X mt d P V0 bc bs pc L st V κ := fun p e R s m args below meth c mc ms ρ0 C H locs cells slots ls ρ hh => lv_null C.1 C.2.1 hd (by rw [hn]; exact k p e R s m args below meth c mc ms ρ0 C H locs cells slots ls ρ (hh.stk ⟨trivial, hh.2.2.1⟩))
theorem g_iload_n (n' : Nat) {j : Fin 4} {x : Int} (hd : decode mt.2.1 pc = .ok (.iload_n j, 1)) (hl : L[(j : Nat)]? = some (some (Iv x))) (hn : pc + 1 = n') (k : G X mt d P V0 bc bs n' L (Iv x :: st) V κ) : G X mt d P V0 bc bs pc L st V κ := fun p e R s m args below meth c mc ms ρ0 C H locs cells slots ls ρ hh => lv_iload_n C.1 C.2.1 hd rfl (hh.1.2.2 _ _ hl) (by rw [hn]; exact k p e R s m args below meth c mc ms ρ0 C H locs cells slots ls ρ (hh.stk ⟨trivial, hh.2.2.1⟩))
theorem g_iload (n' : Nat) {j : Nat} {x : Int} (hd : decode mt.2.1 pc = .ok (.iload j, 2)) (hl : L[j]? = some (some (Iv x))) (hn : pc + 2 = n') (k : G X mt d P V0 bc bs n' L (Iv x :: st) V κ) : G X mt d P V0 bc bs pc L st V κ := fun p e R s m args below meth c mc ms ρ0 C H locs cells slots ls ρ hh => lv_iload C.1 C.2.1 hd (hh.1.2.2 _ _ hl) (by rw [hn]; exact k p e R s m args below meth c mc ms ρ0 C H locs cells slots ls ρ (hh.stk ⟨trivial, hh.2.2.1⟩))
theorem g_aload_n (n' : Nat) {j : Fin 4} {v : Option Nat} (hd : decode mt.2.1 pc = .ok (.aload_n j, 1)) (hl : L[(j : Nat)]? = some (some (.inr v))) (hn : pc + 1 = n') (k : G X mt d P V0 bc bs n' L (.inr v :: st) V κ) : G X mt d P V0 bc bs pc L st V κ := fun p e R s m args below meth c mc ms ρ0 C H locs cells slots ls ρ hh => by
  have hk := k p e R s m args below meth c mc ms ρ0 C H locs cells slots ls ρ (hh.stk ⟨hh.2.1.get hl, hh.2.2.1⟩)
  rw [← hn] at hk
  have h0 := hh.1.2.2 _ _ hl
  rcases v with _ | t
  · exact lv_aload_nN C.1 C.2.1 hd rfl h0 hk
  · exact lv_aload_n C.1 C.2.1 hd rfl h0 hk
theorem g_aload (n' : Nat) {j : Nat} {v : Option Nat} (hd : decode mt.2.1 pc = .ok (.aload j, 2)) (hl : L[j]? = some (some (.inr v))) (hn : pc + 2 = n') (k : G X mt d P V0 bc bs n' L (.inr v :: st) V κ) : G X mt d P V0 bc bs pc L st V κ := fun p e R s m args below meth c mc ms ρ0 C H locs cells slots ls ρ hh => by
  have hk := k p e R s m args below meth c mc ms ρ0 C H locs cells slots ls ρ (hh.stk ⟨hh.2.1.get hl, hh.2.2.1⟩)
  rw [← hn] at hk
  have h0 := hh.1.2.2 _ _ hl
  rcases v with _ | t
  · exact lv_aloadN C.1 C.2.1 hd h0 hk
  · exact lv_aload C.1 C.2.1 hd h0 hk
theorem g_istore_n (n' : Nat) {j : Fin 4} {x : Int} {L' : Lc} (hd : decode mt.2.1 pc = .ok (.istore_n j, 1)) (hL : L.set (j : Nat) (some (Iv x)) = L') (hj : (j : Nat) < mt.2.2.1) (hn : pc + 1 = n') (k : G X mt d P V0 bc bs n' L' st V κ) : G X mt d P V0 bc bs pc L (Iv x :: st) V κ := fun p e R s m args below meth c mc ms ρ0 C H locs cells slots ls ρ hh => lv_istore_n C.1 C.2.1 hd rfl hh.1.has hj rfl (fun ls' hl => by rw [hn]; exact k p e R s m args below meth c mc ms ρ0 C H locs cells slots ls' ρ (hh.loc hh.2.2.1.2 (hL ▸ hh.2.1.set trivial) (hL ▸ lvL.store (v := Iv x) hl)))
theorem g_istore (n' : Nat) {j : Nat} {x : Int} {L' : Lc} (hd : decode mt.2.1 pc = .ok (.istore j, 2)) (hL : L.set j (some (Iv x)) = L') (hj : j < mt.2.2.1) (hn : pc + 2 = n') (k : G X mt d P V0 bc bs n' L' st V κ) : G X mt d P V0 bc bs pc L (Iv x :: st) V κ := fun p e R s m args below meth c mc ms ρ0 C H locs cells slots ls ρ hh => lv_istore C.1 C.2.1 hd hh.1.has hj rfl (fun ls' hl => by rw [hn]; exact k p e R s m args below meth c mc ms ρ0 C H locs cells slots ls' ρ (hh.loc hh.2.2.1.2 (hL ▸ hh.2.1.set trivial) (hL ▸ lvL.store (v := Iv x) hl)))
theorem g_astore_n (n' : Nat) {j : Fin 4} {v : Option Nat} {L' : Lc} (hd : decode mt.2.1 pc = .ok (.astore_n j, 1)) (hL : L.set (j : Nat) (some (.inr v)) = L') (hj : (j : Nat) < mt.2.2.1) (hn : pc + 1 = n') (k : G X mt d P V0 bc bs n' L' st V κ) : G X mt d P V0 bc bs pc L (.inr v :: st) V κ := fun p e R s m args below meth c mc ms ρ0 C H locs cells slots ls ρ hh => by
  have hk : ∀ ls', lvL ρ ls' mt.2.2.1 (L.set (j : Nat) (some (.inr v))) → W p X.1 e R s m args below meth c H locs cells slots (MQ below (qcG X P V0 ρ0) args s mc ms (frA X)) (F0 m (pc + 1) ls' (st.map (cv ρ))) := fun ls' hl => by rw [hn]; exact k p e R s m args below meth c mc ms ρ0 C H locs cells slots ls' ρ (hh.loc hh.2.2.1.2 (hL ▸ hh.2.1.set hh.2.2.1.1) (hL ▸ hl))
  rcases v with _ | t
  · exact lv_astore_nN C.1 C.2.1 hd rfl hh.1.has hj rfl (fun ls' hl => hk ls' (lvL.store (v := Nl) hl))
  · exact lv_astore_n C.1 C.2.1 hd rfl hh.1.has hj rfl (fun ls' hl => hk ls' (lvL.store (v := Rf t) hl))
theorem g_astore (n' : Nat) {j : Nat} {v : Option Nat} {L' : Lc} (hd : decode mt.2.1 pc = .ok (.astore j, 2)) (hL : L.set j (some (.inr v)) = L') (hj : j < mt.2.2.1) (hn : pc + 2 = n') (k : G X mt d P V0 bc bs n' L' st V κ) : G X mt d P V0 bc bs pc L (.inr v :: st) V κ := fun p e R s m args below meth c mc ms ρ0 C H locs cells slots ls ρ hh => by
  have hk : ∀ ls', lvL ρ ls' mt.2.2.1 (L.set j (some (.inr v))) → W p X.1 e R s m args below meth c H locs cells slots (MQ below (qcG X P V0 ρ0) args s mc ms (frA X)) (F0 m (pc + 2) ls' (st.map (cv ρ))) := fun ls' hl => by rw [hn]; exact k p e R s m args below meth c mc ms ρ0 C H locs cells slots ls' ρ (hh.loc hh.2.2.1.2 (hL ▸ hh.2.1.set hh.2.2.1.1) (hL ▸ hl))
  rcases v with _ | t
  · exact lv_astoreN C.1 C.2.1 hd hh.1.has hj rfl (fun ls' hl => hk ls' (lvL.store (v := Nl) hl))
  · exact lv_astore C.1 C.2.1 hd hh.1.has hj rfl (fun ls' hl => hk ls' (lvL.store (v := Rf t) hl))
theorem g_iinc (n' : Nat) {j : Nat} {n x : Int} {L' : Lc} (hd : decode mt.2.1 pc = .ok (.iinc j n, 3)) (hl : L[j]? = some (some (Iv x))) (hL : L.set j (some (Iv (x + n))) = L') (hj : j < mt.2.2.1) (hn : pc + 3 = n') (k : G X mt d P V0 bc bs n' L' st V κ) : G X mt d P V0 bc bs pc L st V κ := fun p e R s m args below meth c mc ms ρ0 C H locs cells slots ls ρ hh => by
  obtain ⟨i, hi⟩ := List.getElem?_of_mem (pr1_mem.mpr ⟨Iv x, hl, (rfl : cv ρ (Iv x) = cv ρ (Iv x))⟩)
  exact lv_iinc C.1 C.2.1 hd hh.1.has hi (Int32.ofInt_add x n).symm hj rfl (fun ls' hl => by rw [hn]; exact k p e R s m args below meth c mc ms ρ0 C H locs cells slots ls' ρ (hh.loc hh.2.2.1 (hL ▸ hh.2.1.set trivial) (hL ▸ lvL.store (v := Iv (x + n)) hl)))
theorem g_dup (n' : Nat) {v : Av} (hd : decode mt.2.1 pc = .ok (.dup, 1)) (hn : pc + 1 = n') (k : G X mt d P V0 bc bs n' L (v :: v :: st) V κ) : G X mt d P V0 bc bs pc L (v :: st) V κ := fun p e R s m args below meth c mc ms ρ0 C H locs cells slots ls ρ hh => lv_dup C.1 C.2.1 hd (cv_cat ρ v) (by rw [hn]; exact k p e R s m args below meth c mc ms ρ0 C H locs cells slots ls ρ (hh.stk ⟨hh.2.2.1.1, hh.2.2.1⟩))
theorem g_pop (n' : Nat) {v : Av} (hd : decode mt.2.1 pc = .ok (.pop, 1)) (hn : pc + 1 = n') (k : G X mt d P V0 bc bs n' L st V κ) : G X mt d P V0 bc bs pc L (v :: st) V κ := fun p e R s m args below meth c mc ms ρ0 C H locs cells slots ls ρ hh => lv_pop C.1 C.2.1 hd (cv_cat ρ v) (by rw [hn]; exact k p e R s m args below meth c mc ms ρ0 C H locs cells slots ls ρ (hh.stk hh.2.2.1.2))
theorem g_dup_x1 (n' : Nat) {v w : Av} (hd : decode mt.2.1 pc = .ok (.dup_x1, 1)) (hn : pc + 1 = n') (k : G X mt d P V0 bc bs n' L (v :: w :: v :: st) V κ) : G X mt d P V0 bc bs pc L (v :: w :: st) V κ := fun p e R s m args below meth c mc ms ρ0 C H locs cells slots ls ρ hh => lv_dup_x1 C.1 C.2.1 hd (cv_cat ρ v) (cv_cat ρ w) (by rw [hn]; exact k p e R s m args below meth c mc ms ρ0 C H locs cells slots ls ρ (hh.stk ⟨hh.2.2.1.1, hh.2.2.1.2.1, hh.2.2.1.1, hh.2.2.1.2.2⟩))
theorem g_dup2 (n' : Nat) {v w : Av} (hd : decode mt.2.1 pc = .ok (.dup2, 1)) (hn : pc + 1 = n') (k : G X mt d P V0 bc bs n' L (v :: w :: v :: w :: st) V κ) : G X mt d P V0 bc bs pc L (v :: w :: st) V κ := fun p e R s m args below meth c mc ms ρ0 C H locs cells slots ls ρ hh => lv_dup2_11 C.1 C.2.1 hd (cv_cat ρ v) (cv_cat ρ w) (by rw [hn]; exact k p e R s m args below meth c mc ms ρ0 C H locs cells slots ls ρ (hh.stk ⟨hh.2.2.1.1, hh.2.2.1.2.1, hh.2.2.1⟩))
theorem g_iadd (n' : Nat) {x y : Int} (hd : decode mt.2.1 pc = .ok (.iadd, 1)) (hn : pc + 1 = n') (k : G X mt d P V0 bc bs n' L (Iv (x + y) :: st) V κ) : G X mt d P V0 bc bs pc L (Iv y :: Iv x :: st) V κ := fun p e R s m args below meth c mc ms ρ0 C H locs cells slots ls ρ hh => lv_iadd C.1 C.2.1 hd (by rw [hn, ← Int32.ofInt_add]; exact k p e R s m args below meth c mc ms ρ0 C H locs cells slots ls ρ (hh.stk ⟨trivial, hh.2.2.1.2.2⟩))
theorem g_isub (n' : Nat) {x y : Int} (hd : decode mt.2.1 pc = .ok (.isub, 1)) (hn : pc + 1 = n') (k : G X mt d P V0 bc bs n' L (Iv (x - y) :: st) V κ) : G X mt d P V0 bc bs pc L (Iv y :: Iv x :: st) V κ := fun p e R s m args below meth c mc ms ρ0 C H locs cells slots ls ρ hh => lv_isub C.1 C.2.1 hd (by rw [hn, ← Int32.ofInt_sub]; exact k p e R s m args below meth c mc ms ρ0 C H locs cells slots ls ρ (hh.stk ⟨trivial, hh.2.2.1.2.2⟩))
theorem g_imul (n' : Nat) {x y : Int} (hd : decode mt.2.1 pc = .ok (.imul, 1)) (hn : pc + 1 = n') (k : G X mt d P V0 bc bs n' L (Iv (x * y) :: st) V κ) : G X mt d P V0 bc bs pc L (Iv y :: Iv x :: st) V κ := fun p e R s m args below meth c mc ms ρ0 C H locs cells slots ls ρ hh => lv_imul C.1 C.2.1 hd (by rw [hn, ← Int32.ofInt_mul]; exact k p e R s m args below meth c mc ms ρ0 C H locs cells slots ls ρ (hh.stk ⟨trivial, hh.2.2.1.2.2⟩))
theorem g_ineg (n' : Nat) {x : Int} (hd : decode mt.2.1 pc = .ok (.ineg, 1)) (hn : pc + 1 = n') (k : G X mt d P V0 bc bs n' L (Iv (-x) :: st) V κ) : G X mt d P V0 bc bs pc L (Iv x :: st) V κ := fun p e R s m args below meth c mc ms ρ0 C H locs cells slots ls ρ hh => lv_ineg C.1 C.2.1 hd (by rw [hn, ← Int32.ofInt_neg]; exact k p e R s m args below meth c mc ms ρ0 C H locs cells slots ls ρ (hh.stk ⟨trivial, hh.2.2.1.2⟩))
theorem g_iand (n' : Nat) {x y : Int} (hd : decode mt.2.1 pc = .ok (.iand, 1)) (hn : pc + 1 = n') (k : G X mt d P V0 bc bs n' L (Iv (bAnd x y) :: st) V κ) : G X mt d P V0 bc bs pc L (Iv y :: Iv x :: st) V κ := fun p e R s m args below meth c mc ms ρ0 C H locs cells slots ls ρ hh => by
  have hk := k p e R s m args below meth c mc ms ρ0 C H locs cells slots ls ρ (hh.stk ⟨trivial, hh.2.2.1.2.2⟩)
  rw [List.map_cons, ← hn] at hk
  have h1 : cv ρ (Iv (bAnd x y)) = .int _ := congrArg Value.int (Int32.ofInt_toInt _)
  rw [h1] at hk
  exact lv_iand C.1 C.2.1 hd hk
theorem g_ior (n' : Nat) {x y : Int} (hd : decode mt.2.1 pc = .ok (.ior, 1)) (hn : pc + 1 = n') (k : G X mt d P V0 bc bs n' L (Iv (bOr x y) :: st) V κ) : G X mt d P V0 bc bs pc L (Iv y :: Iv x :: st) V κ := fun p e R s m args below meth c mc ms ρ0 C H locs cells slots ls ρ hh => by
  have hk := k p e R s m args below meth c mc ms ρ0 C H locs cells slots ls ρ (hh.stk ⟨trivial, hh.2.2.1.2.2⟩)
  rw [List.map_cons, ← hn] at hk
  have h1 : cv ρ (Iv (bOr x y)) = .int _ := congrArg Value.int (Int32.ofInt_toInt _)
  rw [h1] at hk
  exact lv_ior C.1 C.2.1 hd hk
theorem g_ixor (n' : Nat) {x y : Int} (hd : decode mt.2.1 pc = .ok (.ixor, 1)) (hn : pc + 1 = n') (k : G X mt d P V0 bc bs n' L (Iv (bXor x y) :: st) V κ) : G X mt d P V0 bc bs pc L (Iv y :: Iv x :: st) V κ := fun p e R s m args below meth c mc ms ρ0 C H locs cells slots ls ρ hh => by
  have hk := k p e R s m args below meth c mc ms ρ0 C H locs cells slots ls ρ (hh.stk ⟨trivial, hh.2.2.1.2.2⟩)
  rw [List.map_cons, ← hn] at hk
  have h1 : cv ρ (Iv (bXor x y)) = .int _ := congrArg Value.int (Int32.ofInt_toInt _)
  rw [h1] at hk
  exact lv_ixor C.1 C.2.1 hd hk
theorem g_ishl (n' : Nat) {x y : Int} (hd : decode mt.2.1 pc = .ok (.ishl, 1)) (hn : pc + 1 = n') (k : G X mt d P V0 bc bs n' L (Iv (bShl x y) :: st) V κ) : G X mt d P V0 bc bs pc L (Iv y :: Iv x :: st) V κ := fun p e R s m args below meth c mc ms ρ0 C H locs cells slots ls ρ hh => by
  have hk := k p e R s m args below meth c mc ms ρ0 C H locs cells slots ls ρ (hh.stk ⟨trivial, hh.2.2.1.2.2⟩)
  rw [List.map_cons, ← hn] at hk
  have h1 : cv ρ (Iv (bShl x y)) = .int _ := congrArg Value.int (Int32.ofInt_toInt _)
  rw [h1] at hk
  exact lv_ishl C.1 C.2.1 hd hk
theorem g_ishr (n' : Nat) {x y : Int} (hd : decode mt.2.1 pc = .ok (.ishr, 1)) (hn : pc + 1 = n') (k : G X mt d P V0 bc bs n' L (Iv (bShr x y) :: st) V κ) : G X mt d P V0 bc bs pc L (Iv y :: Iv x :: st) V κ := fun p e R s m args below meth c mc ms ρ0 C H locs cells slots ls ρ hh => by
  have hk := k p e R s m args below meth c mc ms ρ0 C H locs cells slots ls ρ (hh.stk ⟨trivial, hh.2.2.1.2.2⟩)
  rw [List.map_cons, ← hn] at hk
  have h1 : cv ρ (Iv (bShr x y)) = .int _ := congrArg Value.int (Int32.ofInt_toInt _)
  rw [h1] at hk
  exact lv_ishr C.1 C.2.1 hd hk
theorem g_iushr (n' : Nat) {x y : Int} (hd : decode mt.2.1 pc = .ok (.iushr, 1)) (hn : pc + 1 = n') (k : G X mt d P V0 bc bs n' L (Iv (bUshr x y) :: st) V κ) : G X mt d P V0 bc bs pc L (Iv y :: Iv x :: st) V κ := fun p e R s m args below meth c mc ms ρ0 C H locs cells slots ls ρ hh => lv_iushr C.1 C.2.1 hd (Int32.ofInt_toInt _).symm (by rw [hn]; exact k p e R s m args below meth c mc ms ρ0 C H locs cells slots ls ρ (hh.stk ⟨trivial, hh.2.2.1.2.2⟩))
theorem g_idivT (n' : Nat) {x y : Int} (hd : decode mt.2.1 pc = .ok (.idiv, 1)) (hx : inR x) (hy : inR y) (h0 : y ≠ 0) (hn : pc + 1 = n') (k : G X mt d P V0 bc bs n' L (Iv (x.tdiv y) :: st) V κ) : G X mt d P V0 bc bs pc L (Iv y :: Iv x :: st) V κ := fun p e R s m args below meth c mc ms ρ0 C H locs cells slots ls ρ hh => lv_idiv C.1 C.2.1 hd (fun z => h0 ((ofI_eq hy inR_0).mp z)) (by rw [hn, ofI_tdiv hx hy]; exact k p e R s m args below meth c mc ms ρ0 C H locs cells slots ls ρ (hh.stk ⟨trivial, hh.2.2.1.2.2⟩))
theorem g_iremT (n' : Nat) {x y : Int} (hd : decode mt.2.1 pc = .ok (.irem, 1)) (hx : inR x) (hy : inR y) (h0 : y ≠ 0) (hn : pc + 1 = n') (k : G X mt d P V0 bc bs n' L (Iv (x.tmod y) :: st) V κ) : G X mt d P V0 bc bs pc L (Iv y :: Iv x :: st) V κ := fun p e R s m args below meth c mc ms ρ0 C H locs cells slots ls ρ hh => lv_irem C.1 C.2.1 hd (fun z => h0 ((ofI_eq hy inR_0).mp z)) (by rw [hn, ofI_tmod hx hy]; exact k p e R s m args below meth c mc ms ρ0 C H locs cells slots ls ρ (hh.stk ⟨trivial, hh.2.2.1.2.2⟩))
theorem g_idiv (n' : Nat) {x y : Int} (hd : decode mt.2.1 pc = .ok (.idiv, 1)) (hx : inR x ∧ 0 ≤ x) (hy : inR y ∧ 0 < y) (hn : pc + 1 = n') (k : G X mt d P V0 bc bs n' L (Iv (x / y) :: st) V κ) : G X mt d P V0 bc bs pc L (Iv y :: Iv x :: st) V κ := g_idivT n' hd hx.1 hy.1 (by omega) hn (by rw [Int.tdiv_eq_ediv_of_nonneg hx.2]; exact k)
theorem g_irem (n' : Nat) {x y : Int} (hd : decode mt.2.1 pc = .ok (.irem, 1)) (hx : inR x ∧ 0 ≤ x) (hy : inR y ∧ 0 < y) (hn : pc + 1 = n') (k : G X mt d P V0 bc bs n' L (Iv (x % y) :: st) V κ) : G X mt d P V0 bc bs pc L (Iv y :: Iv x :: st) V κ := g_iremT n' hd hx.1 hy.1 (by omega) hn (by rw [Int.tmod_eq_emod_of_nonneg hx.2]; exact k)
theorem g_if_eq (tg n' : Nat) {x : Int} {off : Int} (hd : decode mt.2.1 pc = .ok (.ifCond .eq off, 3)) (hx : inR x) (ht : (pc : Int) + off = (tg : Int)) (hn : pc + 3 = n') (kt : x = 0 → G X mt d P V0 bc bs tg L st V κ) (kf : ¬ x = 0 → G X mt d P V0 bc bs n' L st V κ) : G X mt d P V0 bc bs pc L (Iv x :: st) V κ := fun p e R s m args below meth c mc ms ρ0 C H locs cells slots ls ρ hh => lv_if_eq C.1 C.2.1 hd ht (fun z => kt ((ofI_eq hx inR_0).mp z) p e R s m args below meth c mc ms ρ0 C H locs cells slots ls ρ (hh.stk hh.2.2.1.2)) (fun z => by rw [hn]; exact kf (fun w => z ((ofI_eq hx inR_0).mpr w)) p e R s m args below meth c mc ms ρ0 C H locs cells slots ls ρ (hh.stk hh.2.2.1.2))
theorem g_icmp_eq (tg n' : Nat) {x y : Int} {off : Int} (hd : decode mt.2.1 pc = .ok (.if_icmp .eq off, 3)) (hx : inR x) (hy : inR y) (ht : (pc : Int) + off = (tg : Int)) (hn : pc + 3 = n') (kt : x = y → G X mt d P V0 bc bs tg L st V κ) (kf : ¬ x = y → G X mt d P V0 bc bs n' L st V κ) : G X mt d P V0 bc bs pc L (Iv y :: Iv x :: st) V κ := fun p e R s m args below meth c mc ms ρ0 C H locs cells slots ls ρ hh => lv_icmp_eq C.1 C.2.1 hd ht (fun z => kt ((ofI_eq hx hy).mp z) p e R s m args below meth c mc ms ρ0 C H locs cells slots ls ρ (hh.stk hh.2.2.1.2.2)) (fun z => by rw [hn]; exact kf (fun w => z ((ofI_eq hx hy).mpr w)) p e R s m args below meth c mc ms ρ0 C H locs cells slots ls ρ (hh.stk hh.2.2.1.2.2))
theorem g_if_ne (tg n' : Nat) {x : Int} {off : Int} (hd : decode mt.2.1 pc = .ok (.ifCond .ne off, 3)) (hx : inR x) (ht : (pc : Int) + off = (tg : Int)) (hn : pc + 3 = n') (kt : ¬ x = 0 → G X mt d P V0 bc bs tg L st V κ) (kf : x = 0 → G X mt d P V0 bc bs n' L st V κ) : G X mt d P V0 bc bs pc L (Iv x :: st) V κ := fun p e R s m args below meth c mc ms ρ0 C H locs cells slots ls ρ hh => lv_if_ne C.1 C.2.1 hd ht (fun z => kt (fun w => z ((ofI_eq hx inR_0).mpr w)) p e R s m args below meth c mc ms ρ0 C H locs cells slots ls ρ (hh.stk hh.2.2.1.2)) (fun z => by rw [hn]; exact kf ((ofI_eq hx inR_0).mp z) p e R s m args below meth c mc ms ρ0 C H locs cells slots ls ρ (hh.stk hh.2.2.1.2))
theorem g_icmp_ne (tg n' : Nat) {x y : Int} {off : Int} (hd : decode mt.2.1 pc = .ok (.if_icmp .ne off, 3)) (hx : inR x) (hy : inR y) (ht : (pc : Int) + off = (tg : Int)) (hn : pc + 3 = n') (kt : ¬ x = y → G X mt d P V0 bc bs tg L st V κ) (kf : x = y → G X mt d P V0 bc bs n' L st V κ) : G X mt d P V0 bc bs pc L (Iv y :: Iv x :: st) V κ := fun p e R s m args below meth c mc ms ρ0 C H locs cells slots ls ρ hh => lv_icmp_ne C.1 C.2.1 hd ht (fun z => kt (fun w => z ((ofI_eq hx hy).mpr w)) p e R s m args below meth c mc ms ρ0 C H locs cells slots ls ρ (hh.stk hh.2.2.1.2.2)) (fun z => by rw [hn]; exact kf ((ofI_eq hx hy).mp z) p e R s m args below meth c mc ms ρ0 C H locs cells slots ls ρ (hh.stk hh.2.2.1.2.2))
theorem g_if_lt (tg n' : Nat) {x : Int} {off : Int} (hd : decode mt.2.1 pc = .ok (.ifCond .lt off, 3)) (hx : inR x) (ht : (pc : Int) + off = (tg : Int)) (hn : pc + 3 = n') (kt : x < 0 → G X mt d P V0 bc bs tg L st V κ) (kf : 0 ≤ x → G X mt d P V0 bc bs n' L st V κ) : G X mt d P V0 bc bs pc L (Iv x :: st) V κ := fun p e R s m args below meth c mc ms ρ0 C H locs cells slots ls ρ hh => lv_if_lt C.1 C.2.1 hd ht (fun z => kt ((ofI_lt hx inR_0).mp z) p e R s m args below meth c mc ms ρ0 C H locs cells slots ls ρ (hh.stk hh.2.2.1.2)) (fun z => by rw [hn]; exact kf (Int.not_lt.mp (fun w => z ((ofI_lt hx inR_0).mpr w))) p e R s m args below meth c mc ms ρ0 C H locs cells slots ls ρ (hh.stk hh.2.2.1.2))
theorem g_icmp_lt (tg n' : Nat) {x y : Int} {off : Int} (hd : decode mt.2.1 pc = .ok (.if_icmp .lt off, 3)) (hx : inR x) (hy : inR y) (ht : (pc : Int) + off = (tg : Int)) (hn : pc + 3 = n') (kt : x < y → G X mt d P V0 bc bs tg L st V κ) (kf : y ≤ x → G X mt d P V0 bc bs n' L st V κ) : G X mt d P V0 bc bs pc L (Iv y :: Iv x :: st) V κ := fun p e R s m args below meth c mc ms ρ0 C H locs cells slots ls ρ hh => lv_icmp_lt C.1 C.2.1 hd ht (fun z => kt ((ofI_lt hx hy).mp z) p e R s m args below meth c mc ms ρ0 C H locs cells slots ls ρ (hh.stk hh.2.2.1.2.2)) (fun z => by rw [hn]; exact kf (Int.not_lt.mp (fun w => z ((ofI_lt hx hy).mpr w))) p e R s m args below meth c mc ms ρ0 C H locs cells slots ls ρ (hh.stk hh.2.2.1.2.2))
theorem g_if_ge (tg n' : Nat) {x : Int} {off : Int} (hd : decode mt.2.1 pc = .ok (.ifCond .ge off, 3)) (hx : inR x) (ht : (pc : Int) + off = (tg : Int)) (hn : pc + 3 = n') (kt : 0 ≤ x → G X mt d P V0 bc bs tg L st V κ) (kf : x < 0 → G X mt d P V0 bc bs n' L st V κ) : G X mt d P V0 bc bs pc L (Iv x :: st) V κ := fun p e R s m args below meth c mc ms ρ0 C H locs cells slots ls ρ hh => lv_if_ge C.1 C.2.1 hd ht (fun z => kt ((ofI_le inR_0 hx).mp z) p e R s m args below meth c mc ms ρ0 C H locs cells slots ls ρ (hh.stk hh.2.2.1.2)) (fun z => by rw [hn]; exact kf (Int.not_le.mp (fun w => z ((ofI_le inR_0 hx).mpr w))) p e R s m args below meth c mc ms ρ0 C H locs cells slots ls ρ (hh.stk hh.2.2.1.2))
theorem g_icmp_ge (tg n' : Nat) {x y : Int} {off : Int} (hd : decode mt.2.1 pc = .ok (.if_icmp .ge off, 3)) (hx : inR x) (hy : inR y) (ht : (pc : Int) + off = (tg : Int)) (hn : pc + 3 = n') (kt : y ≤ x → G X mt d P V0 bc bs tg L st V κ) (kf : x < y → G X mt d P V0 bc bs n' L st V κ) : G X mt d P V0 bc bs pc L (Iv y :: Iv x :: st) V κ := fun p e R s m args below meth c mc ms ρ0 C H locs cells slots ls ρ hh => lv_icmp_ge C.1 C.2.1 hd ht (fun z => kt ((ofI_le hy hx).mp z) p e R s m args below meth c mc ms ρ0 C H locs cells slots ls ρ (hh.stk hh.2.2.1.2.2)) (fun z => by rw [hn]; exact kf (Int.not_le.mp (fun w => z ((ofI_le hy hx).mpr w))) p e R s m args below meth c mc ms ρ0 C H locs cells slots ls ρ (hh.stk hh.2.2.1.2.2))
theorem g_if_gt (tg n' : Nat) {x : Int} {off : Int} (hd : decode mt.2.1 pc = .ok (.ifCond .gt off, 3)) (hx : inR x) (ht : (pc : Int) + off = (tg : Int)) (hn : pc + 3 = n') (kt : 0 < x → G X mt d P V0 bc bs tg L st V κ) (kf : x ≤ 0 → G X mt d P V0 bc bs n' L st V κ) : G X mt d P V0 bc bs pc L (Iv x :: st) V κ := fun p e R s m args below meth c mc ms ρ0 C H locs cells slots ls ρ hh => lv_if_gt C.1 C.2.1 hd ht (fun z => kt ((ofI_lt inR_0 hx).mp z) p e R s m args below meth c mc ms ρ0 C H locs cells slots ls ρ (hh.stk hh.2.2.1.2)) (fun z => by rw [hn]; exact kf (Int.not_lt.mp (fun w => z ((ofI_lt inR_0 hx).mpr w))) p e R s m args below meth c mc ms ρ0 C H locs cells slots ls ρ (hh.stk hh.2.2.1.2))
theorem g_icmp_gt (tg n' : Nat) {x y : Int} {off : Int} (hd : decode mt.2.1 pc = .ok (.if_icmp .gt off, 3)) (hx : inR x) (hy : inR y) (ht : (pc : Int) + off = (tg : Int)) (hn : pc + 3 = n') (kt : y < x → G X mt d P V0 bc bs tg L st V κ) (kf : x ≤ y → G X mt d P V0 bc bs n' L st V κ) : G X mt d P V0 bc bs pc L (Iv y :: Iv x :: st) V κ := fun p e R s m args below meth c mc ms ρ0 C H locs cells slots ls ρ hh => lv_icmp_gt C.1 C.2.1 hd ht (fun z => kt ((ofI_lt hy hx).mp z) p e R s m args below meth c mc ms ρ0 C H locs cells slots ls ρ (hh.stk hh.2.2.1.2.2)) (fun z => by rw [hn]; exact kf (Int.not_lt.mp (fun w => z ((ofI_lt hy hx).mpr w))) p e R s m args below meth c mc ms ρ0 C H locs cells slots ls ρ (hh.stk hh.2.2.1.2.2))
theorem g_if_le (tg n' : Nat) {x : Int} {off : Int} (hd : decode mt.2.1 pc = .ok (.ifCond .le off, 3)) (hx : inR x) (ht : (pc : Int) + off = (tg : Int)) (hn : pc + 3 = n') (kt : x ≤ 0 → G X mt d P V0 bc bs tg L st V κ) (kf : 0 < x → G X mt d P V0 bc bs n' L st V κ) : G X mt d P V0 bc bs pc L (Iv x :: st) V κ := fun p e R s m args below meth c mc ms ρ0 C H locs cells slots ls ρ hh => lv_if_le C.1 C.2.1 hd ht (fun z => kt ((ofI_le hx inR_0).mp z) p e R s m args below meth c mc ms ρ0 C H locs cells slots ls ρ (hh.stk hh.2.2.1.2)) (fun z => by rw [hn]; exact kf (Int.not_le.mp (fun w => z ((ofI_le hx inR_0).mpr w))) p e R s m args below meth c mc ms ρ0 C H locs cells slots ls ρ (hh.stk hh.2.2.1.2))
theorem g_icmp_le (tg n' : Nat) {x y : Int} {off : Int} (hd : decode mt.2.1 pc = .ok (.if_icmp .le off, 3)) (hx : inR x) (hy : inR y) (ht : (pc : Int) + off = (tg : Int)) (hn : pc + 3 = n') (kt : x ≤ y → G X mt d P V0 bc bs tg L st V κ) (kf : y < x → G X mt d P V0 bc bs n' L st V κ) : G X mt d P V0 bc bs pc L (Iv y :: Iv x :: st) V κ := fun p e R s m args below meth c mc ms ρ0 C H locs cells slots ls ρ hh => lv_icmp_le C.1 C.2.1 hd ht (fun z => kt ((ofI_le hx hy).mp z) p e R s m args below meth c mc ms ρ0 C H locs cells slots ls ρ (hh.stk hh.2.2.1.2.2)) (fun z => by rw [hn]; exact kf (Int.not_le.mp (fun w => z ((ofI_le hx hy).mpr w))) p e R s m args below meth c mc ms ρ0 C H locs cells slots ls ρ (hh.stk hh.2.2.1.2.2))
theorem g_goto (tg : Nat) {off : Int} (hd : decode mt.2.1 pc = .ok (.goto off, 3)) (ht : (pc : Int) + off = (tg : Int)) (k : G X mt d P V0 bc bs tg L st V κ) : G X mt d P V0 bc bs pc L st V κ := fun p e R s m args below meth c mc ms ρ0 C H locs cells slots ls ρ hh => lv_goto C.1 C.2.1 hd ht (k p e R s m args below meth c mc ms ρ0 C H locs cells slots ls ρ hh)
theorem g_ifnull (tg n' : Nat) {v : Option Nat} {off : Int} (hd : decode mt.2.1 pc = .ok (.ifnull off, 3)) (ht : (pc : Int) + off = (tg : Int)) (hn : pc + 3 = n') (kt : v = none → G X mt d P V0 bc bs tg L st V κ) (kf : v ≠ none → G X mt d P V0 bc bs n' L st V κ) : G X mt d P V0 bc bs pc L (.inr v :: st) V κ := fun p e R s m args below meth c mc ms ρ0 C H locs cells slots ls ρ hh => by
  rcases v with _ | t
  · exact lv_ifnullN C.1 C.2.1 hd ht (kt rfl p e R s m args below meth c mc ms ρ0 C H locs cells slots ls ρ (hh.stk hh.2.2.1.2))
  · exact lv_ifnull C.1 C.2.1 hd (by rw [hn]; exact kf (fun z => by cases z) p e R s m args below meth c mc ms ρ0 C H locs cells slots ls ρ (hh.stk hh.2.2.1.2))
theorem g_ifnonnull (tg n' : Nat) {v : Option Nat} {off : Int} (hd : decode mt.2.1 pc = .ok (.ifnonnull off, 3)) (ht : (pc : Int) + off = (tg : Int)) (hn : pc + 3 = n') (kt : v ≠ none → G X mt d P V0 bc bs tg L st V κ) (kf : v = none → G X mt d P V0 bc bs n' L st V κ) : G X mt d P V0 bc bs pc L (.inr v :: st) V κ := fun p e R s m args below meth c mc ms ρ0 C H locs cells slots ls ρ hh => by
  rcases v with _ | t
  · exact lv_ifnonnullN C.1 C.2.1 hd (by rw [hn]; exact kf rfl p e R s m args below meth c mc ms ρ0 C H locs cells slots ls ρ (hh.stk hh.2.2.1.2))
  · exact lv_ifnonnull C.1 C.2.1 hd ht (kt (fun z => by cases z) p e R s m args below meth c mc ms ρ0 C H locs cells slots ls ρ (hh.stk hh.2.2.1.2))
theorem g_tabOut (tg : Nat) {dflt lo hi : Int} {offs : Array Int} {len : Nat} {x : Int} (hd : decode mt.2.1 pc = .ok (.tableswitch dflt lo hi offs, len)) (hx : inR x) (h : x < lo ∨ hi < x) (ht : (pc : Int) + dflt = (tg : Int)) (k : G X mt d P V0 bc bs tg L st V κ) : G X mt d P V0 bc bs pc L (Iv x :: st) V κ := fun p e R s m args below meth c mc ms ρ0 C H locs cells slots ls ρ hh => lv_tableOut C.1 C.2.1 hd (by rw [inR_toInt hx]; exact h) ht (k p e R s m args below meth c mc ms ρ0 C H locs cells slots ls ρ (hh.stk hh.2.2.1.2))
theorem g_tabIn (tg : Nat) {dflt lo hi : Int} {offs : Array Int} {len : Nat} {x : Int} (off : Int) (hd : decode mt.2.1 pc = .ok (.tableswitch dflt lo hi offs, len)) (hx : inR x) (h1 : ¬ x < lo) (h2 : ¬ hi < x) (ho : offs[(x - lo).toNat]? = some off) (ht : (pc : Int) + off = (tg : Int)) (k : G X mt d P V0 bc bs tg L st V κ) : G X mt d P V0 bc bs pc L (Iv x :: st) V κ := fun p e R s m args below meth c mc ms ρ0 C H locs cells slots ls ρ hh => lv_tableIn C.1 C.2.1 hd (by rw [inR_toInt hx]; exact h1) (by rw [inR_toInt hx]; exact h2) (by rw [inR_toInt hx]; exact ho) ht (k p e R s m args below meth c mc ms ρ0 C H locs cells slots ls ρ (hh.stk hh.2.2.1.2))
theorem va_rf_cv (ρ : Nat → Nat) (v : Option Nat) : va_rf (v.map ρ) = cv ρ (.inr v) := by rcases v with _ | t <;> rfl
theorem g_acmpE_eq (tg : Nat) {t : Nat} {off : Int} (hd : decode mt.2.1 pc = .ok (.if_acmp .eq off, 3)) (ht : (pc : Int) + off = (tg : Int)) (k : G X mt d P V0 bc bs tg L st V κ) : G X mt d P V0 bc bs pc L (Rf t :: Rf t :: st) V κ := fun p e R s m args below meth c mc ms ρ0 C H locs cells slots ls ρ hh => lv_acmp_eq (rx := some (ρ t)) (ry := some (ρ t)) C.1 C.2.1 hd ht (fun _ => k p e R s m args below meth c mc ms ρ0 C H locs cells slots ls ρ (hh.stk hh.2.2.1.2.2)) (fun z => absurd rfl z)
theorem g_acmpE_ne (n' : Nat) {t : Nat} {off : Int} (hd : decode mt.2.1 pc = .ok (.if_acmp .ne off, 3)) {tg : Nat} (ht : (pc : Int) + off = (tg : Int)) (hn : pc + 3 = n') (k : G X mt d P V0 bc bs n' L st V κ) : G X mt d P V0 bc bs pc L (Rf t :: Rf t :: st) V κ := fun p e R s m args below meth c mc ms ρ0 C H locs cells slots ls ρ hh => lv_acmp_ne (rx := some (ρ t)) (ry := some (ρ t)) C.1 C.2.1 hd ht (fun z => absurd rfl z) (fun _ => by rw [hn]; exact k p e R s m args below meth c mc ms ρ0 C H locs cells slots ls ρ (hh.stk hh.2.2.1.2.2))
end G5
end
section
/-! ROWS of G for the memory: fields, arrays, statics -/
def dr (x : Int) : Option Nat := if x = 0 then none else some x.toNat
theorem vr_0 {X : Cx} {t j : Nat} {r : Nat → Int} (h : X.2.2.2.2.2.2 t j = 0) : vr X t r j = .inl (r j) := by unfold vr; rw [h]
theorem vr_1 {X : Cx} {t j : Nat} {r : Nat → Int} (h : X.2.2.2.2.2.2 t j = 1) : vr X t r j = .inr (dr (r j)) := by unfold vr; rw [h]; rfl
theorem vr_c {X : Cx} {t j c : Nat} {r : Nat → Int} (h : X.2.2.2.2.2.2 t j = c + 2) : vr X t r j = .inr (some c) := by unfold vr; rw [h]
theorem vr_up {X : Cx} {t j k : Nat} {r : Nat → Int} {x : Int} (h : j ≠ k) : vr X t (up1 r k x) j = vr X t r j := by
  have e : up1 r k x j = r j := if_neg h
  unfold vr
  rw [e]
theorem up1_s {r : Nat → Int} {k : Nat} {x : Int} : up1 r k x k = x := if_pos rfl
theorem up1_R {r : Nat → Int} {k : Nat} {x : Int} (h : ∀ j, inR (r j)) (hx : inR x) (j : Nat) : inR (up1 r k x j) := by
  unfold up1
  split
  · exact hx
  · exact h j
theorem okA_vr {X : Cx} {ρ : Nat → Nat} {V : Vs} {κ : Ks} {U : State} {H : Heap} (h : mm X ρ V κ U H) {t j : Nat} (ht : V t = true) : okA V (vr X t (κ t) j) := by
  rcases hv : vr X t (κ t) j with x | (_ | q)
  · trivial
  · trivial
  · exact h.2.2.2.1 t j q ht hv
theorem ent_O {X : Cx} {ρ : Nat → Nat} {t ci N : Nat} {r : Nat → Int} (hk : kd X t = (ci, N)) (hci : ci < 20) : ent X ρ t r = .inr (ci, (List.range N).map (fun j => cv ρ (vr X t r j))) := by
  unfold ent entO
  rw [hk]
  rw [if_neg (by show ¬ ci = 20; omega), if_neg (by show ¬ ci = 21; omega), if_neg (by show ¬ ci = 22; omega), if_neg (by show ¬ ci = 23; omega)]
theorem ent_I {X : Cx} {ρ : Nat → Nat} {t N : Nat} {r : Nat → Int} (hk : kd X t = (20, N)) : ent X ρ t r = .inl (X.2.2.1 0, N, .inl (fun j => Int32.ofInt (r j))) := by
  unfold ent entI
  rw [hk]
  rfl
theorem ent_Z {X : Cx} {ρ : Nat → Nat} {t N : Nat} {r : Nat → Int} (hk : kd X t = (21, N)) : ent X ρ t r = .inl (X.2.2.1 1, N, .inl (fun j => Int32.ofInt (r j))) := by
  unfold ent entI
  rw [hk]
  rfl
theorem ent_A {X : Cx} {ρ : Nat → Nat} {t N : Nat} {r : Nat → Int} (hk : kd X t = (22, N)) : ent X ρ t r = .inl (X.2.2.1 2, N, .inr (.inr (.inr (.inr (fun j => rfo ρ (vr X t r j)))))) := by
  unfold ent entR
  rw [hk]
  rfl
theorem ent_W {X : Cx} {ρ : Nat → Nat} {t N : Nat} {r : Nat → Int} (hk : kd X t = (23, N)) : ent X ρ t r = .inl (X.2.2.1 3, N, .inr (.inr (.inr (.inr (fun j => rfo ρ (vr X t r j)))))) := by
  unfold ent entR
  rw [hk]
  rfl
theorem map_set {α : Type} {N k : Nat} {f g : Nat → α} {w : α} (h : ∀ j, j ≠ k → g j = f j) (hk : g k = w) : ((List.range N).map f).set k w = (List.range N).map g := by
  apply List.ext_getElem
  · simp
  · intro i h1 h2
    rw [List.getElem_set]
    split
    · rename_i e
      subst e
      simp [hk]
    · rename_i e
      simp [h i (Ne.symm e)]
theorem nar_int (x : Int32) : narrow .int (.int x) = .int x ∧ fits .int (.int x) = true := ⟨rfl, rfl⟩
theorem nar_z {v : Int} (hv : v = 0 ∨ v = 1) : narrow .boolean (.int (Int32.ofInt v)) = .int (Int32.ofInt v) ∧ fits .boolean (.int (Int32.ofInt v)) = true := by rcases hv with rfl | rfl <;> exact ⟨by decide, by decide⟩
theorem nar_o (C : String) (ρ : Nat → Nat) (v : Option Nat) : narrow (.object C) (cv ρ (.inr v)) = cv ρ (.inr v) ∧ fits (.object C) (cv ρ (.inr v)) = true := by rcases v with _ | t <;> exact ⟨rfl, rfl⟩
theorem nar_a (C : FieldType) (ρ : Nat → Nat) (v : Option Nat) : narrow (.array C) (cv ρ (.inr v)) = cv ρ (.inr v) ∧ fits (.array C) (cv ρ (.inr v)) = true := by rcases v with _ | t <;> exact ⟨rfl, rfl⟩
def FLd (own : String) (idx ci k N : Nat) : Prop := ∃ (C : String) (T : u_T) (ref : String), vwCl[ci]? = some (C, T, N) ∧ (∀ w ∈ u_ws C T N, w ∈ tbG) ∧ k < N ∧ ci < 20 ∧ Cond.fieldLink own idx ref (T k).2.1 (T k).2.2.1 ∈ tbG ∧ (ref = (T k).1 ∨ Cond.sameField ref (T k).1 (T k).2.1 (T k).2.2.1 ∈ tbG)
def FPt (own : String) (idx ci k N : Nat) (ty : FieldType) (fin : Bool) : Prop := ∃ (C : String) (T : u_T) (ref : String) (ty0 : Nat → FieldType), vwCl[ci]? = some (C, T, N) ∧ (∀ w ∈ u_ws C T N, w ∈ tbG) ∧ k < N ∧ ci < 20 ∧ Cond.fieldLink own idx ref (T k).2.1 (T k).2.2.1 ∈ tbG ∧ (ref = (T k).1 ∨ Cond.sameField ref (T k).1 (T k).2.1 (T k).2.2.1 ∈ tbG) ∧
  (∀ k, k < N → parseFieldDescriptor (T k).2.2.1 = some (ty0 k)) ∧ (∀ a, a < N → ∀ b, b < N → a ≠ b → (T a).2.1 ≠ (T b).2.1) ∧ parseFieldDescriptor (T k).2.2.1 = some ty ∧ (T k).2.2.2 = fin ∧ (fin = true → (T k).1 = own)
theorem sm_of {s : State} {args : Array Value} {ref owner name desc : String} (hts : ∀ w ∈ tbG, w.before args s = true) (h : ref = owner ∨ Cond.sameField ref owner name desc ∈ tbG) : ∀ x, s.fieldFound? owner name desc = some x → s.fieldFound? ref name desc = some x := fun x hx => by
  rcases h with rfl | h
  · exact hx
  · exact u_same (hts _ h) x hx
theorem clampI {i : Int} {N : Nat} (hi : 0 ≤ i ∧ i < N) (hN : N < 2147483648) : (Int32.ofInt i).toNatClampNeg = i.toNat := by
  show (Int32.ofInt i).toInt.toNat = i.toNat
  rw [inR_toInt ⟨by omega, by omega⟩]
theorem inI {i : Int} {N : Nat} (hi : 0 ≤ i ∧ i < N) (hN : N < 2147483648) : vp_in (Int32.ofInt i) N := vp_in_iff.mpr (by rw [inR_toInt ⟨by omega, by omega⟩]; exact hi)
theorem kd_lt {X : Cx} {t ci N : Nat} (hk : kd X t = (ci, N)) (h : ci < 30) : (kd X t).1 < 30 := by rw [hk]; exact h
theorem ofI_up (r : Nat → Int) (k : Nat) (x : Int) : upd (fun j => Int32.ofInt (r j)) k (Int32.ofInt x) = fun j => Int32.ofInt (up1 r k x j) := by
  funext j
  unfold up1
  by_cases h : j = k
  · simp [upd, h]
  · simp [upd, h]
section G6
variable {X : Cx} {mt : Mt} {d : Nat} {P : Po} {V0 : Vs} {bc bs pc : Nat} {L : Lc} {st : List Av} {V : Vs} {κ : Ks}
theorem g_getf (n' : Nat) {t ci N idx k : Nat} (hd : decode mt.2.1 pc = .ok (.getfield idx, 3)) (hf : FLd mt.1.cls idx ci k N) (hk : kd X t = (ci, N)) (hn : pc + 3 = n') (kk : inR (κ t k) → G X mt d P V0 bc bs n' L (vr X t (κ t) k :: st) V κ) : G X mt d P V0 bc bs pc L (Rf t :: st) V κ := fun p e R s m args below meth c mc ms ρ0 C H locs cells slots ls ρ hh => by
  obtain ⟨C', T, ref, hc, hin, hlt, hci, hw, hsm⟩ := hf
  have hM := hh.2.2.2.1
  obtain ⟨N0, hN⟩ := hM.2.2.2.2
  have hV : V t = true := hh.2.2.1.1
  obtain ⟨q0, hq0⟩ := lvl_pos hN hV (kd_lt hk (by omega))
  have he : (wsO X ρ κ (lvl X V N0))[q0]? = some (ρ t, .inr (ci, (List.range N).map fun j => cv ρ (vr X t (κ t) j))) := by rw [wsO_pos hq0, ent_O hk hci]
  refine va_get (D := X.2.1) (tys := tysG X) C.1 C.2.1 C.2.2.2.2.1 hin C.2.2.2.1 C.2.2.2.2.2.2.2.2.1.1 (hM.P N0) q0 he hc k hlt (C.2.2.2.2.1 _ hw) (sm_of C.2.2.2.2.1 hsm) (v := cv ρ (vr X t (κ t) k)) (by simp [hlt]) hd ?_
  rw [hn]
  exact kk (hM.2.2.1 t k) p e R s m args below meth c mc ms ρ0 C H locs cells slots ls ρ (hh.stk ⟨okA_vr hM hV, hh.2.2.1.2⟩)
theorem g_getI (n' : Nat) {t ci N idx k : Nat} (hd : decode mt.2.1 pc = .ok (.getfield idx, 3)) (hf : FLd mt.1.cls idx ci k N) (hk : kd X t = (ci, N)) (hl : X.2.2.2.2.2.2 t k = 0) (hn : pc + 3 = n') (kk : inR (κ t k) → G X mt d P V0 bc bs n' L (Iv (κ t k) :: st) V κ) : G X mt d P V0 bc bs pc L (Rf t :: st) V κ := g_getf n' hd hf hk hn (fun h => by rw [vr_0 hl]; exact kk h)
theorem g_getC (n' : Nat) {t ci N idx k c : Nat} (hd : decode mt.2.1 pc = .ok (.getfield idx, 3)) (hf : FLd mt.1.cls idx ci k N) (hk : kd X t = (ci, N)) (hl : X.2.2.2.2.2.2 t k = c + 2) (hn : pc + 3 = n') (kk : G X mt d P V0 bc bs n' L (Rf c :: st) V κ) : G X mt d P V0 bc bs pc L (Rf t :: st) V κ := g_getf n' hd hf hk hn (fun h => by rw [vr_c hl]; exact kk)
theorem g_getD (n' : Nat) {t ci N idx k : Nat} (hd : decode mt.2.1 pc = .ok (.getfield idx, 3)) (hf : FLd mt.1.cls idx ci k N) (hk : kd X t = (ci, N)) (hl : X.2.2.2.2.2.2 t k = 1) (hn : pc + 3 = n') (kk : inR (κ t k) → G X mt d P V0 bc bs n' L (.inr (dr (κ t k)) :: st) V κ) : G X mt d P V0 bc bs pc L (Rf t :: st) V κ := g_getf n' hd hf hk hn (fun h => by rw [vr_1 hl]; exact kk h)
theorem hhS.wr {ρ0 ρ : Nat → Nat} {st' : List Av} {κ' : Ks} {s : State} {H H1 : Heap} {locs locs1 : List Loc} {cells slots : Nat} {ls : Array Slot} {mc ms : Nat} (h : hhS X mt V0 ρ0 bc bs L st V κ s H locs cells slots ls mc ms ρ) (k : okS V st') (hM : mm X ρ V κ' s H1) (hS : va_S (frA X) s.heap H1 locs1) : hhS X mt V0 ρ0 bc bs L st' V κ' s H1 locs1 cells slots ls mc ms ρ := ⟨h.1, h.2.1, k, hM, hS, h.2.2.2.2.2⟩
theorem g_putf (n' : Nat) {t ci N idx k : Nat} {ty : FieldType} {fin : Bool} {v : Av} {x : Int} (hd : decode mt.2.1 pc = .ok (.putfield idx, 3)) (hf : FPt mt.1.cls idx ci k N ty fin) (hfin : fin = true → mt.1.name = "<init>") (hk : kd X t = (ci, N)) (hx : inR x) (hv : vr X t (up1 (κ t) k x) k = v) (hty : ∀ ρ : Nat → Nat, narrow ty (cv ρ v) = cv ρ v ∧ fits ty (cv ρ v) = true) (hn : pc + 3 = n') (kk : G X mt d P V0 bc bs n' L st V (st2 κ t k x)) : G X mt d P V0 bc bs pc L (v :: Rf t :: st) V κ := fun p e R s m args below meth c mc ms ρ0 C H locs cells slots ls ρ hh => by
  obtain ⟨C', T, ref, ty0, hc, hin, hlt, hci, hw, hsm, hty0, hnm, hpt, hfn, hdecl⟩ := hf
  have hM := hh.2.2.2.1
  obtain ⟨N0, hN⟩ := hM.2.2.2.2
  have hV : V t = true := hh.2.2.1.2.1
  have hVv : okA V v := hh.2.2.1.1
  obtain ⟨q0, hq0⟩ := lvl_pos hN hV (kd_lt hk (by omega))
  have he : (wsO X ρ κ (lvl X V N0))[q0]? = some (ρ t, .inr (ci, (List.range N).map fun j => cv ρ (vr X t (κ t) j))) := by rw [wsO_pos hq0, ent_O hk hci]
  have hset : ((List.range N).map fun j => cv ρ (vr X t (κ t) j)).set k (cv ρ v) = (List.range N).map fun j => cv ρ (vr X t (up1 (κ t) k x) j) := map_set (fun j hj => by rw [vr_up hj]) (by rw [hv])
  have kk' : ∀ (H1 : Heap) (locs1 : List Loc), va_P X.2.1 vwCl ((wsO X ρ κ (lvl X V N0)).set q0 (ρ t, .inr (ci, ((List.range N).map fun j => cv ρ (vr X t (κ t) j)).set k (cv ρ v)))) H1 → va_D (frA X) ((wsO X ρ κ (lvl X V N0)).set q0 (ρ t, .inr (ci, ((List.range N).map fun j => cv ρ (vr X t (κ t) j)).set k (cv ρ v)))) → va_S (frA X) s.heap H1 locs1 → W p X.1 e R s m args below meth c H1 locs1 cells slots (MQ below (qcG X P V0 ρ0) args s mc ms (frA X)) (F0 m (pc + 3) ls (st.map (cv ρ))) := fun H1 locs1 hP1 _ hS1 => by
    rw [hset, ← ent_O hk hci] at hP1
    rw [hn]
    refine kk p e R s m args below meth c mc ms ρ0 C H1 locs1 cells slots ls ρ (hh.wr hh.2.2.1.2.2 (hM.write C.2.2.2.2.2.2.2.2.2.2 hN hq0 hh.2.2.2.2.1 hS1 hP1 (up1_R (hM.2.2.1 t) hx) (fun j q hq => ?_)) hS1)
    by_cases hj : j = k
    · subst hj
      rw [hv] at hq
      subst hq
      exact hVv
    · rw [vr_up hj] at hq
      exact hM.2.2.2.1 t j q hV hq
  cases fin with
  | false => exact va_put (D := X.2.1) (tys := tysG X) C.1 C.2.1 C.2.2.2.2.1 hin ty0 hty0 hnm C.2.2.2.1 C.2.2.2.2.2.2.2.2.1.1 (hM.P N0) (hM.D N0) hh.2.2.2.2.1 q0 he hc k hlt (C.2.2.2.2.1 _ hw) (sm_of C.2.2.2.2.1 hsm) hfn hpt (hty ρ).1 (hty ρ).2 (by simp [hlt]) hd kk'
  | true => exact va_putF (D := X.2.1) (tys := tysG X) C.1 C.2.1 C.2.2.2.2.1 hin ty0 hty0 hnm C.2.2.2.1 C.2.2.2.2.2.2.2.2.1.1 (hM.P N0) (hM.D N0) hh.2.2.2.2.1 q0 he hc k hlt (C.2.2.2.2.1 _ hw) (sm_of C.2.2.2.2.1 hsm) hfn (C.2.2.2.2.2.2.2.1.trans (hfin rfl)) (hdecl rfl) hpt (hty ρ).1 (hty ρ).2 (by simp [hlt]) hd kk'
theorem g_putI (n' : Nat) {t ci N idx k : Nat} {fin : Bool} {x : Int} (hd : decode mt.2.1 pc = .ok (.putfield idx, 3)) (hf : FPt mt.1.cls idx ci k N .int fin) (hfin : fin = true → mt.1.name = "<init>") (hk : kd X t = (ci, N)) (hl : X.2.2.2.2.2.2 t k = 0) (hx : inR x) (hn : pc + 3 = n') (kk : G X mt d P V0 bc bs n' L st V (st2 κ t k x)) : G X mt d P V0 bc bs pc L (Iv x :: Rf t :: st) V κ := g_putf n' hd hf hfin hk hx ((vr_0 hl).trans (by rw [up1_s])) (fun ρ => nar_int _) hn kk
theorem g_putZ (n' : Nat) {t ci N idx k : Nat} {fin : Bool} {x : Int} (hd : decode mt.2.1 pc = .ok (.putfield idx, 3)) (hf : FPt mt.1.cls idx ci k N .boolean fin) (hfin : fin = true → mt.1.name = "<init>") (hk : kd X t = (ci, N)) (hl : X.2.2.2.2.2.2 t k = 0) (hx : x = 0 ∨ x = 1) (hn : pc + 3 = n') (kk : G X mt d P V0 bc bs n' L st V (st2 κ t k x)) : G X mt d P V0 bc bs pc L (Iv x :: Rf t :: st) V κ := g_putf n' hd hf hfin hk (by unfold inR; omega) ((vr_0 hl).trans (by rw [up1_s])) (fun ρ => nar_z hx) hn kk
def cd (v : Option Nat) : Int := match v with
  | none => 0
  | some q => (q : Int)
theorem dr_cd {v : Option Nat} (h : v ≠ some 0) : dr (cd v) = v := by
  rcases v with _ | q
  · rfl
  · show dr (q : Int) = some q
    unfold dr
    rw [if_neg (fun e => h (by have : q = 0 := by omega
                               rw [this]))]
    rfl
theorem cd_R {v : Option Nat} (h : ∀ q, v = some q → q < 2147483648) : inR (cd v) := by
  rcases v with _ | q
  · exact inR_0
  · have := h q rfl
    show inR (q : Int)
    unfold inR
    omega
theorem g_putR (n' : Nat) {t ci N idx k : Nat} {fin : Bool} {ty : FieldType} {v : Option Nat} (hd : decode mt.2.1 pc = .ok (.putfield idx, 3)) (hf : FPt mt.1.cls idx ci k N ty fin) (hty : (∃ C, ty = .object C) ∨ ∃ e, ty = .array e) (hfin : fin = true → mt.1.name = "<init>") (hk : kd X t = (ci, N)) (hl : X.2.2.2.2.2.2 t k = 1) (hv : ∀ q, v = some q → 0 < q ∧ q < 2147483648) (hn : pc + 3 = n') (kk : G X mt d P V0 bc bs n' L st V (st2 κ t k (cd v))) : G X mt d P V0 bc bs pc L (.inr v :: Rf t :: st) V κ := g_putf n' hd hf hfin hk (cd_R (fun q hq => (hv q hq).2)) ((vr_1 hl).trans (by rw [up1_s, dr_cd (fun e => absurd (hv 0 e).1 (Nat.lt_irrefl 0))])) (fun ρ => by rcases hty with ⟨C, rfl⟩ | ⟨e, rfl⟩; exact nar_o C ρ v; exact nar_a e ρ v) hn kk
-- arrays
theorem g_iald (n' : Nat) {t N : Nat} {i : Int} (hd : decode mt.2.1 pc = .ok (.iaload, 1)) (hk : kd X t = (20, N)) (hN : N < 2147483648) (hi : 0 ≤ i ∧ i < N) (hn : pc + 1 = n') (kk : inR (κ t i.toNat) → G X mt d P V0 bc bs n' L (Iv (κ t i.toNat) :: st) V κ) : G X mt d P V0 bc bs pc L (Iv i :: Rf t :: st) V κ := fun p e R s m args below meth c mc ms ρ0 C H locs cells slots ls ρ hh => by
  have hM := hh.2.2.2.1
  obtain ⟨N0, hN0⟩ := hM.2.2.2.2
  have hV : V t = true := hh.2.2.1.2.1
  obtain ⟨q0, hq0⟩ := lvl_pos hN0 hV (kd_lt hk (by omega))
  have he := wsO_pos (X := X) (ρ := ρ) (κ := κ) hq0
  rw [ent_I hk] at he
  refine va_iald (D := X.2.1) (tys := tysG X) C.1 C.2.1 C.2.2.2.2.2.2.2.2.1.1 (hM.P N0) q0 0 he rfl (inI hi hN) hd ?_
  rw [hn, clampI hi hN]
  exact kk (hM.2.2.1 t _) p e R s m args below meth c mc ms ρ0 C H locs cells slots ls ρ (hh.stk ⟨trivial, hh.2.2.1.2.2⟩)
theorem g_zald (n' : Nat) {t N : Nat} {i : Int} (hd : decode mt.2.1 pc = .ok (.baload, 1)) (hk : kd X t = (21, N)) (hN : N < 2147483648) (hi : 0 ≤ i ∧ i < N) (hn : pc + 1 = n') (kk : inR (κ t i.toNat) → G X mt d P V0 bc bs n' L (Iv (κ t i.toNat) :: st) V κ) : G X mt d P V0 bc bs pc L (Iv i :: Rf t :: st) V κ := fun p e R s m args below meth c mc ms ρ0 C H locs cells slots ls ρ hh => by
  have hM := hh.2.2.2.1
  obtain ⟨N0, hN0⟩ := hM.2.2.2.2
  have hV : V t = true := hh.2.2.1.2.1
  obtain ⟨q0, hq0⟩ := lvl_pos hN0 hV (kd_lt hk (by omega))
  have he := wsO_pos (X := X) (ρ := ρ) (κ := κ) hq0
  rw [ent_Z hk] at he
  refine va_zald (D := X.2.1) (tys := tysG X) C.1 C.2.1 C.2.2.2.2.2.2.2.2.1.1 (hM.P N0) q0 1 he rfl (inI hi hN) hd ?_
  rw [hn, clampI hi hN]
  exact kk (hM.2.2.1 t _) p e R s m args below meth c mc ms ρ0 C H locs cells slots ls ρ (hh.stk ⟨trivial, hh.2.2.1.2.2⟩)
theorem wr_cl {ρ : Nat → Nat} {U : State} {H : Heap} (hM : mm X ρ V κ U H) {t k : Nat} {x : Int} (hV : V t = true) (hx : ∀ q, vr X t (up1 (κ t) k x) k = .inr (some q) → V q = true) : ∀ j q, vr X t (up1 (κ t) k x) j = .inr (some q) → V q = true := fun j q hq => by
  by_cases hj : j = k
  · subst hj
    exact hx q hq
  · rw [vr_up hj] at hq
    exact hM.2.2.2.1 t j q hV hq
theorem g_iast (n' : Nat) {t N : Nat} {i x : Int} (hd : decode mt.2.1 pc = .ok (.iastore, 1)) (hk : kd X t = (20, N)) (hN : N < 2147483648) (hl : ∀ j, X.2.2.2.2.2.2 t j = 0) (hi : 0 ≤ i ∧ i < N) (hx : inR x) (hn : pc + 1 = n') (kk : G X mt d P V0 bc bs n' L st V (st2 κ t i.toNat x)) : G X mt d P V0 bc bs pc L (Iv x :: Iv i :: Rf t :: st) V κ := fun p e R s m args below meth c mc ms ρ0 C H locs cells slots ls ρ hh => by
  have hM := hh.2.2.2.1
  obtain ⟨N0, hN0⟩ := hM.2.2.2.2
  have hV : V t = true := hh.2.2.1.2.2.1
  obtain ⟨q0, hq0⟩ := lvl_pos hN0 hV (kd_lt hk (by omega))
  have he := wsO_pos (X := X) (ρ := ρ) (κ := κ) hq0
  rw [ent_I hk] at he
  refine va_iast (D := X.2.1) (tys := tysG X) C.1 C.2.1 C.2.2.2.2.2.2.2.2.1.1 (hM.P N0) (hM.D N0) hh.2.2.2.2.1 q0 0 he rfl (inI hi hN) hd (fun H1 locs1 hP1 _ hS1 => ?_)
  rw [clampI hi hN, ofI_up, ← ent_I hk] at hP1
  rw [hn]
  exact kk p e R s m args below meth c mc ms ρ0 C H1 locs1 cells slots ls ρ (hh.wr hh.2.2.1.2.2.2 (hM.write C.2.2.2.2.2.2.2.2.2.2 hN0 hq0 hh.2.2.2.2.1 hS1 hP1 (up1_R (hM.2.2.1 t) hx) (wr_cl hM hV (fun q hq => by rw [vr_0 (hl _)] at hq; cases hq))) hS1)
theorem nar_zI {x : Int} (hx : x = 0 ∨ x = 1) : vp_nar .boolean (Int32.ofInt x) = Int32.ofInt x := by rcases hx with rfl | rfl <;> decide
theorem g_zast (n' : Nat) {t N : Nat} {i x : Int} (hd : decode mt.2.1 pc = .ok (.bastore, 1)) (hk : kd X t = (21, N)) (hN : N < 2147483648) (hl : ∀ j, X.2.2.2.2.2.2 t j = 0) (hi : 0 ≤ i ∧ i < N) (hx : x = 0 ∨ x = 1) (hn : pc + 1 = n') (kk : G X mt d P V0 bc bs n' L st V (st2 κ t i.toNat x)) : G X mt d P V0 bc bs pc L (Iv x :: Iv i :: Rf t :: st) V κ := fun p e R s m args below meth c mc ms ρ0 C H locs cells slots ls ρ hh => by
  have hM := hh.2.2.2.1
  obtain ⟨N0, hN0⟩ := hM.2.2.2.2
  have hV : V t = true := hh.2.2.1.2.2.1
  obtain ⟨q0, hq0⟩ := lvl_pos hN0 hV (kd_lt hk (by omega))
  have he := wsO_pos (X := X) (ρ := ρ) (κ := κ) hq0
  rw [ent_Z hk] at he
  refine va_zast (D := X.2.1) (tys := tysG X) C.1 C.2.1 C.2.2.2.2.2.2.2.2.1.1 (hM.P N0) (hM.D N0) hh.2.2.2.2.1 q0 1 he rfl (inI hi hN) hd (fun H1 locs1 hP1 _ hS1 => ?_)
  rw [clampI hi hN, nar_zI hx, ofI_up, ← ent_Z hk] at hP1
  rw [hn]
  exact kk p e R s m args below meth c mc ms ρ0 C H1 locs1 cells slots ls ρ (hh.wr hh.2.2.1.2.2.2 (hM.write C.2.2.2.2.2.2.2.2.2.2 hN0 hq0 hh.2.2.2.2.1 hS1 hP1 (up1_R (hM.2.2.1 t) (by unfold inR; omega)) (wr_cl hM hV (fun q hq => by rw [vr_0 (hl _)] at hq; cases hq))) hS1)
theorem g_alen (n' : Nat) {t k N : Nat} (hd : decode mt.2.1 pc = .ok (.arraylength, 1)) (hk : kd X t = (k, N)) (hk2 : k = 20 ∨ k = 22) (hn : pc + 1 = n') (kk : G X mt d P V0 bc bs n' L (Iv (N : Int) :: st) V κ) : G X mt d P V0 bc bs pc L (Rf t :: st) V κ := fun p e R s m args below meth c mc ms ρ0 C H locs cells slots ls ρ hh => by
  have hM := hh.2.2.2.1
  obtain ⟨N0, hN0⟩ := hM.2.2.2.2
  have hV : V t = true := hh.2.2.1.1
  obtain ⟨q0, hq0⟩ := lvl_pos hN0 hV (kd_lt hk (by omega))
  have he := wsO_pos (X := X) (ρ := ρ) (κ := κ) hq0
  have h3 := kk p e R s m args below meth c mc ms ρ0 C H locs cells slots ls ρ (hh.stk ⟨trivial, hh.2.2.1.2⟩)
  rw [← hn] at h3
  rcases hk2 with rfl | rfl
  · rw [ent_I hk] at he
    exact va_alen (D := X.2.1) (tys := tysG X) C.1 C.2.1 C.2.2.2.2.2.2.2.2.1.1 (hM.P N0) q0 0 he (ty := .int) rfl (Int32.ofInt_eq_ofNat).symm hd h3
  · rw [ent_A hk] at he
    exact va_alen (D := X.2.1) (tys := tysG X) C.1 C.2.1 C.2.2.2.2.2.2.2.2.1.1 (hM.P N0) q0 2 he (ty := .object "java/lang/Object") rfl (Int32.ofInt_eq_ofNat).symm hd h3
theorem cv_rfo (ρ : Nat → Nat) (v : Av) (h : ∀ x, v ≠ .inl x) : va_rf (rfo ρ v) = cv ρ v := by
  rcases v with x | (_ | t)
  · exact absurd rfl (h x)
  · rfl
  · rfl
theorem g_aald (n' : Nat) {t k N : Nat} {i : Int} (hd : decode mt.2.1 pc = .ok (.aaload, 1)) (hk : kd X t = (k, N)) (hk2 : k = 22 ∨ k = 23) (hN : N < 2147483648) (hi : 0 ≤ i ∧ i < N) (hl : X.2.2.2.2.2.2 t i.toNat ≠ 0) (hn : pc + 1 = n') (kk : inR (κ t i.toNat) → G X mt d P V0 bc bs n' L (vr X t (κ t) i.toNat :: st) V κ) : G X mt d P V0 bc bs pc L (Iv i :: Rf t :: st) V κ := fun p e R s m args below meth c mc ms ρ0 C H locs cells slots ls ρ hh => by
  have hM := hh.2.2.2.1
  obtain ⟨N0, hN0⟩ := hM.2.2.2.2
  have hV : V t = true := hh.2.2.1.2.1
  obtain ⟨q0, hq0⟩ := lvl_pos hN0 hV (kd_lt hk (by omega))
  have he := wsO_pos (X := X) (ρ := ρ) (κ := κ) hq0
  have h3 := kk (hM.2.2.1 t _) p e R s m args below meth c mc ms ρ0 C H locs cells slots ls ρ (hh.stk ⟨okA_vr hM hV, hh.2.2.1.2.2⟩)
  rw [← hn] at h3
  have e1 : va_rf (rfo ρ (vr X t (κ t) i.toNat)) = cv ρ (vr X t (κ t) i.toNat) := cv_rfo ρ _ (fun x hx => by
    unfold vr at hx
    split at hx
    · rename_i h0
      exact hl h0
    · cases hx
    · cases hx)
  rcases hk2 with rfl | rfl
  · rw [ent_A hk] at he
    refine va_aldq (D := X.2.1) (tys := tysG X) C.1 C.2.1 C.2.2.2.2.2.2.2.2.1.1 (hM.P N0) q0 2 he (C := "java/lang/Object") rfl (inI hi hN) hd ?_
    rw [clampI hi hN, e1]
    exact h3
  · rw [ent_W hk] at he
    refine va_aldq (D := X.2.1) (tys := tysG X) C.1 C.2.1 C.2.2.2.2.2.2.2.2.1.1 (hM.P N0) q0 3 he (C := "WoodenMains$Row") rfl (inI hi hN) hd ?_
    rw [clampI hi hN, e1]
    exact h3
-- old arrays of ints
theorem oldI {ρ : Nat → Nat} {U : State} {H : Heap} (hM : mm X ρ V κ U H) {t N : Nat} (hV : V t = true) (hk : kd X t = (30, N)) : wkI U H (ρ t) N (fun j => Int32.ofInt (κ t j)) := by
  have h := (hM.old hV (by rw [hk]; exact Nat.le_refl 30)).2.2.2
  unfold oldOk at h
  rw [hk] at h
  exact h
theorem g_iald30 (n' : Nat) {t N : Nat} {i : Int} (hd : decode mt.2.1 pc = .ok (.iaload, 1)) (hk : kd X t = (30, N)) (hN : N < 2147483648) (hi : 0 ≤ i ∧ i < N) (hn : pc + 1 = n') (kk : inR (κ t i.toNat) → G X mt d P V0 bc bs n' L (Iv (κ t i.toNat) :: st) V κ) : G X mt d P V0 bc bs pc L (Iv i :: Rf t :: st) V κ := fun p e R s m args below meth c mc ms ρ0 C H locs cells slots ls ρ hh => by
  have hM := hh.2.2.2.1
  have hV : V t = true := hh.2.2.1.2.1
  obtain ⟨cell, h1, h2, h3, h4, h5⟩ := oldI hM hV hk
  refine W.iald C.1 C.2.1 h1 h2 h3 (by rw [h4]; exact inI hi hN) (by rw [clampI hi hN]; exact h5 i.toNat (by omega)) rfl rfl hd ?_
  show W p X.1 e R s m args below meth c H locs cells slots _ (F0 m (pc + 1) ls _)
  rw [hn]
  exact kk (hM.2.2.1 t _) p e R s m args below meth c mc ms ρ0 C H locs cells slots ls ρ (hh.stk ⟨trivial, hh.2.2.1.2.2⟩)
theorem g_alen30 (n' : Nat) {t N : Nat} (hd : decode mt.2.1 pc = .ok (.arraylength, 1)) (hk : kd X t = (30, N)) (hn : pc + 1 = n') (kk : G X mt d P V0 bc bs n' L (Iv (N : Int) :: st) V κ) : G X mt d P V0 bc bs pc L (Rf t :: st) V κ := fun p e R s m args below meth c mc ms ρ0 C H locs cells slots ls ρ hh => by
  have hM := hh.2.2.2.1
  have hV : V t = true := hh.2.2.1.1
  obtain ⟨cell, h1, h2, h3, h4, h5⟩ := oldI hM hV hk
  refine W.alen (n := Int32.ofInt (N : Int)) C.1 C.2.1 h1 h2 (by rw [h4]; exact Int32.ofInt_eq_ofNat.symm) rfl rfl hd ?_
  show W p X.1 e R s m args below meth c H locs cells slots _ (F0 m (pc + 1) ls _)
  rw [hn]
  exact kk p e R s m args below meth c mc ms ρ0 C H locs cells slots ls ρ (hh.stk ⟨trivial, hh.2.2.1.2⟩)
theorem g_alen31 (n' : Nat) {t N : Nat} (hd : decode mt.2.1 pc = .ok (.arraylength, 1)) (hk : kd X t = (31, N)) (hn : pc + 1 = n') (kk : G X mt d P V0 bc bs n' L (Iv 0 :: st) V κ) : G X mt d P V0 bc bs pc L (Rf t :: st) V κ := fun p e R s m args below meth c mc ms ρ0 C H locs cells slots ls ρ hh => by
  have hM := hh.2.2.2.1
  have hV : V t = true := hh.2.2.1.1
  have h := (hM.old hV (by rw [hk]; exact Nat.le_succ 30)).2.2.2
  unfold oldOk at h
  rw [hk] at h
  obtain ⟨cell, h1, h2, h3, h4⟩ := (show wkO s H (ρ t) from h)
  refine W.alen (n := Int32.ofInt 0) C.1 C.2.1 h1 h2 (by rw [h4]; rfl) rfl rfl hd ?_
  show W p X.1 e R s m args below meth c H locs cells slots _ (F0 m (pc + 1) ls _)
  rw [hn]
  exact kk p e R s m args below meth c mc ms ρ0 C H locs cells slots ls ρ (hh.stk ⟨trivial, hh.2.2.1.2⟩)
-- statics
theorem g_gets (n' : Nat) {t idx : Nat} {C0 n0 d0 ref : String} (hd : decode mt.2.1 pc = .ok (.getstatic idx, 3)) (hz : ∀ (s : State), am X s s.heap → va_Z C0 n0 d0 (.ref (X.2.2.2.2.1 t)) (frA X) s s.heap) (hr : ref = C0) (hw : Cond.fieldLink mt.1.cls idx ref n0 d0 ∈ tbG) (hV : V t = true) (hk : 30 ≤ (kd X t).1) (hn : pc + 3 = n') (kk : G X mt d P V0 bc bs n' L (Rf t :: st) V κ) : G X mt d P V0 bc bs pc L st V κ := fun p e R s m args below meth c mc ms ρ0 C H locs cells slots ls ρ hh => by
  subst hr
  have hM := hh.2.2.2.1
  refine va_gets C.1 C.2.1 (hz s C.2.2.2.2.2.2.2.2.1) hh.2.2.2.2.1 C.2.2.2.1 (C.2.2.2.2.1 _ hw) (fun _ h => h) hd ?_
  rw [hn, ← (hM.old hV hk).1]
  exact kk p e R s m args below meth c mc ms ρ0 C H locs cells slots ls ρ (hh.stk ⟨hV, hh.2.2.1⟩)
end G6
end
section
/-! ROWS of G: calls, new cells, natives, casts -/
theorem am.same {X : Cx} {U : State} {g : JFrame} {mk : MethodId} {a : Array Value} (h : am X U U.heap) : am X (U.calling g mk a) (U.calling g mk a).heap := am.moved (u := U) (U := U.calling g mk a) (State.WarmedH.refl U) h
theorem am.kept {X : Cx} {U : State} {H H1 : Heap} {locs : List Loc} (h : am X U H) (hS : va_S (frA X) H H1 locs) : am X U H1 := ⟨h.1, h.2.1, h.2.2.1, h.2.2.2.1.kept hS.2.1, h.2.2.2.2.1.kept hS.2.1, h.2.2.2.2.2.kept hS.2.1⟩
theorem blindG {X : Cx} {ρ : Nat → Nat} {V : Vs} {κ : Ks} {as : List Av} : FrameBlind (va_Pc (as.map (cv ρ)) (fun U => okS V as ∧ mm X ρ V κ U U.heap ∧ am X U U.heap ∧ X.2.2.2.1 ≤ U.heap.size)) := fun a U g mk h => ⟨h.1, h.2.1, mm.moved (u := U) (U := U.calling g mk a) (Vm.Alike.refl U.vm) h.2.2.1, am.same h.2.2.2.1, h.2.2.2.2⟩
def MWd (n : Nat) (mt' : Mt) : Prop := Cond.code mt'.1 mt'.2.1 mt'.2.2.1 mt'.2.2.2 ∈ tbG ∧ Cond.initialized mt'.1.cls ∈ tbG ∧ (mt'.1.cls ≠ "java/lang/invoke/MethodHandle" ∧ mt'.1.cls ≠ "java/lang/invoke/VarHandle" ∧ (parseMethodDescriptor mt'.1.desc).map (fun d => d.parameters.length) = some n) ∧ mt'.2.2.1 ≤ 40
theorem goodG {mt' : Mt} (h : Cond.code mt'.1 mt'.2.1 mt'.2.2.1 mt'.2.2.2 ∈ tbG) : GoodIn tbG (.code mt'.1 mt'.2.1 mt'.2.2.1 mt'.2.2.2 :: tbG) := fun w hw => by
  rcases List.mem_cons.mp hw with rfl | hw
  · exact ⟨h, good_of_word (tbG_good h)⟩
  · exact ⟨hw, good_of_word (tbG_good hw)⟩
theorem cat_sum (ρ : Nat → Nat) : ∀ (st : List Av), ((st.map (cv ρ)).map fun v => v.category).sum = st.length
  | [] => rfl
  | v :: st => by
    rw [List.map_cons, List.map_cons, List.sum_cons, cat_sum ρ st, cv_cat, List.length_cons]
    omega
section G7
variable {X : Cx} {mt : Mt} {d : Nat} {P : Po} {V0 : Vs} {bc bs pc : Nat} {L : Lc} {st : List Av} {V : Vs} {κ : Ks}
theorem after {n' bc' bs' bc2 bs2 : Nat} {rest : List Av} {P' : Po} {p : Program} {e : Env} {R : Room} {s : State} {m : MethodId} {args : Array Value} {below : List Frame} {meth : Method} {c : Code} {mc ms : Nat} {ρ0 : Nat → Nat} {H : Heap} {locs : List Loc} {cells slots : Nat} {ls : Array Slot} {ρ : Nat → Nat} {st0 : List Value} {a : Array Value} (C : cxC X mt d p R s m args meth c mc ms) (hh : hhS X mt V0 ρ0 (bc' + bc2) (bs' + bs2) L st V κ s H locs cells slots ls mc ms ρ) (hok : okS V rest)
    (hr : va_Run p X.1 e R s m args below meth c H locs cells slots bc' bs' (F0 m pc ls st0) (rest.map (cv ρ)) (qcG X P' V ρ a) (frA X)) (hn : pc + 3 = n') (kk : ∀ r V' κ', P' r V' κ' → G X mt d P V0 bc2 bs2 n' L (r.toList ++ rest) V' κ') : W p X.1 e R s m args below meth c H locs cells slots (MQ below (qcG X P V0 ρ0) args s mc ms (frA X)) (F0 m pc ls st0) := by
  intro T hT S
  obtain ⟨v, st₀, t, T', L', h0, S', hL, e1, e2, ⟨⟨r, V', κ', ρ', hv, hm, hp, hrok, hext⟩, hz, hk⟩, stp⟩ := hr T hT S
  have hv' : v = r.map (cv ρ') := by
    injection hv
  subst hv'
  rw [h0] at hz hk
  have hS := hh.2.2.2.2.1
  have hVV : ∀ t, V t = true → V' t = true := fun t ht => (hext t ht).1
  have hρρ : ∀ t, V t = true → ρ' t = ρ t := fun t ht => (hext t ht).2
  have hM' : mm X ρ' V' κ' s T'.heap := by
    rw [e1]
    exact hm.moved (by rw [← e2]; exact S'.warmed.alike.symm)
  have hS' : va_S (frA X) s.heap T'.heap (locs ++ L') := ⟨Nat.le_trans hS.1 (by rw [e1]; exact hz), fun q h1 h2 => by rw [e1, hk q (Nat.lt_of_lt_of_le h1 hS.1) h2]; exact hS.2.1 q h1 h2, fun q hq => by
    rcases List.mem_append.mp hq with h | h
    · exact hS.2.2 q h
    · exact hL q h⟩
  have hst : okS V' (r.toList ++ rest) := by
    cases r with
    | none => exact hok.mono hVV
    | some w => exact ⟨hrok w rfl, hok.mono hVV⟩
  have hfin := kk r V' κ' hp p e R s m args below meth c mc ms ρ0 C T'.heap (locs ++ L') (cells + bc') (slots + bs') ls ρ' ⟨lvL.ext hρρ hh.2.1 hh.1, hh.2.1.mono hVV, hst, hM', hS', ⟨by have := hh.2.2.2.2.2.1.1; omega, by have := hh.2.2.2.2.2.1.2; omega⟩, fun t ht => ⟨hVV t (hh.2.2.2.2.2.2 t ht).1, (hρρ t (hh.2.2.2.2.2.2 t ht).1).trans (hh.2.2.2.2.2.2 t ht).2⟩⟩ T' rfl S'
  obtain ⟨t2, a1, b1⟩ := hfin
  refine ⟨t2, stp t2 ?_, b1⟩
  have es : (r.toList ++ rest).map (cv ρ') = (r.map (cv ρ')).toList ++ rest.map (cv ρ) := by
    rw [List.map_append, cvS_ext hρρ hok]
    cases r <;> rfl
  rw [es, ← hn] at a1
  exact a1
theorem okS_app {V : Vs} : ∀ {a b : List Av}, okS V (a ++ b) → okS V a ∧ okS V b
  | [], _, h => ⟨trivial, h⟩
  | _ :: _, _, h => ⟨⟨h.1, (okS_app h.2).1⟩, (okS_app h.2).2⟩
theorem okS_mk {V : Vs} : ∀ {a b : List Av}, okS V a → okS V b → okS V (a ++ b)
  | [], _, _, h => h
  | _ :: _, _, h, h2 => ⟨h.1, okS_mk h.2 h2⟩
theorem okS_rev {V : Vs} : ∀ {a : List Av}, okS V a.reverse → okS V a
  | [], _ => trivial
  | v :: a, h => by
    rw [List.reverse_cons] at h
    exact ⟨(okS_app h).2.1, okS_rev (okS_app h).1⟩
def CVd (own : String) (idx ci : Nat) (mt' : Mt) : Prop := Cond.methodLink own idx mt'.1 ∈ tbG ∧ Cond.instanceMethod mt'.1 ∈ tbG ∧ Cond.selects mt'.1.cls mt'.1 mt'.1 ∈ tbG ∧ ci < 20 ∧ ∃ (T : u_T) (N : Nat), vwCl[ci]? = some (mt'.1.cls, T, N)
theorem room_ok {d' : Nat} {mt' : Mt} {n : Nat} {p : Program} {R : Room} {s : State} {m : MethodId} {args : Array Value} {meth : Method} {c : Code} {mc ms : Nat} (C : cxC X mt d p R s m args meth c mc ms) (hm : MWd n mt') (hdd : d' + 1 ≤ d) : d' + 1 ≤ R.frames ∧ 8 + (mt'.2.2.1 + 11) + 64 * d' ≤ R.locals := by
  have h1 := C.2.2.2.2.2.2.2.2.2.1.1
  have h2 := C.2.2.2.2.2.2.2.2.2.1.2.1
  have h3 := hm.2.2.2
  exact ⟨by omega, by omega⟩
theorem fits_ok {bc' bc2 bs' bs2 : Nat} {p : Program} {R : Room} {s : State} {m : MethodId} {args : Array Value} {meth : Method} {c : Code} {mc ms : Nat} {ρ0 ρ : Nat → Nat} {H : Heap} {locs : List Loc} {cells slots : Nat} {ls : Array Slot} (C : cxC X mt d p R s m args meth c mc ms) (hh : hhS X mt V0 ρ0 (bc' + bc2) (bs' + bs2) L st V κ s H locs cells slots ls mc ms ρ) : cells + bc' ≤ R.cells ∧ slots + bs' ≤ R.slots := by
  have h1 := C.2.2.2.2.2.2.2.2.2.1.2.2
  have h2 := hh.2.2.2.2.2.1
  exact ⟨by omega, by omega⟩
theorem g_callV (n' : Nat) (bc2 bs2 : Nat) {mt' : Mt} {d' bc' bs' idx ci N b : Nat} (as rest : List Av) {P' : Po} (hd : decode mt.2.1 pc = .ok (.invokevirtual idx, 3)) (hw : CVd mt.1.cls idx ci mt') (hm : MWd as.length mt') (hk : kd X b = (ci, N)) (hdd : d' + 1 ≤ d) (hst : st = as.reverse ++ Rf b :: rest) (hrl : rest.length ≤ 8) (hbc : bc = bc' + bc2) (hbs : bs = bs' + bs2) (hn : pc + 3 = n') (hC : Ct X mt' d' bc' bs' (Rf b :: as) V κ P') (kk : ∀ r V' κ', P' r V' κ' → G X mt d P V0 bc2 bs2 n' L (r.toList ++ rest) V' κ') : G X mt d P V0 bc bs pc L st V κ := fun p e R s m args below meth c mc ms ρ0 C H locs cells slots ls ρ hh => by
  subst hst hbc hbs
  have hM := hh.2.2.2.1
  have hok := okS_app hh.2.2.1
  obtain ⟨w1, w2, w3, hci, T, N1, hc⟩ := hw
  obtain ⟨N0, hN0⟩ := hM.2.2.2.2
  obtain ⟨q0, hq0⟩ := lvl_pos hN0 (show V b = true from hok.2.1) (kd_lt hk (by omega))
  have he : (wsO X ρ κ (lvl X V N0))[q0]? = some (ρ b, .inr (ci, (List.range N).map fun j => cv ρ (vr X b (κ b) j))) := by rw [wsO_pos hq0, ent_O hk hci]
  have hx := C.2.2.2.2.1
  have hrun := va_runV (e := e) (below := below) (meth := meth) (locs := locs) (g := F0 m pc ls ((as.reverse ++ Rf b :: rest).map (cv ρ))) (As := as.map (cv ρ)) (rest := rest.map (cv ρ)) (b := ρ b) ⟨C.1, C.2.1, C.2.2.1, C.2.2.2.1, hx⟩ (hC ρ) (own := mt.1.cls) (C := mt'.1.cls) (index := idx) (bytes := mt'.2.1) (maxL := mt'.2.2.1) (ret := mt'.2.2.2) (n := as.length) (R := R) (mc := bc') (ms := bs')
    ⟨callB_of as.length hx (goodG hm.1) rfl rfl rfl (hx _ hm.2.1) (hx _ w1) hm.2.2.1 (room_ok C hm hdd), hx _ w2, hx _ w3⟩
    ⟨blindG, va_recv C.2.2.2.2.2.2.2.2.1.1 (hM.P N0) hc he, fun U hU hW => ⟨rfl, ⟨hok.2.1, okS_rev hok.1⟩, by rw [hU]; exact hM.moved hW.alike, by rw [hU]; exact am.moved hW (am.kept C.2.2.2.2.2.2.2.2.1 hh.2.2.2.2.1), by rw [hU]; exact Nat.le_trans C.2.2.2.2.2.2.2.2.2.2 hh.2.2.2.2.1.1⟩⟩
    rfl (by rw [List.length_map]) hh.1.1 (by rw [List.map_append, List.map_reverse] <;> rfl) (by show 2 * 0 + _ ≤ 8; rw [cat_sum]; omega) hd (fits_ok C hh)
  exact after C hh hok.2.2 hrun hn kk
def CSd (own : String) (idx : Nat) (mt' : Mt) : Prop := Cond.methodLink own idx mt'.1 ∈ tbG ∧ Cond.static mt'.1 ∈ tbG
def CId (own : String) (idx : Nat) (mt' : Mt) : Prop := Cond.methodLink own idx mt'.1 ∈ tbG ∧ Cond.instanceMethod mt'.1 ∈ tbG ∧ mt'.1.name = "<init>" ∧ mt'.2.2.2 = none
def CSdN (own : String) (idx : Nat) (mt' : Mt) : Prop := ∃ host, Cond.methodLinkNest own idx mt'.1 host ∈ nwL ∧ Cond.static mt'.1 ∈ tbG
def CIdN (own : String) (idx : Nat) (mt' : Mt) : Prop := ∃ host, Cond.methodLinkNest own idx mt'.1 host ∈ nwL ∧ Cond.instanceMethod mt'.1 ∈ tbG ∧ mt'.1.name = "<init>" ∧ mt'.2.2.2 = none
theorem g_callS (n' : Nat) (bc2 bs2 : Nat) {mt' : Mt} {d' bc' bs' idx : Nat} (as rest : List Av) {P' : Po} (hd : decode mt.2.1 pc = .ok (.invokestatic idx, 3)) (hw : CSd mt.1.cls idx mt') (hm : MWd as.length mt') (hdd : d' + 1 ≤ d) (hst : st = as.reverse ++ rest) (hrl : rest.length ≤ 8) (hbc : bc = bc' + bc2) (hbs : bs = bs' + bs2) (hn : pc + 3 = n') (hC : Ct X mt' d' bc' bs' as V κ P') (kk : ∀ r V' κ', P' r V' κ' → G X mt d P V0 bc2 bs2 n' L (r.toList ++ rest) V' κ') : G X mt d P V0 bc bs pc L st V κ := fun p e R s m args below meth c mc ms ρ0 C H locs cells slots ls ρ hh => by
  subst hst hbc hbs
  have hM := hh.2.2.2.1
  have hok := okS_app hh.2.2.1
  obtain ⟨w1, w2⟩ := hw
  have hx := C.2.2.2.2.1
  have hrun := va_runS (e := e) (below := below) (meth := meth) (locs := locs) (g := F0 m pc ls ((as.reverse ++ rest).map (cv ρ))) (As := as.map (cv ρ)) (rest := rest.map (cv ρ)) ⟨C.1, C.2.1, C.2.2.1, C.2.2.2.1, hx⟩ (hC ρ) (own := mt.1.cls) (index := idx) (bytes := mt'.2.1) (maxL := mt'.2.2.1) (ret := mt'.2.2.2) (n := as.length) (R := R) (mc := bc') (ms := bs')
    ⟨callB_of as.length hx (goodG hm.1) rfl rfl rfl (hx _ hm.2.1) (hx _ w1) hm.2.2.1 (room_ok C hm hdd), hx _ w2⟩
    ⟨blindG, fun U hU hW => ⟨rfl, okS_rev hok.1, by rw [hU]; exact hM.moved hW.alike, by rw [hU]; exact am.moved hW (am.kept C.2.2.2.2.2.2.2.2.1 hh.2.2.2.2.1), by rw [hU]; exact Nat.le_trans C.2.2.2.2.2.2.2.2.2.2 hh.2.2.2.2.1.1⟩⟩
    rfl (by rw [List.length_map]) hh.1.1 (by rw [List.map_append, List.map_reverse] <;> rfl) (by show 2 * 0 + _ ≤ 8; rw [cat_sum]; omega) hd (fits_ok C hh)
  exact after C hh hok.2 hrun hn kk
theorem g_callI (n' : Nat) (bc2 bs2 : Nat) {mt' : Mt} {d' bc' bs' idx b : Nat} (as rest : List Av) {P' : Po} (hd : decode mt.2.1 pc = .ok (.invokespecial idx, 3)) (hw : CId mt.1.cls idx mt') (hm : MWd as.length mt') (hdd : d' + 1 ≤ d) (hst : st = as.reverse ++ Rf b :: rest) (hrl : rest.length ≤ 8) (hbc : bc = bc' + bc2) (hbs : bs = bs' + bs2) (hn : pc + 3 = n') (hC : Ct X mt' d' bc' bs' (Rf b :: as) V κ P') (kk : ∀ r V' κ', P' r V' κ' → G X mt d P V0 bc2 bs2 n' L (r.toList ++ rest) V' κ') : G X mt d P V0 bc bs pc L st V κ := fun p e R s m args below meth c mc ms ρ0 C H locs cells slots ls ρ hh => by
  subst hst hbc hbs
  have hM := hh.2.2.2.1
  have hok := okS_app hh.2.2.1
  obtain ⟨w1, w2, w3, w4⟩ := hw
  have hx := C.2.2.2.2.1
  have hrun := va_runI (e := e) (below := below) (meth := meth) (locs := locs) (g := F0 m pc ls ((as.reverse ++ Rf b :: rest).map (cv ρ))) (As := as.map (cv ρ)) (rest := rest.map (cv ρ)) (b := ρ b) ⟨C.1, C.2.1, C.2.2.1, C.2.2.2.1, hx⟩ (hC ρ) (own := mt.1.cls) (index := idx) (bytes := mt'.2.1) (maxL := mt'.2.2.1) (n := as.length) (R := R) (mc := bc') (ms := bs')
    ⟨callB_of as.length hx (goodG hm.1) (by rw [w4]) rfl rfl (hx _ hm.2.1) (hx _ w1) hm.2.2.1 (room_ok C hm hdd), w3, hx _ w2⟩
    ⟨blindG, fun U hU hW => ⟨rfl, ⟨hok.2.1, okS_rev hok.1⟩, by rw [hU]; exact hM.moved hW.alike, by rw [hU]; exact am.moved hW (am.kept C.2.2.2.2.2.2.2.2.1 hh.2.2.2.2.1), by rw [hU]; exact Nat.le_trans C.2.2.2.2.2.2.2.2.2.2 hh.2.2.2.2.1.1⟩⟩
    rfl (by rw [List.length_map]) hh.1.1 (by rw [List.map_append, List.map_reverse] <;> rfl) (by show 2 * 0 + _ ≤ 8; rw [cat_sum]; omega) hd (fits_ok C hh)
  exact after C hh hok.2.2 hrun hn kk
theorem g_callSN (n' : Nat) (bc2 bs2 : Nat) {mt' : Mt} {d' bc' bs' idx : Nat} (as rest : List Av) {P' : Po} (hd : decode mt.2.1 pc = .ok (.invokestatic idx, 3)) (hw : CSdN mt.1.cls idx mt') (hm : MWd as.length mt') (hdd : d' + 1 ≤ d) (hst : st = as.reverse ++ rest) (hrl : rest.length ≤ 8) (hbc : bc = bc' + bc2) (hbs : bs = bs' + bs2) (hn : pc + 3 = n') (hC : Ct X mt' d' bc' bs' as V κ P') (kk : ∀ r V' κ', P' r V' κ' → G X mt d P V0 bc2 bs2 n' L (r.toList ++ rest) V' κ') : G X mt d P V0 bc bs pc L st V κ := fun p e R s m args below meth c mc ms ρ0 C H locs cells slots ls ρ hh => by
  subst hst hbc hbs
  have hM := hh.2.2.2.1
  have hok := okS_app hh.2.2.1
  obtain ⟨host, w1, w2⟩ := hw
  have hx := C.2.2.2.2.1
  have hrun := va_runSN (e := e) (below := below) (meth := meth) (locs := locs) (g := F0 m pc ls ((as.reverse ++ rest).map (cv ρ))) (As := as.map (cv ρ)) (rest := rest.map (cv ρ)) ⟨C.1, C.2.1, C.2.2.1, C.2.2.2.1, hx⟩ (hC ρ) (own := mt.1.cls) (index := idx) (bytes := mt'.2.1) (maxL := mt'.2.2.1) (ret := mt'.2.2.2) (n := as.length) (R := R) (mc := bc') (ms := bs')
    ⟨va_cnB as.length hx (goodG hm.1) rfl rfl rfl (C.2.2.2.2.2.2.2.2.1.2.1 _ w1) (hx _ hm.2.1) hm.2.2.1 (room_ok C hm hdd), hx _ w2, trivial⟩
    ⟨blindG, fun U hU hW => ⟨rfl, okS_rev hok.1, by rw [hU]; exact hM.moved hW.alike, by rw [hU]; exact am.moved hW (am.kept C.2.2.2.2.2.2.2.2.1 hh.2.2.2.2.1), by rw [hU]; exact Nat.le_trans C.2.2.2.2.2.2.2.2.2.2 hh.2.2.2.2.1.1⟩⟩
    rfl (by rw [List.length_map]) hh.1.1 (by rw [List.map_append, List.map_reverse] <;> rfl) (by show 2 * 0 + _ ≤ 8; rw [cat_sum]; omega) hd (fits_ok C hh)
  exact after C hh hok.2 hrun hn kk
theorem g_callIN (n' : Nat) (bc2 bs2 : Nat) {mt' : Mt} {d' bc' bs' idx b : Nat} (as rest : List Av) {P' : Po} (hd : decode mt.2.1 pc = .ok (.invokespecial idx, 3)) (hw : CIdN mt.1.cls idx mt') (hm : MWd as.length mt') (hdd : d' + 1 ≤ d) (hst : st = as.reverse ++ Rf b :: rest) (hrl : rest.length ≤ 8) (hbc : bc = bc' + bc2) (hbs : bs = bs' + bs2) (hn : pc + 3 = n') (hC : Ct X mt' d' bc' bs' (Rf b :: as) V κ P') (kk : ∀ r V' κ', P' r V' κ' → G X mt d P V0 bc2 bs2 n' L (r.toList ++ rest) V' κ') : G X mt d P V0 bc bs pc L st V κ := fun p e R s m args below meth c mc ms ρ0 C H locs cells slots ls ρ hh => by
  subst hst hbc hbs
  have hM := hh.2.2.2.1
  have hok := okS_app hh.2.2.1
  obtain ⟨host, w1, w2, w3, w4⟩ := hw
  have hx := C.2.2.2.2.1
  have hrun := va_runIN (e := e) (below := below) (meth := meth) (locs := locs) (g := F0 m pc ls ((as.reverse ++ Rf b :: rest).map (cv ρ))) (As := as.map (cv ρ)) (rest := rest.map (cv ρ)) (b := ρ b) ⟨C.1, C.2.1, C.2.2.1, C.2.2.2.1, hx⟩ (hC ρ) (own := mt.1.cls) (index := idx) (bytes := mt'.2.1) (maxL := mt'.2.2.1) (n := as.length) (R := R) (mc := bc') (ms := bs')
    ⟨va_cnB as.length hx (goodG hm.1) (by rw [w4]) rfl rfl (C.2.2.2.2.2.2.2.2.1.2.1 _ w1) (hx _ hm.2.1) hm.2.2.1 (room_ok C hm hdd), w3, hx _ w2⟩
    ⟨blindG, fun U hU hW => ⟨rfl, ⟨hok.2.1, okS_rev hok.1⟩, by rw [hU]; exact hM.moved hW.alike, by rw [hU]; exact am.moved hW (am.kept C.2.2.2.2.2.2.2.2.1 hh.2.2.2.2.1), by rw [hU]; exact Nat.le_trans C.2.2.2.2.2.2.2.2.2.2 hh.2.2.2.2.1.1⟩⟩
    rfl (by rw [List.length_map]) hh.1.1 (by rw [List.map_append, List.map_reverse] <;> rfl) (by show 2 * 0 + _ ≤ 8; rw [cat_sum]; omega) hd (fits_ok C hh)
  exact after C hh hok.2.2 hrun hn kk
theorem g_objInit (n' : Nat) {idx b : Nat} (hd : decode mt.2.1 pc = .ok (.invokespecial idx, 3)) (h1 : Cond.methodLink mt.1.cls idx Lib.objectInit ∈ tbG) (h2 : Cond.instanceMethod Lib.objectInit ∈ tbG) (h3 : Cond.code Lib.objectInit ⟨#[0xb1]⟩ 1 none ∈ tbG) (hdd : 1 ≤ d) (hrl : st.length ≤ 8) (hn : pc + 3 = n') (kk : G X mt d P V0 bc bs n' L st V κ) : G X mt d P V0 bc bs pc L (Rf b :: st) V κ := fun p e R s m args below meth c mc ms ρ0 C H locs cells slots ls ρ hh => by
  have hx := C.2.2.2.2.1
  have g1 := C.2.2.2.2.2.2.2.2.2.1.1
  have g2 := C.2.2.2.2.2.2.2.2.2.1.2.1
  refine W.objInit C.1 C.2.1 C.2.2.2.1 (hx _ h1) (hx _ h2) (hx _ h3) rfl (hh.1.1.trans C.2.2.1.symm) rfl hd (by omega) (by show 2 * 0 + _ + 12 ≤ _; rw [cat_sum]; omega) ?_
  show W p X.1 e R s m args below meth c H locs cells slots _ (F0 m (pc + 3) ls _)
  rw [hn]
  exact kk p e R s m args below meth c mc ms ρ0 C H locs cells slots ls ρ (hh.stk hh.2.2.1.2)
theorem hhS.nw {ρ0 ρ : Nat → Nat} {t n q : Nat} {κ' : Ks} {s : State} {H H1 : Heap} {locs locs1 : List Loc} {cells slots : Nat} {ls : Array Slot} {mc ms : Nat} {st' : List Av} (h : hhS X mt V0 ρ0 (bc + 1) (bs + n) L st V κ s H locs cells slots ls mc ms ρ) (ht : V t = false) (hst : okS V st') (hM : mm X (fun a => if a = t then q else ρ a) (vset V t) κ' s H1) (hS : va_S (frA X) s.heap H1 locs1) : hhS X mt V0 ρ0 bc bs L (Rf t :: st') (vset V t) κ' s H1 locs1 (cells + 1) (slots + n) ls mc ms (fun a => if a = t then q else ρ a) := by
  have hρ : ∀ a, V a = true → (fun a => if a = t then q else ρ a) a = ρ a := fun a ha => if_neg (fun e => by rw [e, ht] at ha; cases ha)
  have hV : ∀ a, V a = true → vset V t a = true := fun a ha => by
    unfold vset
    split
    · rfl
    · exact ha
  have hb := h.2.2.2.2.2.1
  exact ⟨lvL.ext hρ h.2.1 h.1, h.2.1.mono hV, ⟨(if_pos rfl : vset V t t = true), hst.mono hV⟩, hM, hS, ⟨by omega, by omega⟩, fun a ha => ⟨hV a (h.2.2.2.2.2.2 a ha).1, (hρ a (h.2.2.2.2.2.2 a ha).1).trans (h.2.2.2.2.2.2 a ha).2⟩⟩
def FNw (own : String) (idx ci N : Nat) (lk : Nat → Nat) : Prop := ∃ (C : String) (T : u_T) (ty0 : Nat → FieldType), vwCl[ci]? = some (C, T, N) ∧ (∀ w ∈ u_ws C T N, w ∈ tbG) ∧ (∀ k, k < N → parseFieldDescriptor (T k).2.2.1 = some (ty0 k)) ∧ Cond.classLink own idx C ∈ tbG ∧ Cond.instantiable C N ∈ tbG ∧ Cond.initialized C ∈ tbG ∧ ci < 20 ∧ ∀ j, j < N → defaultValue (ty0 j) = if lk j = 0 then .int 0 else .null
theorem vr_z {t j : Nat} (hl : X.2.2.2.2.2.2 t j ≤ 1) : ∀ q, vr X t (fun _ => 0) j ≠ .inr (some q) := fun q h => by
  rcases Nat.le_one_iff_eq_zero_or_eq_one.mp hl with h0 | h0
  · rw [vr_0 h0] at h
    cases h
  · rw [vr_1 h0] at h
    cases h
theorem g_new (n' : Nat) (t : Nat) {idx ci N : Nat} {lk : Nat → Nat} (hd : decode mt.2.1 pc = .ok (.new idx, 3)) (hf : FNw mt.1.cls idx ci N lk) (hk : kd X t = (ci, N)) (hl : ∀ j, X.2.2.2.2.2.2 t j = lk j) (hl1 : ∀ j, lk j ≤ 1) (ht : V t = false) (hn : pc + 3 = n') (kk : G X mt d P V0 bc bs n' L (Rf t :: st) (vset V t) (rowset κ t (fun _ => 0))) : G X mt d P V0 (bc + 1) (bs + N) pc L st V κ := fun p e R s m args below meth c mc ms ρ0 C H locs cells slots ls ρ hh => by
  obtain ⟨C', T, ty0, hc, hin, hty, hw1, hw2, hw3, hci, hdf⟩ := hf
  have hM := hh.2.2.2.1
  have hx := C.2.2.2.2.1
  obtain ⟨N0, hN0⟩ := hM.2.2.2.2
  have hr := C.2.2.2.2.2.2.2.2.2.1.2.2
  have hb := hh.2.2.2.2.2.1
  refine va_new (D := X.2.1) (tys := tysG X) (fs := (List.range N).map fun j => cv ρ (vr X t (fun _ => 0) j)) C.1 C.2.1 hx hin ty0 hty C.2.2.2.1 (hx _ hw1) (hx _ hw2) (hx _ hw3) C.2.2.2.2.2.2.2.2.1.1 (hM.P N0) (hM.D N0) hh.2.2.2.2.1 (frA_new C.2.2.2.2.2.2.2.2.2.2) hc (fun j hj => ?_) (by omega) (by omega) hd (fun q H1 hP1 hD1 hS1 => ?_)
  · rw [hdf j hj]
    have e : vp_V ((List.range N).map fun j => cv ρ (vr X t (fun _ => 0) j)) j = cv ρ (vr X t (fun _ => 0) j) := by
      unfold vp_V
      rw [List.getD_eq_getElem?_getD, List.getElem?_map, List.getElem?_range hj]
      rfl
    rw [e]
    rcases Nat.le_one_iff_eq_zero_or_eq_one.mp (hl1 j) with h0 | h0
    · rw [vr_0 ((hl j).trans h0), h0]
      rfl
    · rw [vr_1 ((hl j).trans h0), h0]
      rfl
  · rw [← ent_O hk hci] at hP1 hD1
    rw [hn]
    have h2 := mm.push C.2.2.2.2.2.2.2.2.2.2 hM hN0 ht (kd_lt hk (by omega)) hh.2.2.2.2.1 hS1 hP1 hD1 (fun _ => inR_0) (fun j => vr_z (by rw [hl j]; exact hl1 j))
    have h3 := kk p e R s m args below meth c mc ms ρ0 C H1 locs (cells + 1) (slots + N) ls _ (hh.nw ht hh.2.2.1 h2 hS1)
    have e2 : (Rf t :: st).map (cv fun a => if a = t then q else ρ a) = .ref q :: st.map (cv ρ) := by
      rw [List.map_cons, cvS_ext (V := V) (ρ := ρ) (fun a ha => if_neg (fun e => by rw [e, ht] at ha; cases ha)) hh.2.2.1]
      show Value.ref (if t = t then q else ρ t) :: _ = _
      rw [if_pos rfl]
    rw [e2] at h3
    exact h3
theorem arr_same {X : Cx} {s : State} {k : Nat} {cA cB : ClassId} {ty : FieldType} (h : va_K X.2.1 vwCl (tysG X) s) (hk : (tysG X)[k]? = some (cA, ty)) {D : va_G} {cl : List vw_C} {tys : List (ClassId × FieldType)} (h1 : va_K D cl (tys ++ [(cB, ty)]) s) : cB = cA := by
  have e1 := (h.2 k _ hk).2
  have e2 := (h1.2 tys.length (cB, ty) (by rw [List.getElem?_append_right (Nat.le_refl _), Nat.sub_self]; rfl)).2
  cases ty with
  | object C =>
    obtain ⟨-, -, -, -, -, a4⟩ := e1
    obtain ⟨-, -, -, -, -, b4⟩ := e2
    exact Option.some.inj (b4.symm.trans a4)
  | _ => exact Option.some.inj (e2.symm.trans e1)
theorem g_newI (n' : Nat) (t : Nat) {N : Nat} (hd : decode mt.2.1 pc = .ok (.newarray .int, 2)) (hw : Cond.arrayClass .int ∈ tbG) (hk : kd X t = (20, N)) (hN : N < 100000) (hl : ∀ j, X.2.2.2.2.2.2 t j = 0) (ht : V t = false) (hn : pc + 2 = n') (kk : G X mt d P V0 bc bs n' L (Rf t :: st) (vset V t) (rowset κ t (fun _ => 0))) : G X mt d P V0 (bc + 1) (bs + N) pc L (Iv (N : Int) :: st) V κ := fun p e R s m args below meth c mc ms ρ0 C H locs cells slots ls ρ hh => by
  have hM := hh.2.2.2.1
  have hx := C.2.2.2.2.1
  obtain ⟨N0, hN0⟩ := hM.2.2.2.2
  have hr := C.2.2.2.2.2.2.2.2.2.1.2.2
  have hb := hh.2.2.2.2.2.1
  have hNR : inR (N : Int) := by unfold inR; omega
  refine va_newa (atype := .int) (ty := .int) (a0 := (N, .inl (fun _ => 0))) (N' := N) (D := X.2.1) (tys := tysG X) C.1 C.2.1 (hx _ hw) rfl C.2.2.2.2.2.2.2.2.1.1 (hM.P N0) (hM.D N0) hh.2.2.2.2.1 (frA_new C.2.2.2.2.2.2.2.2.2.2) (fun _ => rfl) (fun z => by have := (ofI_lt hNR inR_0).mp z; omega) (by show (Int32.ofInt (N : Int)).toInt.toNat = N; rw [inR_toInt hNR]; rfl) (by show N * 4 ≤ _; omega) (by omega) (by omega) hd (fun q cA H1 hK1 hP1 hD1 hS1 => ?_)
  have hcA := arr_same (k := 0) C.2.2.2.2.2.2.2.2.1.1 rfl hK1
  subst hcA
  have he : (Sum.inl (X.2.2.1 0, N, Sum.inl (fun _ => 0)) : va_E) = ent X ρ t (fun _ => 0) := by rw [ent_I hk]; rfl
  rw [he] at hP1 hD1
  rw [hn]
  have h2 := mm.push C.2.2.2.2.2.2.2.2.2.2 hM hN0 ht (kd_lt hk (by omega)) hh.2.2.2.2.1 hS1 hP1 hD1 (fun _ => inR_0) (fun j => vr_z (by rw [hl j]; omega))
  have h3 := kk p e R s m args below meth c mc ms ρ0 C H1 locs (cells + 1) (slots + N) ls _ (hh.nw ht hh.2.2.1.2 h2 hS1)
  have e2 : (Rf t :: st).map (cv fun a => if a = t then q else ρ a) = .ref q :: st.map (cv ρ) := by
    rw [List.map_cons, cvS_ext (V := V) (ρ := ρ) (fun a ha => if_neg (fun e => by rw [e, ht] at ha; cases ha)) hh.2.2.1.2]
    show Value.ref (if t = t then q else ρ t) :: _ = _
    rw [if_pos rfl]
  rw [e2] at h3
  exact h3
theorem g_newZ (n' : Nat) (t : Nat) {N : Nat} (hd : decode mt.2.1 pc = .ok (.newarray .boolean, 2)) (hw : Cond.arrayClass .boolean ∈ tbG) (hk : kd X t = (21, N)) (hN : N < 100000) (hl : ∀ j, X.2.2.2.2.2.2 t j = 0) (ht : V t = false) (hn : pc + 2 = n') (kk : G X mt d P V0 bc bs n' L (Rf t :: st) (vset V t) (rowset κ t (fun _ => 0))) : G X mt d P V0 (bc + 1) (bs + N) pc L (Iv (N : Int) :: st) V κ := fun p e R s m args below meth c mc ms ρ0 C H locs cells slots ls ρ hh => by
  have hM := hh.2.2.2.1
  have hx := C.2.2.2.2.1
  obtain ⟨N0, hN0⟩ := hM.2.2.2.2
  have hr := C.2.2.2.2.2.2.2.2.2.1.2.2
  have hb := hh.2.2.2.2.2.1
  have hNR : inR (N : Int) := by unfold inR; omega
  refine va_newa (atype := .boolean) (ty := .boolean) (a0 := (N, .inl (fun _ => 0))) (N' := N) (D := X.2.1) (tys := tysG X) C.1 C.2.1 (hx _ hw) rfl C.2.2.2.2.2.2.2.2.1.1 (hM.P N0) (hM.D N0) hh.2.2.2.2.1 (frA_new C.2.2.2.2.2.2.2.2.2.2) (fun _ => rfl) (fun z => by have := (ofI_lt hNR inR_0).mp z; omega) (by show (Int32.ofInt (N : Int)).toInt.toNat = N; rw [inR_toInt hNR]; rfl) (by show N * 1 ≤ _; omega) (by omega) (by omega) hd (fun q cA H1 hK1 hP1 hD1 hS1 => ?_)
  have hcA := arr_same (k := 1) C.2.2.2.2.2.2.2.2.1.1 rfl hK1
  subst hcA
  have he : (Sum.inl (X.2.2.1 1, N, Sum.inl (fun _ => 0)) : va_E) = ent X ρ t (fun _ => 0) := by rw [ent_Z hk]; rfl
  rw [he] at hP1 hD1
  rw [hn]
  have h2 := mm.push C.2.2.2.2.2.2.2.2.2.2 hM hN0 ht (kd_lt hk (by omega)) hh.2.2.2.2.1 hS1 hP1 hD1 (fun _ => inR_0) (fun j => vr_z (by rw [hl j]; omega))
  have h3 := kk p e R s m args below meth c mc ms ρ0 C H1 locs (cells + 1) (slots + N) ls _ (hh.nw ht hh.2.2.1.2 h2 hS1)
  have e2 : (Rf t :: st).map (cv fun a => if a = t then q else ρ a) = .ref q :: st.map (cv ρ) := by
    rw [List.map_cons, cvS_ext (V := V) (ρ := ρ) (fun a ha => if_neg (fun e => by rw [e, ht] at ha; cases ha)) hh.2.2.1.2]
    show Value.ref (if t = t then q else ρ t) :: _ = _
    rw [if_pos rfl]
  rw [e2] at h3
  exact h3
end G7
end
section
/-! ROWS of G: arrays of references, copies, mirrors, casts -/
theorem rfo_up {X : Cx} {ρ : Nat → Nat} {t k v : Nat} {r : Nat → Int} (hl : ∀ j, X.2.2.2.2.2.2 t j = 1) (hv : 0 < v) : va_up (fun j => rfo ρ (vr X t r j)) k (some (ρ v)) = fun j => rfo ρ (vr X t (up1 r k (v : Int)) j) := by
  funext j
  unfold va_up
  by_cases h : j = k
  · subst h
    rw [if_pos rfl, vr_1 (hl _), up1_s]
    show _ = (dr (v : Int)).map ρ
    unfold dr
    rw [if_neg (by omega)]
    rfl
  · rw [if_neg h, vr_up h]
theorem cpy_map {α β : Type} (h : α → β) (f g : Nat → α) (a b n : Nat) : va_cpy (fun j => h (f j)) (fun j => h (g j)) a b n = fun j => h (va_cpy f g a b n j) := by
  funext j
  unfold va_cpy
  split <;> rfl
theorem cpy_R {f g : Nat → Int} {a b n : Nat} (hf : ∀ j, inR (f j)) (hg : ∀ j, inR (g j)) (j : Nat) : inR (va_cpy f g a b n j) := by
  unfold va_cpy
  split
  · exact hf _
  · exact hg _
theorem clampN {i : Int} (h : inR i) : (Int32.ofInt i).toNatClampNeg = i.toNat := by
  show (Int32.ofInt i).toInt.toNat = i.toNat
  rw [inR_toInt h]
theorem nfw : nativeFrameWords "java/lang/System" "arraycopy" 5 + 11 ≤ 40 := by decide
section G8
variable {X : Cx} {mt : Mt} {d : Nat} {P : Po} {V0 : Vs} {bc bs pc : Nat} {L : Lc} {st : List Av} {V : Vs} {κ : Ks}
theorem g_newA (n' : Nat) (t : Nat) {idx k kt N : Nat} {C0 : String} (hd : decode mt.2.1 pc = .ok (.anewarray idx, 3)) (hw : Cond.classLink mt.1.cls idx C0 ∈ tbG) (hkt : (kt = 22 ∧ k = 2 ∧ C0 = "java/lang/Object") ∨ (kt = 23 ∧ k = 3 ∧ C0 = "WoodenMains$Row")) (hk : kd X t = (kt, N)) (hN : N < 100000) (hl : ∀ j, X.2.2.2.2.2.2 t j = 1) (ht : V t = false) (hn : pc + 3 = n') (kk : G X mt d P V0 bc bs n' L (Rf t :: st) (vset V t) (rowset κ t (fun _ => 0))) : G X mt d P V0 (bc + 1) (bs + N) pc L (Iv (N : Int) :: st) V κ := fun p e R s m args below meth c mc ms ρ0 C H locs cells slots ls ρ hh => by
  have hM := hh.2.2.2.1
  have hx := C.2.2.2.2.1
  obtain ⟨N0, hN0⟩ := hM.2.2.2.2
  have hr := C.2.2.2.2.2.2.2.2.2.1.2.2
  have hb := hh.2.2.2.2.2.1
  have ha := C.2.2.2.2.2.2.2.2.1
  have hNR : inR (N : Int) := by unfold inR; omega
  have hAO : va_AO C0 s ∧ (tysG X)[k]? = some (X.2.2.1 k, .object C0) := by
    rcases hkt with ⟨-, rfl, rfl⟩ | ⟨-, rfl, rfl⟩
    · exact ⟨ha.2.2.1.1, rfl⟩
    · exact ⟨ha.2.2.1.2, rfl⟩
  refine va_newq (N' := N) (D := X.2.1) (tys := tysG X) C.1 C.2.1 C.2.2.2.1 (hx _ hw) hAO.1 ha.1 (hM.P N0) (hM.D N0) hh.2.2.2.2.1 (frA_new C.2.2.2.2.2.2.2.2.2.2) (fun z => by have := (ofI_lt hNR inR_0).mp z; omega) (by show (Int32.ofInt (N : Int)).toInt.toNat = N; rw [inR_toInt hNR]; rfl) (by omega) (by omega) (by omega) hd (fun q cA H1 hK1 hP1 hD1 hS1 => ?_)
  have hcA := arr_same (k := k) ha.1 hAO.2 hK1
  subst hcA
  have hz : (fun _ : Nat => (none : Option Nat)) = fun j => rfo ρ (vr X t (fun _ => 0) j) := by
    funext j
    rw [vr_1 (hl j)]
    rfl
  have he : (Sum.inl (X.2.2.1 k, N, Sum.inr (Sum.inr (Sum.inr (Sum.inr (fun _ : Nat => (none : Option Nat)))))) : va_E) = ent X ρ t (fun _ => 0) := by
    rw [hz]
    rcases hkt with ⟨rfl, rfl, rfl⟩ | ⟨rfl, rfl, rfl⟩
    · rw [ent_A hk]
    · rw [ent_W hk]
  rw [he] at hP1 hD1
  rw [hn]
  have h2 := mm.push C.2.2.2.2.2.2.2.2.2.2 hM hN0 ht (kd_lt hk (by omega)) hh.2.2.2.2.1 hS1 hP1 hD1 (fun _ => inR_0) (fun j => vr_z (by rw [hl j]; omega))
  have h3 := kk p e R s m args below meth c mc ms ρ0 C H1 locs (cells + 1) (slots + N) ls _ (hh.nw ht hh.2.2.1.2 h2 hS1)
  have e2 : (Rf t :: st).map (cv fun a => if a = t then q else ρ a) = .ref q :: st.map (cv ρ) := by
    rw [List.map_cons, cvS_ext (V := V) (ρ := ρ) (fun a ha => if_neg (fun e => by rw [e, ht] at ha; cases ha)) hh.2.2.1.2]
    show Value.ref (if t = t then q else ρ t) :: _ = _
    rw [if_pos rfl]
  rw [e2] at h3
  exact h3
theorem g_aast (n' : Nat) {t v kt N ci Nv : Nat} {i : Int} {C0 : String} {T : u_T} (hd : decode mt.2.1 pc = .ok (.aastore, 1)) (hc : vwCl[ci]? = some (C0, T, Nv)) (hci : ci < 20) (hkt : (kt = 22 ∧ Cond.castable C0 "java/lang/Object" ∈ nwL) ∨ (kt = 23 ∧ C0 = "WoodenMains$Row")) (hk : kd X t = (kt, N)) (hkv : kd X v = (ci, Nv)) (hv0 : 0 < v ∧ v < 2147483648) (hN : N < 2147483648) (hl : ∀ j, X.2.2.2.2.2.2 t j = 1) (hi : 0 ≤ i ∧ i < N) (hn : pc + 1 = n') (kk : G X mt d P V0 bc bs n' L st V (st2 κ t i.toNat (v : Int))) : G X mt d P V0 bc bs pc L (Rf v :: Iv i :: Rf t :: st) V κ := fun p e R s m args below meth c mc ms ρ0 C H locs cells slots ls ρ hh => by
  have hM := hh.2.2.2.1
  obtain ⟨N0, hN0⟩ := hM.2.2.2.2
  have hV : V t = true := hh.2.2.1.2.2.1
  have hVv : V v = true := hh.2.2.1.1
  have ha := C.2.2.2.2.2.2.2.2.1
  obtain ⟨q0, hq0⟩ := lvl_pos hN0 hV (kd_lt hk (by rcases hkt with h | h <;> omega))
  obtain ⟨q1, hq1⟩ := lvl_pos hN0 hVv (kd_lt hkv (by omega))
  have hev : (wsO X ρ κ (lvl X V N0))[q1]? = some (ρ v, .inr (ci, (List.range Nv).map fun j => cv ρ (vr X v (κ v) j))) := by rw [wsO_pos hq1, ent_O hkv hci]
  have he := wsO_pos (X := X) (ρ := ρ) (κ := κ) hq0
  have fin : ∀ (H1 : Heap) (locs1 : List Loc), va_P X.2.1 vwCl ((wsO X ρ κ (lvl X V N0)).set q0 (ρ t, ent X ρ t (up1 (κ t) i.toNat (v : Int)))) H1 → va_S (frA X) s.heap H1 locs1 → W p X.1 e R s m args below meth c H1 locs1 cells slots (MQ below (qcG X P V0 ρ0) args s mc ms (frA X)) (F0 m (pc + 1) ls (st.map (cv ρ))) := fun H1 locs1 hP1 hS1 => by
    rw [hn]
    exact kk p e R s m args below meth c mc ms ρ0 C H1 locs1 cells slots ls ρ (hh.wr hh.2.2.1.2.2.2 (hM.write C.2.2.2.2.2.2.2.2.2.2 hN0 hq0 hh.2.2.2.2.1 hS1 hP1 (up1_R (hM.2.2.1 t) (by unfold inR; omega)) (wr_cl hM hV (fun q hq => by
      rw [vr_1 (hl _), up1_s] at hq
      have e3 : dr (v : Int) = some v := by
        unfold dr
        rw [if_neg (by omega)]
        rfl
      rw [e3] at hq
      cases hq
      exact hVv))) hS1)
  rcases hkt with ⟨rfl, hca⟩ | ⟨rfl, rfl⟩
  · rw [ent_A hk] at he
    refine va_astqO (D := X.2.1) (tys := tysG X) C.1 C.2.1 ha.1 (hM.P N0) (hM.D N0) hh.2.2.2.2.1 q0 2 q1 ci he (E := "java/lang/Object") rfl (ha.2.1 _ hca) hev hc (inI hi hN) hd (fun H1 locs1 hP1 _ hS1 => fin H1 locs1 ?_ hS1)
    rw [clampI hi hN, rfo_up hl hv0.1, ← ent_A hk] at hP1
    exact hP1
  · rw [ent_W hk] at he
    refine va_astq (D := X.2.1) (tys := tysG X) C.1 C.2.1 ha.1 (hM.P N0) (hM.D N0) hh.2.2.2.2.1 q0 3 q1 ci he rfl hev hc (inI hi hN) hd (fun H1 locs1 hP1 _ hS1 => fin H1 locs1 ?_ hS1)
    rw [clampI hi hN, rfo_up hl hv0.1, ← ent_W hk] at hP1
    exact hP1
def ACw (own : String) (idx : Nat) : Prop := Cond.methodLink own idx arraycopyName ∈ tbG ∧ Cond.native arraycopyName ∈ tbG ∧ Cond.static arraycopyName ∈ tbG ∧ Cond.initialized "java/lang/System" ∈ tbG
theorem g_copyI (n' : Nat) {t0 t1 N0 N1 idx : Nat} {sp dp n : Int} (hd : decode mt.2.1 pc = .ok (.invokestatic idx, 3)) (hw : ACw mt.1.cls idx) (hk0 : kd X t0 = (20, N0)) (hk1 : kd X t1 = (20, N1)) (hl : ∀ j, X.2.2.2.2.2.2 t1 j = 0) (hN0 : N0 < 2147483648) (hN1 : N1 < 2147483648) (h1 : 0 ≤ sp) (h2 : 0 ≤ dp) (h3 : 0 ≤ n) (h4 : sp + n ≤ N0) (h5 : dp + n ≤ N1) (hdd : 1 ≤ d) (hrl : st.length ≤ 8) (hn : pc + 3 = n') (kk : G X mt d P V0 bc bs n' L st V (rowset κ t1 (va_cpy (κ t0) (κ t1) sp.toNat dp.toNat n.toNat))) : G X mt d P V0 bc bs pc L (Iv n :: Iv dp :: Rf t1 :: Iv sp :: Rf t0 :: st) V κ := fun p e R s m args below meth c mc ms ρ0 C H locs cells slots ls ρ hh => by
  have hM := hh.2.2.2.1
  obtain ⟨NN, hNN⟩ := hM.2.2.2.2
  have hV1 : V t1 = true := hh.2.2.1.2.2.1
  have hV0 : V t0 = true := hh.2.2.1.2.2.2.2.1
  have hx := C.2.2.2.2.1
  have g1 := C.2.2.2.2.2.2.2.2.2.1.1
  have g2 := C.2.2.2.2.2.2.2.2.2.1.2.1
  obtain ⟨q0, hq0⟩ := lvl_pos hNN hV0 (kd_lt hk0 (by omega))
  obtain ⟨q1, hq1⟩ := lvl_pos hNN hV1 (kd_lt hk1 (by omega))
  have he0 := wsO_pos (X := X) (ρ := ρ) (κ := κ) hq0
  rw [ent_I hk0] at he0
  have he1 := wsO_pos (X := X) (ρ := ρ) (κ := κ) hq1
  rw [ent_I hk1] at he1
  have r1 : inR sp := ⟨by omega, by omega⟩
  have r2 : inR dp := ⟨by omega, by omega⟩
  have r3 : inR n := ⟨by omega, by omega⟩
  refine va_copyi (ty := .int) (D := X.2.1) (tys := tysG X) C.1 C.2.1 (C.2.2.1.trans hh.1.1.symm) C.2.2.2.1 (hx _ hw.1) (hx _ hw.2.1) (hx _ hw.2.2.1) (hx _ hw.2.2.2) C.2.2.2.2.2.2.2.2.1.1 (hM.P NN) (hM.D NN) hh.2.2.2.2.1 q0 q1 0 0 he0 he1 rfl rfl rfl (fun z => by have := (ofI_lt r1 inR_0).mp z; omega) (fun z => by have := (ofI_lt r2 inR_0).mp z; omega) (fun z => by have := (ofI_lt r3 inR_0).mp z; omega) (by rw [clampN r1, clampN r3]; omega) (by rw [clampN r2, clampN r3]; omega) (fun _ _ => rfl) (by omega) (by have := nfw; rw [cat_sum]; omega) hd (fun H1 locs1 hP1 _ hS1 => ?_)
  rw [clampN r1, clampN r2, clampN r3, cpy_map, ← ent_I hk1] at hP1
  rw [hn]
  exact kk p e R s m args below meth c mc ms ρ0 C H1 locs1 cells slots ls ρ (hh.wr hh.2.2.1.2.2.2.2.2 (hM.write C.2.2.2.2.2.2.2.2.2.2 hNN hq1 hh.2.2.2.2.1 hS1 hP1 (cpy_R (hM.2.2.1 t0) (hM.2.2.1 t1)) (fun j q hq => by rw [vr_0 (hl j)] at hq; cases hq)) hS1)
theorem g_copyA (n' : Nat) {t0 t1 N0 N1 idx ci : Nat} {sp dp n : Int} {C0 : String} {T : u_T} {Nv : Nat} (hd : decode mt.2.1 pc = .ok (.invokestatic idx, 3)) (hw : ACw mt.1.cls idx) (hk0 : kd X t0 = (22, N0)) (hk1 : kd X t1 = (22, N1)) (hl0 : ∀ j, X.2.2.2.2.2.2 t0 j = 1) (hl1 : ∀ j, X.2.2.2.2.2.2 t1 j = 1) (hN0 : N0 < 2147483648) (hN1 : N1 < 2147483648) (h1 : 0 ≤ sp) (h2 : 0 ≤ dp) (h3 : 0 ≤ n) (h4 : sp + n ≤ N0) (h5 : dp + n ≤ N1) (hc : vwCl[ci]? = some (C0, T, Nv)) (hci : ci < 20) (hca : Cond.castable C0 "java/lang/Object" ∈ nwL) (hel : ∀ j q, dr (κ t0 j) = some q → kd X q = (ci, Nv)) (hdd : 1 ≤ d) (hrl : st.length ≤ 8) (hn : pc + 3 = n') (kk : G X mt d P V0 bc bs n' L st V (rowset κ t1 (va_cpy (κ t0) (κ t1) sp.toNat dp.toNat n.toNat))) : G X mt d P V0 bc bs pc L (Iv n :: Iv dp :: Rf t1 :: Iv sp :: Rf t0 :: st) V κ := fun p e R s m args below meth c mc ms ρ0 C H locs cells slots ls ρ hh => by
  have hM := hh.2.2.2.1
  obtain ⟨NN, hNN⟩ := hM.2.2.2.2
  have hV1 : V t1 = true := hh.2.2.1.2.2.1
  have hV0 : V t0 = true := hh.2.2.1.2.2.2.2.1
  have hx := C.2.2.2.2.1
  have ha := C.2.2.2.2.2.2.2.2.1
  have g1 := C.2.2.2.2.2.2.2.2.2.1.1
  have g2 := C.2.2.2.2.2.2.2.2.2.1.2.1
  obtain ⟨q0, hq0⟩ := lvl_pos hNN hV0 (kd_lt hk0 (by omega))
  obtain ⟨q1, hq1⟩ := lvl_pos hNN hV1 (kd_lt hk1 (by omega))
  have he0 := wsO_pos (X := X) (ρ := ρ) (κ := κ) hq0
  rw [ent_A hk0] at he0
  have he1 := wsO_pos (X := X) (ρ := ρ) (κ := κ) hq1
  rw [ent_A hk1] at he1
  have r1 : inR sp := ⟨by omega, by omega⟩
  have r2 : inR dp := ⟨by omega, by omega⟩
  have r3 : inR n := ⟨by omega, by omega⟩
  refine va_copyM (D := X.2.1) (tys := tysG X) (E0 := "java/lang/Object") (E1 := "java/lang/Object") C.1 C.2.1 (C.2.2.1.trans hh.1.1.symm) C.2.2.2.1 (hx _ hw.1) (hx _ hw.2.1) (hx _ hw.2.2.1) (hx _ hw.2.2.2) ha.1 (hM.P NN) (hM.D NN) hh.2.2.2.2.1 q0 q1 2 2 he0 he1 rfl rfl (fun z => by have := (ofI_lt r1 inR_0).mp z; omega) (fun z => by have := (ofI_lt r2 inR_0).mp z; omega) (fun z => by have := (ofI_lt r3 inR_0).mp z; omega) (by rw [clampN r1, clampN r3]; omega) (by rw [clampN r2, clampN r3]; omega) (fun i _ y hy => ?_) (by omega) (by have := nfw; rw [cat_sum]; omega) hd (fun H1 locs1 hP1 _ hS1 => ?_)
  · rw [vr_1 (hl0 _)] at hy
    have hy : (dr (κ t0 ((Int32.ofInt sp).toNatClampNeg + i))).map ρ = some y := hy
    cases hq : dr (κ t0 ((Int32.ofInt sp).toNatClampNeg + i)) with
    | none => rw [hq] at hy; cases hy
    | some q =>
      rw [hq] at hy
      have hy : ρ q = y := Option.some.inj hy
      subst hy
      have hVq : V q = true := hM.2.2.2.1 t0 _ q hV0 (by rw [vr_1 (hl0 _), hq])
      have hkq := hel _ q hq
      obtain ⟨q2, hq2⟩ := lvl_pos hNN hVq (kd_lt hkq (by omega))
      have hev : (wsO X ρ κ (lvl X V NN))[q2]? = some (ρ q, .inr (ci, (List.range Nv).map fun j => cv ρ (vr X q (κ q) j))) := by rw [wsO_pos hq2, ent_O hkq hci]
      exact va_rAny ha.1 (hM.P NN) hev hc (fun comp c0 z1 z2 => vb_asgC (ha.2.1 _ hca) comp c0 z1 z2)
  · have e3 : va_cpy (fun j => rfo ρ (vr X t0 (κ t0) j)) (fun j => rfo ρ (vr X t1 (κ t1) j)) sp.toNat dp.toNat n.toNat = fun j => rfo ρ (vr X t1 (va_cpy (κ t0) (κ t1) sp.toNat dp.toNat n.toNat) j) := by
      funext j
      rw [vr_1 (hl1 j)]
      unfold va_cpy
      split
      · show rfo ρ (vr X t0 (κ t0) (sp.toNat + (j - dp.toNat))) = _
        rw [vr_1 (hl0 _)]
      · show rfo ρ (vr X t1 (κ t1) j) = _
        rw [vr_1 (hl1 _)]
    rw [clampN r1, clampN r2, clampN r3, e3, ← ent_A hk1] at hP1
    rw [hn]
    exact kk p e R s m args below meth c mc ms ρ0 C H1 locs1 cells slots ls ρ (hh.wr hh.2.2.1.2.2.2.2.2 (hM.write C.2.2.2.2.2.2.2.2.2.2 hNN hq1 hh.2.2.2.2.1 hS1 hP1 (cpy_R (hM.2.2.1 t0) (hM.2.2.1 t1)) (fun j q hq => by
      rw [vr_1 (hl1 j)] at hq
      unfold va_cpy at hq
      split at hq
      · exact hM.2.2.2.1 t0 _ q hV0 (by rw [vr_1 (hl0 _)]; exact hq)
      · exact hM.2.2.2.1 t1 _ q hV1 (by rw [vr_1 (hl1 _)]; exact hq))) hS1)
theorem oldM {ρ : Nat → Nat} {U : State} {H : Heap} (hM : mm X ρ V κ U H) {t N : Nat} (hV : V t = true) (hk : kd X t = (32, N)) : va_Mi "[Ljava/lang/Object;" (ρ t) U := by
  have h := (hM.old hV (by rw [hk]; show 30 ≤ 32; omega)).2.2.2
  unfold oldOk at h
  rw [hk] at h
  exact h
theorem g_ldcM (n' : Nat) (t : Nat) {idx N : Nat} (hd : decode mt.2.1 pc = .ok (.ldc idx, 2)) (hw : Cond.classLink mt.1.cls idx "[Ljava/lang/Object;" ∈ tbG) (hk : kd X t = (32, N)) (hV : V t = true) (hn : pc + 2 = n') (kk : G X mt d P V0 bc bs n' L (Rf t :: st) V κ) : G X mt d P V0 bc bs pc L st V κ := fun p e R s m args below meth c mc ms ρ0 C H locs cells slots ls ρ hh => by
  refine va_ldcM C.1 C.2.1 C.2.2.2.1 (C.2.2.2.2.1 _ hw) (oldM hh.2.2.2.1 hV hk) hd ?_
  rw [hn]
  exact kk p e R s m args below meth c mc ms ρ0 C H locs cells slots ls ρ (hh.stk ⟨hV, hh.2.2.1⟩)
def gcN : MethodName := ⟨"java/lang/Object", "getClass", "()Ljava/lang/Class;"⟩
theorem g_getC0 (n' : Nat) (tm : Nat) {t idx N Nm : Nat} (hd : decode mt.2.1 pc = .ok (.invokevirtual idx, 3)) (hw1 : Cond.methodLink mt.1.cls idx gcN ∈ tbG) (hw2 : Cond.declares gcN ∈ nwL) (hw3 : Cond.selects "[Ljava/lang/Object;" gcN gcN ∈ tbG) (hw4 : Cond.instanceMethod gcN ∈ tbG) (hw5 : Cond.native gcN ∈ tbG) (hk : kd X t = (22, N)) (hkm : kd X tm = (32, Nm)) (hV : V tm = true) (hdd : 1 ≤ d) (hrl : st.length ≤ 8) (hn : pc + 3 = n') (kk : G X mt d P V0 bc bs n' L (Rf tm :: st) V κ) : G X mt d P V0 bc bs pc L (Rf t :: st) V κ := fun p e R s m args below meth c mc ms ρ0 C H locs cells slots ls ρ hh => by
  have hM := hh.2.2.2.1
  have hx := C.2.2.2.2.1
  have ha := C.2.2.2.2.2.2.2.2.1
  have g1 := C.2.2.2.2.2.2.2.2.2.1.1
  have g2 := C.2.2.2.2.2.2.2.2.2.1.2.1
  have hVt : V t = true := hh.2.2.1.1
  have hat := (hM.at hVt (kd_lt hk (by omega))).2
  rw [ent_A hk] at hat
  have hRA := (ha.1.2 2 _ rfl).2
  obtain ⟨kA, comp, r1, r2, r3, r4⟩ := hRA
  refine va_getC (C := "[Ljava/lang/Object;") C.1 C.2.1 (C.2.2.1.trans hh.1.1.symm) C.2.2.2.1 (hx _ hw1) (va_Nw.use rfl (ha.2.1 _ hw2)) (hx _ hw3) (hx _ hw4) (hx _ hw5) (oldM hM hV hkm) ⟨_, hat, rfl, r4⟩ (by omega) (by rw [cat_sum]; omega) hd ?_
  rw [hn]
  exact kk p e R s m args below meth c mc ms ρ0 C H locs cells slots ls ρ (hh.stk ⟨hV, hh.2.2.1.2⟩)
theorem g_cast (n' : Nat) {t idx ci N : Nat} {C0 : String} {T : u_T} (hd : decode mt.2.1 pc = .ok (.checkcast idx, 3)) (hw : Cond.classLink mt.1.cls idx C0 ∈ tbG) (hc : vwCl[ci]? = some (C0, T, N)) (hci : ci < 20) (hk : kd X t = (ci, N)) (hn : pc + 3 = n') (kk : G X mt d P V0 bc bs n' L (Rf t :: st) V κ) : G X mt d P V0 bc bs pc L (Rf t :: st) V κ := fun p e R s m args below meth c mc ms ρ0 C H locs cells slots ls ρ hh => by
  have hM := hh.2.2.2.1
  obtain ⟨N0, hN0⟩ := hM.2.2.2.2
  have ha := C.2.2.2.2.2.2.2.2.1
  have hV : V t = true := hh.2.2.1.1
  obtain ⟨q0, hq0⟩ := lvl_pos hN0 hV (kd_lt hk (by omega))
  have he : (wsO X ρ κ (lvl X V N0))[q0]? = some (ρ t, .inr (ci, (List.range N).map fun j => cv ρ (vr X t (κ t) j))) := by rw [wsO_pos hq0, ent_O hk hci]
  refine va_castS C.1 C.2.1 C.2.2.2.1 (C.2.2.2.2.1 _ hw) (ha.1.1 ci _ hc).2 (va_recv ha.1 (hM.P N0) hc he) hd ?_
  rw [hn]
  exact kk p e R s m args below meth c mc ms ρ0 C H locs cells slots ls ρ (hh.stk ⟨hV, hh.2.2.1.2⟩)
end G8
end
