-- ===== PART A: goes FIRST, ahead of the names: the tables' words, and 'selects' of the private methods out of them =====
/-- a private method of a class that the tables say can be made, by its rows of tables_1 -/
def lw_okq (q : MethodName × Nat) : Prop := (q.1.cls ≠ "java/lang/invoke/MethodHandle" ∧ q.1.cls ≠ "java/lang/invoke/VarHandle") ∧ Cond.instantiable q.1.cls q.2 ∈ tables_1 ∧ Cond.privateMethod q.1 ∈ tables_1 ∧ Cond.instanceMethod q.1 ∈ tables_1
theorem lw_p0 : lw_okq (⟨"ArmourOfTheShy", "refuse", "(I)I"⟩, 12) := ⟨⟨by decide +kernel, by decide +kernel⟩, List.mem_of_getElem? (i := 14) (by decide +kernel), List.mem_of_getElem? (i := 154) (by decide +kernel), List.mem_of_getElem? (i := 155) (by decide +kernel)⟩
theorem lw_p1 : lw_okq (⟨"ArmourOfTheShy$Letters", "fits", "(II)Z"⟩, 2) := ⟨⟨by decide +kernel, by decide +kernel⟩, List.mem_of_getElem? (i := 82) (by decide +kernel), List.mem_of_getElem? (i := 170) (by decide +kernel), List.mem_of_getElem? (i := 171) (by decide +kernel)⟩
theorem lw_p2 : lw_okq (⟨"ArmourOfTheShy", "think", "()V"⟩, 12) := ⟨⟨by decide +kernel, by decide +kernel⟩, List.mem_of_getElem? (i := 14) (by decide +kernel), List.mem_of_getElem? (i := 264) (by decide +kernel), List.mem_of_getElem? (i := 265) (by decide +kernel)⟩
theorem lw_p3 : lw_okq (⟨"ArmourOfTheShy$Letters", "digit", "(I)I"⟩, 2) := ⟨⟨by decide +kernel, by decide +kernel⟩, List.mem_of_getElem? (i := 82) (by decide +kernel), List.mem_of_getElem? (i := 279) (by decide +kernel), List.mem_of_getElem? (i := 280) (by decide +kernel)⟩
theorem lw_p4 : lw_okq (⟨"ArmourOfTheShy$Letters", "number", "(I)I"⟩, 2) := ⟨⟨by decide +kernel, by decide +kernel⟩, List.mem_of_getElem? (i := 82) (by decide +kernel), List.mem_of_getElem? (i := 287) (by decide +kernel), List.mem_of_getElem? (i := 288) (by decide +kernel)⟩
theorem lw_p5 : lw_okq (⟨"ArmourOfTheShy", "anySuit", "(I)I"⟩, 12) := ⟨⟨by decide +kernel, by decide +kernel⟩, List.mem_of_getElem? (i := 14) (by decide +kernel), List.mem_of_getElem? (i := 371) (by decide +kernel), List.mem_of_getElem? (i := 372) (by decide +kernel)⟩
theorem lw_p6 : lw_okq (⟨"ArmourOfTheShy", "anyCaller", "(I)I"⟩, 12) := ⟨⟨by decide +kernel, by decide +kernel⟩, List.mem_of_getElem? (i := 14) (by decide +kernel), List.mem_of_getElem? (i := 392) (by decide +kernel), List.mem_of_getElem? (i := 393) (by decide +kernel)⟩
theorem lw_p7 : lw_okq (⟨"ArmourOfTheShy", "inSuit", "(I)I"⟩, 12) := ⟨⟨by decide +kernel, by decide +kernel⟩, List.mem_of_getElem? (i := 14) (by decide +kernel), List.mem_of_getElem? (i := 416) (by decide +kernel), List.mem_of_getElem? (i := 417) (by decide +kernel)⟩
theorem lw_p8 : lw_okq (⟨"ArmourOfTheShy", "firstToPropose", "()I"⟩, 12) := ⟨⟨by decide +kernel, by decide +kernel⟩, List.mem_of_getElem? (i := 14) (by decide +kernel), List.mem_of_getElem? (i := 461) (by decide +kernel), List.mem_of_getElem? (i := 462) (by decide +kernel)⟩
theorem lw_p9 : lw_okq (⟨"ArmourOfTheShy", "allSaidBehind", "(I)I"⟩, 12) := ⟨⟨by decide +kernel, by decide +kernel⟩, List.mem_of_getElem? (i := 14) (by decide +kernel), List.mem_of_getElem? (i := 473) (by decide +kernel), List.mem_of_getElem? (i := 474) (by decide +kernel)⟩
theorem lw_p10 : lw_okq (⟨"ArmourOfTheShy$Dresser", "mostOn", "(LArmourOfTheShy$City;II)I"⟩, 2) := ⟨⟨by decide +kernel, by decide +kernel⟩, List.mem_of_getElem? (i := 97) (by decide +kernel), List.mem_of_getElem? (i := 493) (by decide +kernel), List.mem_of_getElem? (i := 494) (by decide +kernel)⟩
theorem lw_p11 : lw_okq (⟨"ArmourOfTheShy$Dresser", "mostWith", "(III)I"⟩, 2) := ⟨⟨by decide +kernel, by decide +kernel⟩, List.mem_of_getElem? (i := 97) (by decide +kernel), List.mem_of_getElem? (i := 497) (by decide +kernel), List.mem_of_getElem? (i := 498) (by decide +kernel)⟩
theorem lw_p12 : lw_okq (⟨"ArmourOfTheShy$Dresser", "firstBest", "(LArmourOfTheShy$City;II)I"⟩, 2) := ⟨⟨by decide +kernel, by decide +kernel⟩, List.mem_of_getElem? (i := 97) (by decide +kernel), List.mem_of_getElem? (i := 507) (by decide +kernel), List.mem_of_getElem? (i := 508) (by decide +kernel)⟩
theorem lw_p13 : lw_okq (⟨"ArmourOfTheShy", "suitsAhead", "(I)I"⟩, 12) := ⟨⟨by decide +kernel, by decide +kernel⟩, List.mem_of_getElem? (i := 14) (by decide +kernel), List.mem_of_getElem? (i := 543) (by decide +kernel), List.mem_of_getElem? (i := 544) (by decide +kernel)⟩
theorem lw_p14 : lw_okq (⟨"ArmourOfTheShy", "thinkPair", "(IIII)V"⟩, 12) := ⟨⟨by decide +kernel, by decide +kernel⟩, List.mem_of_getElem? (i := 14) (by decide +kernel), List.mem_of_getElem? (i := 561) (by decide +kernel), List.mem_of_getElem? (i := 562) (by decide +kernel)⟩
theorem lw_p15 : lw_okq (⟨"ArmourOfTheShy", "wish", "(II)I"⟩, 12) := ⟨⟨by decide +kernel, by decide +kernel⟩, List.mem_of_getElem? (i := 14) (by decide +kernel), List.mem_of_getElem? (i := 565) (by decide +kernel), List.mem_of_getElem? (i := 566) (by decide +kernel)⟩
def lw_privs_1 : List (MethodName × Nat) := [(⟨"ArmourOfTheShy", "refuse", "(I)I"⟩, 12), (⟨"ArmourOfTheShy$Letters", "fits", "(II)Z"⟩, 2), (⟨"ArmourOfTheShy", "think", "()V"⟩, 12), (⟨"ArmourOfTheShy$Letters", "digit", "(I)I"⟩, 2), (⟨"ArmourOfTheShy$Letters", "number", "(I)I"⟩, 2), (⟨"ArmourOfTheShy", "anySuit", "(I)I"⟩, 12), (⟨"ArmourOfTheShy", "anyCaller", "(I)I"⟩, 12), (⟨"ArmourOfTheShy", "inSuit", "(I)I"⟩, 12), (⟨"ArmourOfTheShy", "firstToPropose", "()I"⟩, 12), (⟨"ArmourOfTheShy", "allSaidBehind", "(I)I"⟩, 12), (⟨"ArmourOfTheShy$Dresser", "mostOn", "(LArmourOfTheShy$City;II)I"⟩, 2), (⟨"ArmourOfTheShy$Dresser", "mostWith", "(III)I"⟩, 2), (⟨"ArmourOfTheShy$Dresser", "firstBest", "(LArmourOfTheShy$City;II)I"⟩, 2), (⟨"ArmourOfTheShy", "suitsAhead", "(I)I"⟩, 12), (⟨"ArmourOfTheShy", "thinkPair", "(IIII)V"⟩, 12), (⟨"ArmourOfTheShy", "wish", "(II)I"⟩, 12)]
theorem lw_r1 : ∀ q ∈ lw_privs_1, lw_okq q := List.forall_mem_cons.mpr ⟨lw_p0, List.forall_mem_cons.mpr ⟨lw_p1, List.forall_mem_cons.mpr ⟨lw_p2, List.forall_mem_cons.mpr ⟨lw_p3, List.forall_mem_cons.mpr ⟨lw_p4, List.forall_mem_cons.mpr ⟨lw_p5, List.forall_mem_cons.mpr ⟨lw_p6, List.forall_mem_cons.mpr ⟨lw_p7, List.forall_mem_cons.mpr ⟨lw_p8, List.forall_mem_cons.mpr ⟨lw_p9, List.forall_mem_cons.mpr ⟨lw_p10, List.forall_mem_cons.mpr ⟨lw_p11, List.forall_mem_cons.mpr ⟨lw_p12, List.forall_mem_cons.mpr ⟨lw_p13, List.forall_mem_cons.mpr ⟨lw_p14, List.forall_mem_cons.mpr ⟨lw_p15, fun _ h => absurd h List.not_mem_nil⟩⟩⟩⟩⟩⟩⟩⟩⟩⟩⟩⟩⟩⟩⟩⟩
theorem lw_p16 : lw_okq (⟨"ArmourOfTheShy", "saidInRain", "(III)I"⟩, 12) := ⟨⟨by decide +kernel, by decide +kernel⟩, List.mem_of_getElem? (i := 14) (by decide +kernel), List.mem_of_getElem? (i := 577) (by decide +kernel), List.mem_of_getElem? (i := 578) (by decide +kernel)⟩
theorem lw_p17 : lw_okq (⟨"ArmourOfTheShy", "saysTheRow", "(I)Z"⟩, 12) := ⟨⟨by decide +kernel, by decide +kernel⟩, List.mem_of_getElem? (i := 14) (by decide +kernel), List.mem_of_getElem? (i := 603) (by decide +kernel), List.mem_of_getElem? (i := 604) (by decide +kernel)⟩
theorem lw_p18 : lw_okq (⟨"ArmourOfTheShyModel", "no", "(I)I"⟩, 32) := ⟨⟨by decide +kernel, by decide +kernel⟩, List.mem_of_getElem? (i := 642) (by decide +kernel), List.mem_of_getElem? (i := 754) (by decide +kernel), List.mem_of_getElem? (i := 755) (by decide +kernel)⟩
theorem lw_p19 : lw_okq (⟨"ArmourOfTheShyModel", "statement", "()Z"⟩, 32) := ⟨⟨by decide +kernel, by decide +kernel⟩, List.mem_of_getElem? (i := 642) (by decide +kernel), List.mem_of_getElem? (i := 762) (by decide +kernel), List.mem_of_getElem? (i := 763) (by decide +kernel)⟩
theorem lw_p20 : lw_okq (⟨"ArmourOfTheShyModel", "letterNow", "()I"⟩, 32) := ⟨⟨by decide +kernel, by decide +kernel⟩, List.mem_of_getElem? (i := 642) (by decide +kernel), List.mem_of_getElem? (i := 766) (by decide +kernel), List.mem_of_getElem? (i := 767) (by decide +kernel)⟩
theorem lw_p21 : lw_okq (⟨"ArmourOfTheShyModel", "readsAll", "(II)Z"⟩, 32) := ⟨⟨by decide +kernel, by decide +kernel⟩, List.mem_of_getElem? (i := 642) (by decide +kernel), List.mem_of_getElem? (i := 770) (by decide +kernel), List.mem_of_getElem? (i := 771) (by decide +kernel)⟩
theorem lw_p22 : lw_okq (⟨"ArmourOfTheShyModel", "readsSuit", "(I)Z"⟩, 32) := ⟨⟨by decide +kernel, by decide +kernel⟩, List.mem_of_getElem? (i := 642) (by decide +kernel), List.mem_of_getElem? (i := 774) (by decide +kernel), List.mem_of_getElem? (i := 775) (by decide +kernel)⟩
theorem lw_p23 : lw_okq (⟨"ArmourOfTheShyModel", "readsDigits", "(II)Z"⟩, 32) := ⟨⟨by decide +kernel, by decide +kernel⟩, List.mem_of_getElem? (i := 642) (by decide +kernel), List.mem_of_getElem? (i := 781) (by decide +kernel), List.mem_of_getElem? (i := 782) (by decide +kernel)⟩
theorem lw_p24 : lw_okq (⟨"ArmourOfTheShyModel", "passesAll", "(IZ)V"⟩, 32) := ⟨⟨by decide +kernel, by decide +kernel⟩, List.mem_of_getElem? (i := 642) (by decide +kernel), List.mem_of_getElem? (i := 788) (by decide +kernel), List.mem_of_getElem? (i := 789) (by decide +kernel)⟩
theorem lw_p25 : lw_okq (⟨"ArmourOfTheShyModel", "passes", "([I)V"⟩, 32) := ⟨⟨by decide +kernel, by decide +kernel⟩, List.mem_of_getElem? (i := 642) (by decide +kernel), List.mem_of_getElem? (i := 792) (by decide +kernel), List.mem_of_getElem? (i := 793) (by decide +kernel)⟩
theorem lw_p26 : lw_okq (⟨"ArmourOfTheShyModel", "passOne", "(I)I"⟩, 32) := ⟨⟨by decide +kernel, by decide +kernel⟩, List.mem_of_getElem? (i := 642) (by decide +kernel), List.mem_of_getElem? (i := 796) (by decide +kernel), List.mem_of_getElem? (i := 797) (by decide +kernel)⟩
theorem lw_p27 : lw_okq (⟨"ArmourOfTheShyModel", "comes", "(I)Z"⟩, 32) := ⟨⟨by decide +kernel, by decide +kernel⟩, List.mem_of_getElem? (i := 642) (by decide +kernel), List.mem_of_getElem? (i := 800) (by decide +kernel), List.mem_of_getElem? (i := 801) (by decide +kernel)⟩
theorem lw_p28 : lw_okq (⟨"ArmourOfTheShyModel", "comesSuit", "(II)Z"⟩, 32) := ⟨⟨by decide +kernel, by decide +kernel⟩, List.mem_of_getElem? (i := 642) (by decide +kernel), List.mem_of_getElem? (i := 804) (by decide +kernel), List.mem_of_getElem? (i := 805) (by decide +kernel)⟩
theorem lw_p29 : lw_okq (⟨"ArmourOfTheShyModel", "comesCaller", "(I)Z"⟩, 32) := ⟨⟨by decide +kernel, by decide +kernel⟩, List.mem_of_getElem? (i := 642) (by decide +kernel), List.mem_of_getElem? (i := 808) (by decide +kernel), List.mem_of_getElem? (i := 809) (by decide +kernel)⟩
theorem lw_p30 : lw_okq (⟨"ArmourOfTheShyModel", "comesDays", "(I)Z"⟩, 32) := ⟨⟨by decide +kernel, by decide +kernel⟩, List.mem_of_getElem? (i := 642) (by decide +kernel), List.mem_of_getElem? (i := 812) (by decide +kernel), List.mem_of_getElem? (i := 813) (by decide +kernel)⟩
theorem lw_p31 : lw_okq (⟨"ArmourOfTheShyModel", "goes", "(I)V"⟩, 32) := ⟨⟨by decide +kernel, by decide +kernel⟩, List.mem_of_getElem? (i := 642) (by decide +kernel), List.mem_of_getElem? (i := 816) (by decide +kernel), List.mem_of_getElem? (i := 817) (by decide +kernel)⟩
def lw_privs_2 : List (MethodName × Nat) := [(⟨"ArmourOfTheShy", "saidInRain", "(III)I"⟩, 12), (⟨"ArmourOfTheShy", "saysTheRow", "(I)Z"⟩, 12), (⟨"ArmourOfTheShyModel", "no", "(I)I"⟩, 32), (⟨"ArmourOfTheShyModel", "statement", "()Z"⟩, 32), (⟨"ArmourOfTheShyModel", "letterNow", "()I"⟩, 32), (⟨"ArmourOfTheShyModel", "readsAll", "(II)Z"⟩, 32), (⟨"ArmourOfTheShyModel", "readsSuit", "(I)Z"⟩, 32), (⟨"ArmourOfTheShyModel", "readsDigits", "(II)Z"⟩, 32), (⟨"ArmourOfTheShyModel", "passesAll", "(IZ)V"⟩, 32), (⟨"ArmourOfTheShyModel", "passes", "([I)V"⟩, 32), (⟨"ArmourOfTheShyModel", "passOne", "(I)I"⟩, 32), (⟨"ArmourOfTheShyModel", "comes", "(I)Z"⟩, 32), (⟨"ArmourOfTheShyModel", "comesSuit", "(II)Z"⟩, 32), (⟨"ArmourOfTheShyModel", "comesCaller", "(I)Z"⟩, 32), (⟨"ArmourOfTheShyModel", "comesDays", "(I)Z"⟩, 32), (⟨"ArmourOfTheShyModel", "goes", "(I)V"⟩, 32)]
theorem lw_r2 : ∀ q ∈ lw_privs_2, lw_okq q := List.forall_mem_cons.mpr ⟨lw_p16, List.forall_mem_cons.mpr ⟨lw_p17, List.forall_mem_cons.mpr ⟨lw_p18, List.forall_mem_cons.mpr ⟨lw_p19, List.forall_mem_cons.mpr ⟨lw_p20, List.forall_mem_cons.mpr ⟨lw_p21, List.forall_mem_cons.mpr ⟨lw_p22, List.forall_mem_cons.mpr ⟨lw_p23, List.forall_mem_cons.mpr ⟨lw_p24, List.forall_mem_cons.mpr ⟨lw_p25, List.forall_mem_cons.mpr ⟨lw_p26, List.forall_mem_cons.mpr ⟨lw_p27, List.forall_mem_cons.mpr ⟨lw_p28, List.forall_mem_cons.mpr ⟨lw_p29, List.forall_mem_cons.mpr ⟨lw_p30, List.forall_mem_cons.mpr ⟨lw_p31, fun _ h => absurd h List.not_mem_nil⟩⟩⟩⟩⟩⟩⟩⟩⟩⟩⟩⟩⟩⟩⟩⟩
theorem lw_p32 : lw_okq (⟨"ArmourOfTheShyModel", "goesDay", "()V"⟩, 32) := ⟨⟨by decide +kernel, by decide +kernel⟩, List.mem_of_getElem? (i := 642) (by decide +kernel), List.mem_of_getElem? (i := 820) (by decide +kernel), List.mem_of_getElem? (i := 821) (by decide +kernel)⟩
theorem lw_p33 : lw_okq (⟨"ArmourOfTheShyModel", "goesCaller", "(I)V"⟩, 32) := ⟨⟨by decide +kernel, by decide +kernel⟩, List.mem_of_getElem? (i := 642) (by decide +kernel), List.mem_of_getElem? (i := 824) (by decide +kernel), List.mem_of_getElem? (i := 825) (by decide +kernel)⟩
theorem lw_p34 : lw_okq (⟨"ArmourOfTheShyModel", "costs", "(I)I"⟩, 32) := ⟨⟨by decide +kernel, by decide +kernel⟩, List.mem_of_getElem? (i := 642) (by decide +kernel), List.mem_of_getElem? (i := 831) (by decide +kernel), List.mem_of_getElem? (i := 832) (by decide +kernel)⟩
theorem lw_p35 : lw_okq (⟨"ArmourOfTheShyModel", "canSay", "(I)Z"⟩, 32) := ⟨⟨by decide +kernel, by decide +kernel⟩, List.mem_of_getElem? (i := 642) (by decide +kernel), List.mem_of_getElem? (i := 835) (by decide +kernel), List.mem_of_getElem? (i := 836) (by decide +kernel)⟩
theorem lw_p36 : lw_okq (⟨"ArmourOfTheShyModel", "covers", "(I)I"⟩, 32) := ⟨⟨by decide +kernel, by decide +kernel⟩, List.mem_of_getElem? (i := 642) (by decide +kernel), List.mem_of_getElem? (i := 839) (by decide +kernel), List.mem_of_getElem? (i := 840) (by decide +kernel)⟩
theorem lw_p37 : lw_okq (⟨"ArmourOfTheShyModel", "isEnough", "(II)Z"⟩, 32) := ⟨⟨by decide +kernel, by decide +kernel⟩, List.mem_of_getElem? (i := 642) (by decide +kernel), List.mem_of_getElem? (i := 843) (by decide +kernel), List.mem_of_getElem? (i := 844) (by decide +kernel)⟩
theorem lw_p38 : lw_okq (⟨"ArmourOfTheShyModel", "courageIn", "(II)I"⟩, 32) := ⟨⟨by decide +kernel, by decide +kernel⟩, List.mem_of_getElem? (i := 642) (by decide +kernel), List.mem_of_getElem? (i := 847) (by decide +kernel), List.mem_of_getElem? (i := 848) (by decide +kernel)⟩
theorem lw_p39 : lw_okq (⟨"ArmourOfTheShyModel", "chafes", "(II)I"⟩, 32) := ⟨⟨by decide +kernel, by decide +kernel⟩, List.mem_of_getElem? (i := 642) (by decide +kernel), List.mem_of_getElem? (i := 851) (by decide +kernel), List.mem_of_getElem? (i := 852) (by decide +kernel)⟩
theorem lw_p40 : lw_okq (⟨"ArmourOfTheShyModel", "wearerOf", "(I)I"⟩, 32) := ⟨⟨by decide +kernel, by decide +kernel⟩, List.mem_of_getElem? (i := 642) (by decide +kernel), List.mem_of_getElem? (i := 855) (by decide +kernel), List.mem_of_getElem? (i := 856) (by decide +kernel)⟩
theorem lw_p41 : lw_okq (⟨"ArmourOfTheShyModel", "comesOf", "(III)Z"⟩, 32) := ⟨⟨by decide +kernel, by decide +kernel⟩, List.mem_of_getElem? (i := 642) (by decide +kernel), List.mem_of_getElem? (i := 859) (by decide +kernel), List.mem_of_getElem? (i := 860) (by decide +kernel)⟩
theorem lw_p42 : lw_okq (⟨"ArmourOfTheShyModel", "isSuit", "(I)Z"⟩, 32) := ⟨⟨by decide +kernel, by decide +kernel⟩, List.mem_of_getElem? (i := 642) (by decide +kernel), List.mem_of_getElem? (i := 863) (by decide +kernel), List.mem_of_getElem? (i := 864) (by decide +kernel)⟩
theorem lw_p43 : lw_okq (⟨"ArmourOfTheShyModel", "isCaller", "(I)Z"⟩, 32) := ⟨⟨by decide +kernel, by decide +kernel⟩, List.mem_of_getElem? (i := 642) (by decide +kernel), List.mem_of_getElem? (i := 867) (by decide +kernel), List.mem_of_getElem? (i := 868) (by decide +kernel)⟩
theorem lw_p44 : lw_okq (⟨"ArmourOfTheShyModel", "putsOn", "(II)V"⟩, 32) := ⟨⟨by decide +kernel, by decide +kernel⟩, List.mem_of_getElem? (i := 642) (by decide +kernel), List.mem_of_getElem? (i := 871) (by decide +kernel), List.mem_of_getElem? (i := 872) (by decide +kernel)⟩
theorem lw_p45 : lw_okq (⟨"ArmourOfTheShyModel", "lacks", "(I)I"⟩, 32) := ⟨⟨by decide +kernel, by decide +kernel⟩, List.mem_of_getElem? (i := 642) (by decide +kernel), List.mem_of_getElem? (i := 891) (by decide +kernel), List.mem_of_getElem? (i := 892) (by decide +kernel)⟩
theorem lw_p46 : lw_okq (⟨"ArmourOfTheShyModel", "courageOf", "(I)I"⟩, 32) := ⟨⟨by decide +kernel, by decide +kernel⟩, List.mem_of_getElem? (i := 642) (by decide +kernel), List.mem_of_getElem? (i := 895) (by decide +kernel), List.mem_of_getElem? (i := 896) (by decide +kernel)⟩
theorem lw_p47 : lw_okq (⟨"ArmourOfTheShyModel", "lower", "(I)I"⟩, 32) := ⟨⟨by decide +kernel, by decide +kernel⟩, List.mem_of_getElem? (i := 642) (by decide +kernel), List.mem_of_getElem? (i := 903) (by decide +kernel), List.mem_of_getElem? (i := 904) (by decide +kernel)⟩
def lw_privs_3 : List (MethodName × Nat) := [(⟨"ArmourOfTheShyModel", "goesDay", "()V"⟩, 32), (⟨"ArmourOfTheShyModel", "goesCaller", "(I)V"⟩, 32), (⟨"ArmourOfTheShyModel", "costs", "(I)I"⟩, 32), (⟨"ArmourOfTheShyModel", "canSay", "(I)Z"⟩, 32), (⟨"ArmourOfTheShyModel", "covers", "(I)I"⟩, 32), (⟨"ArmourOfTheShyModel", "isEnough", "(II)Z"⟩, 32), (⟨"ArmourOfTheShyModel", "courageIn", "(II)I"⟩, 32), (⟨"ArmourOfTheShyModel", "chafes", "(II)I"⟩, 32), (⟨"ArmourOfTheShyModel", "wearerOf", "(I)I"⟩, 32), (⟨"ArmourOfTheShyModel", "comesOf", "(III)Z"⟩, 32), (⟨"ArmourOfTheShyModel", "isSuit", "(I)Z"⟩, 32), (⟨"ArmourOfTheShyModel", "isCaller", "(I)Z"⟩, 32), (⟨"ArmourOfTheShyModel", "putsOn", "(II)V"⟩, 32), (⟨"ArmourOfTheShyModel", "lacks", "(I)I"⟩, 32), (⟨"ArmourOfTheShyModel", "courageOf", "(I)I"⟩, 32), (⟨"ArmourOfTheShyModel", "lower", "(I)I"⟩, 32)]
theorem lw_r3 : ∀ q ∈ lw_privs_3, lw_okq q := List.forall_mem_cons.mpr ⟨lw_p32, List.forall_mem_cons.mpr ⟨lw_p33, List.forall_mem_cons.mpr ⟨lw_p34, List.forall_mem_cons.mpr ⟨lw_p35, List.forall_mem_cons.mpr ⟨lw_p36, List.forall_mem_cons.mpr ⟨lw_p37, List.forall_mem_cons.mpr ⟨lw_p38, List.forall_mem_cons.mpr ⟨lw_p39, List.forall_mem_cons.mpr ⟨lw_p40, List.forall_mem_cons.mpr ⟨lw_p41, List.forall_mem_cons.mpr ⟨lw_p42, List.forall_mem_cons.mpr ⟨lw_p43, List.forall_mem_cons.mpr ⟨lw_p44, List.forall_mem_cons.mpr ⟨lw_p45, List.forall_mem_cons.mpr ⟨lw_p46, List.forall_mem_cons.mpr ⟨lw_p47, fun _ h => absurd h List.not_mem_nil⟩⟩⟩⟩⟩⟩⟩⟩⟩⟩⟩⟩⟩⟩⟩⟩
theorem lw_p48 : lw_okq (⟨"ArmourOfTheShyModel", "allOf", "([I)I"⟩, 32) := ⟨⟨by decide +kernel, by decide +kernel⟩, List.mem_of_getElem? (i := 642) (by decide +kernel), List.mem_of_getElem? (i := 939) (by decide +kernel), List.mem_of_getElem? (i := 940) (by decide +kernel)⟩
theorem lw_p49 : lw_okq (⟨"ArmourOfTheShyModel", "thinks", "()V"⟩, 32) := ⟨⟨by decide +kernel, by decide +kernel⟩, List.mem_of_getElem? (i := 642) (by decide +kernel), List.mem_of_getElem? (i := 950) (by decide +kernel), List.mem_of_getElem? (i := 951) (by decide +kernel)⟩
theorem lw_p50 : lw_okq (⟨"ArmourOfTheShyModel", "forgets", "()V"⟩, 32) := ⟨⟨by decide +kernel, by decide +kernel⟩, List.mem_of_getElem? (i := 642) (by decide +kernel), List.mem_of_getElem? (i := 954) (by decide +kernel), List.mem_of_getElem? (i := 955) (by decide +kernel)⟩
theorem lw_p51 : lw_okq (⟨"ArmourOfTheShyModel", "firstToPropose", "()I"⟩, 32) := ⟨⟨by decide +kernel, by decide +kernel⟩, List.mem_of_getElem? (i := 642) (by decide +kernel), List.mem_of_getElem? (i := 970) (by decide +kernel), List.mem_of_getElem? (i := 971) (by decide +kernel)⟩
theorem lw_p52 : lw_okq (⟨"ArmourOfTheShyModel", "proposesWhen", "(I)I"⟩, 32) := ⟨⟨by decide +kernel, by decide +kernel⟩, List.mem_of_getElem? (i := 642) (by decide +kernel), List.mem_of_getElem? (i := 974) (by decide +kernel), List.mem_of_getElem? (i := 975) (by decide +kernel)⟩
theorem lw_p53 : lw_okq (⟨"ArmourOfTheShyModel", "saidIn", "(I)I"⟩, 32) := ⟨⟨by decide +kernel, by decide +kernel⟩, List.mem_of_getElem? (i := 642) (by decide +kernel), List.mem_of_getElem? (i := 986) (by decide +kernel), List.mem_of_getElem? (i := 987) (by decide +kernel)⟩
theorem lw_p54 : lw_okq (⟨"ArmourOfTheShyModel", "findDressed", "()V"⟩, 32) := ⟨⟨by decide +kernel, by decide +kernel⟩, List.mem_of_getElem? (i := 642) (by decide +kernel), List.mem_of_getElem? (i := 994) (by decide +kernel), List.mem_of_getElem? (i := 995) (by decide +kernel)⟩
theorem lw_p55 : lw_okq (⟨"ArmourOfTheShyModel", "worthIn", "(II)I"⟩, 32) := ⟨⟨by decide +kernel, by decide +kernel⟩, List.mem_of_getElem? (i := 642) (by decide +kernel), List.mem_of_getElem? (i := 998) (by decide +kernel), List.mem_of_getElem? (i := 999) (by decide +kernel)⟩
theorem lw_p56 : lw_okq (⟨"ArmourOfTheShyModel", "dressedIn", "(II)I"⟩, 32) := ⟨⟨by decide +kernel, by decide +kernel⟩, List.mem_of_getElem? (i := 642) (by decide +kernel), List.mem_of_getElem? (i := 1005) (by decide +kernel), List.mem_of_getElem? (i := 1006) (by decide +kernel)⟩
theorem lw_p57 : lw_okq (⟨"ArmourOfTheShyModel", "findSuit", "(II)V"⟩, 32) := ⟨⟨by decide +kernel, by decide +kernel⟩, List.mem_of_getElem? (i := 642) (by decide +kernel), List.mem_of_getElem? (i := 1013) (by decide +kernel), List.mem_of_getElem? (i := 1014) (by decide +kernel)⟩
theorem lw_p58 : lw_okq (⟨"ArmourOfTheShyModel", "dressedOnes", "()I"⟩, 32) := ⟨⟨by decide +kernel, by decide +kernel⟩, List.mem_of_getElem? (i := 642) (by decide +kernel), List.mem_of_getElem? (i := 1025) (by decide +kernel), List.mem_of_getElem? (i := 1026) (by decide +kernel)⟩
theorem lw_p59 : lw_okq (⟨"ArmourOfTheShyModel", "proposedBy", "(II)I"⟩, 32) := ⟨⟨by decide +kernel, by decide +kernel⟩, List.mem_of_getElem? (i := 642) (by decide +kernel), List.mem_of_getElem? (i := 1029) (by decide +kernel), List.mem_of_getElem? (i := 1030) (by decide +kernel)⟩
theorem lw_p60 : lw_okq (⟨"ArmourOfTheShyModel", "findSpare", "(I)V"⟩, 32) := ⟨⟨by decide +kernel, by decide +kernel⟩, List.mem_of_getElem? (i := 642) (by decide +kernel), List.mem_of_getElem? (i := 1040) (by decide +kernel), List.mem_of_getElem? (i := 1041) (by decide +kernel)⟩
theorem lw_p61 : lw_okq (⟨"ArmourOfTheShyModel", "aheadOf", "(I)I"⟩, 32) := ⟨⟨by decide +kernel, by decide +kernel⟩, List.mem_of_getElem? (i := 642) (by decide +kernel), List.mem_of_getElem? (i := 1060) (by decide +kernel), List.mem_of_getElem? (i := 1061) (by decide +kernel)⟩
theorem lw_p62 : lw_okq (⟨"ArmourOfTheShyModel", "findGets", "(III)V"⟩, 32) := ⟨⟨by decide +kernel, by decide +kernel⟩, List.mem_of_getElem? (i := 642) (by decide +kernel), List.mem_of_getElem? (i := 1076) (by decide +kernel), List.mem_of_getElem? (i := 1077) (by decide +kernel)⟩
theorem lw_p63 : lw_okq (⟨"ArmourOfTheShyModel", "lowestOf", "(I)J"⟩, 32) := ⟨⟨by decide +kernel, by decide +kernel⟩, List.mem_of_getElem? (i := 642) (by decide +kernel), List.mem_of_getElem? (i := 1084) (by decide +kernel), List.mem_of_getElem? (i := 1085) (by decide +kernel)⟩
def lw_privs_4 : List (MethodName × Nat) := [(⟨"ArmourOfTheShyModel", "allOf", "([I)I"⟩, 32), (⟨"ArmourOfTheShyModel", "thinks", "()V"⟩, 32), (⟨"ArmourOfTheShyModel", "forgets", "()V"⟩, 32), (⟨"ArmourOfTheShyModel", "firstToPropose", "()I"⟩, 32), (⟨"ArmourOfTheShyModel", "proposesWhen", "(I)I"⟩, 32), (⟨"ArmourOfTheShyModel", "saidIn", "(I)I"⟩, 32), (⟨"ArmourOfTheShyModel", "findDressed", "()V"⟩, 32), (⟨"ArmourOfTheShyModel", "worthIn", "(II)I"⟩, 32), (⟨"ArmourOfTheShyModel", "dressedIn", "(II)I"⟩, 32), (⟨"ArmourOfTheShyModel", "findSuit", "(II)V"⟩, 32), (⟨"ArmourOfTheShyModel", "dressedOnes", "()I"⟩, 32), (⟨"ArmourOfTheShyModel", "proposedBy", "(II)I"⟩, 32), (⟨"ArmourOfTheShyModel", "findSpare", "(I)V"⟩, 32), (⟨"ArmourOfTheShyModel", "aheadOf", "(I)I"⟩, 32), (⟨"ArmourOfTheShyModel", "findGets", "(III)V"⟩, 32), (⟨"ArmourOfTheShyModel", "lowestOf", "(I)J"⟩, 32)]
theorem lw_r4 : ∀ q ∈ lw_privs_4, lw_okq q := List.forall_mem_cons.mpr ⟨lw_p48, List.forall_mem_cons.mpr ⟨lw_p49, List.forall_mem_cons.mpr ⟨lw_p50, List.forall_mem_cons.mpr ⟨lw_p51, List.forall_mem_cons.mpr ⟨lw_p52, List.forall_mem_cons.mpr ⟨lw_p53, List.forall_mem_cons.mpr ⟨lw_p54, List.forall_mem_cons.mpr ⟨lw_p55, List.forall_mem_cons.mpr ⟨lw_p56, List.forall_mem_cons.mpr ⟨lw_p57, List.forall_mem_cons.mpr ⟨lw_p58, List.forall_mem_cons.mpr ⟨lw_p59, List.forall_mem_cons.mpr ⟨lw_p60, List.forall_mem_cons.mpr ⟨lw_p61, List.forall_mem_cons.mpr ⟨lw_p62, List.forall_mem_cons.mpr ⟨lw_p63, fun _ h => absurd h List.not_mem_nil⟩⟩⟩⟩⟩⟩⟩⟩⟩⟩⟩⟩⟩⟩⟩⟩
theorem lw_p64 : lw_okq (⟨"ArmourOfTheShyModel", "rains", "()V"⟩, 32) := ⟨⟨by decide +kernel, by decide +kernel⟩, List.mem_of_getElem? (i := 642) (by decide +kernel), List.mem_of_getElem? (i := 1089) (by decide +kernel), List.mem_of_getElem? (i := 1090) (by decide +kernel)⟩
theorem lw_p65 : lw_okq (⟨"ArmourOfTheShyModel", "bitsFor", "([IIII)I"⟩, 32) := ⟨⟨by decide +kernel, by decide +kernel⟩, List.mem_of_getElem? (i := 642) (by decide +kernel), List.mem_of_getElem? (i := 1107) (by decide +kernel), List.mem_of_getElem? (i := 1108) (by decide +kernel)⟩
theorem lw_p66 : lw_okq (⟨"ArmourOfTheShyModel", "isSo", "(I)Z"⟩, 32) := ⟨⟨by decide +kernel, by decide +kernel⟩, List.mem_of_getElem? (i := 642) (by decide +kernel), List.mem_of_getElem? (i := 1111) (by decide +kernel), List.mem_of_getElem? (i := 1112) (by decide +kernel)⟩
theorem lw_p67 : lw_okq (⟨"ArmourOfTheShyModel", "draw", "(I)I"⟩, 32) := ⟨⟨by decide +kernel, by decide +kernel⟩, List.mem_of_getElem? (i := 642) (by decide +kernel), List.mem_of_getElem? (i := 1131) (by decide +kernel), List.mem_of_getElem? (i := 1132) (by decide +kernel)⟩
def lw_privs_5 : List (MethodName × Nat) := [(⟨"ArmourOfTheShyModel", "rains", "()V"⟩, 32), (⟨"ArmourOfTheShyModel", "bitsFor", "([IIII)I"⟩, 32), (⟨"ArmourOfTheShyModel", "isSo", "(I)Z"⟩, 32), (⟨"ArmourOfTheShyModel", "draw", "(I)I"⟩, 32)]
theorem lw_r5 : ∀ q ∈ lw_privs_5, lw_okq q := List.forall_mem_cons.mpr ⟨lw_p64, List.forall_mem_cons.mpr ⟨lw_p65, List.forall_mem_cons.mpr ⟨lw_p66, List.forall_mem_cons.mpr ⟨lw_p67, fun _ h => absurd h List.not_mem_nil⟩⟩⟩⟩
def lw_privs : List (MethodName × Nat) := lw_privs_1 ++ (lw_privs_2 ++ (lw_privs_3 ++ (lw_privs_4 ++ (lw_privs_5))))
def lw_tbl : List Cond := k2_sels lw_privs ++ tables_1
theorem lw_privs_ok : ∀ q ∈ lw_privs, lw_okq q := by
  show ∀ q ∈ lw_privs_1 ++ (lw_privs_2 ++ (lw_privs_3 ++ (lw_privs_4 ++ (lw_privs_5)))), lw_okq q
  exact List.forall_mem_append.mpr ⟨lw_r1, List.forall_mem_append.mpr ⟨lw_r2, List.forall_mem_append.mpr ⟨lw_r3, List.forall_mem_append.mpr ⟨lw_r4, lw_r5⟩⟩⟩⟩
-- ===== end of PART A; then your names; then what follows =====
/-! ===== BEGIN words of one list among another's, by their places ===== -/
theorem goodIn_r {big : List Cond} (ws : List Cond) (ps : List Nat) (hp : ws = ps.filterMap (fun i => big[i]?)) (h : ws.all goodWord = true) : GoodIn big ws := by
  intro w hw
  have h1 := List.all_eq_true.mp h w hw
  rw [hp] at hw
  obtain ⟨i, -, hi⟩ := List.mem_filterMap.mp hw
  have hm : w ∈ big := by first | exact List.mem_of_getElem? hi | exact List.getElem?_mem hi
  exact ⟨hm, good_of_word h1⟩
theorem goodIn_app {big a b : List Cond} (ha : GoodIn big a) (hb : GoodIn big b) : GoodIn big (a ++ b) := fun w h => (List.mem_append.mp h).elim (ha w) (hb w)
theorem goodIn_ca {big a b : List Cond} {c : Cond} (ha : GoodIn big (c :: a)) (hb : GoodIn big b) : GoodIn big (c :: (a ++ b)) := fun w h => (List.mem_cons.mp h).elim (fun e => ha w (List.mem_cons.mpr (Or.inl e))) (fun h => (List.mem_append.mp h).elim (fun h => ha w (List.mem_cons.mpr (Or.inr h))) (hb w))
theorem goodIn_sub {big ws : List Cond} (hm : ∀ w ∈ ws, w ∈ big) (h : ws.all goodWord = true) : GoodIn big ws := fun w hw => ⟨hm w hw, good_of_word (List.all_eq_true.mp h w hw)⟩
/-! ===== END ===== -/

/-! ===== BEGIN printed: names, fields, word lists, decode rows ===== -/
def RX0 : String := "ArmourOfTheShy$City"
def TX0 : u_T := fun k => match k with
  | 0 => ("ArmourOfTheShy$City", "kind", "[I", true)
  | 1 => ("ArmourOfTheShy$City", "figure", "[I", true)
  | 2 => ("ArmourOfTheShy$City", "rust", "[I", true)
  | 3 => ("ArmourOfTheShy$City", "fear", "[I", true)
  | 4 => ("ArmourOfTheShy$City", "sore", "[I", true)
  | 5 => ("ArmourOfTheShy$City", "said", "[I", true)
  | 6 => ("ArmourOfTheShy$City", "suitOf", "[I", true)
  | 7 => ("ArmourOfTheShy$City", "suits", "I", false)
  | 8 => ("ArmourOfTheShy$City", "callers", "I", false)
  | 9 => ("ArmourOfTheShy$City", "paid", "I", false)
  | _ => ("ArmourOfTheShy$City", "day", "I", false)
def tyX0 : Nat → FieldType := fun k => match k with
  | 0 => .array .int
  | 1 => .array .int
  | 2 => .array .int
  | 3 => .array .int
  | 4 => .array .int
  | 5 => .array .int
  | 6 => .array .int
  | 7 => .int
  | 8 => .int
  | 9 => .int
  | _ => .int
abbrev wsX00 : List Cond := u_ws RX0 TX0 11
theorem nmX0 : ∀ a, a < 11 → ∀ b, b < 11 → a ≠ b → (TX0 a).2.1 ≠ (TX0 b).2.1 := by decide +kernel
theorem tyX0_ok : ∀ k, k < 11 → parseFieldDescriptor (TX0 k).2.2.1 = some (tyX0 k) := by decide +kernel
abbrev cX0_init : ByteArray := prog_2_method_1_code
def yX0_init : MethodName := ⟨RX0, "<init>", "()V"⟩
abbrev cX0_copyFrom : ByteArray := prog_2_method_2_code
def yX0_copyFrom : MethodName := ⟨RX0, "copyFrom", "(LArmourOfTheShy$City;)V"⟩
abbrev cX0_addSuit : ByteArray := prog_2_method_3_code
def yX0_addSuit : MethodName := ⟨RX0, "addSuit", "(II)Z"⟩
abbrev cX0_addCaller : ByteArray := prog_2_method_4_code
def yX0_addCaller : MethodName := ⟨RX0, "addCaller", "(I)Z"⟩
abbrev cX0_putIn : ByteArray := prog_2_method_5_code
def yX0_putIn : MethodName := ⟨RX0, "putIn", "(II)V"⟩
abbrev cX0_wearer : ByteArray := prog_2_method_6_code
def yX0_wearer : MethodName := ⟨RX0, "wearer", "(I)I"⟩
abbrev cX0_covers : ByteArray := prog_2_method_7_code
def yX0_covers : MethodName := ⟨RX0, "covers", "(I)I"⟩
abbrev cX0_coversWith : ByteArray := prog_2_method_8_code
def yX0_coversWith : MethodName := ⟨RX0, "coversWith", "(II)I"⟩
abbrev cX0_chafe : ByteArray := prog_2_method_9_code
def yX0_chafe : MethodName := ⟨RX0, "chafe", "(II)I"⟩
abbrev cX0_bravery : ByteArray := prog_2_method_10_code
def yX0_bravery : MethodName := ⟨RX0, "bravery", "(I)I"⟩
abbrev cX0_braveryCovered : ByteArray := prog_2_method_11_code
def yX0_braveryCovered : MethodName := ⟨RX0, "braveryCovered", "(II)I"⟩
abbrev cX0_can : ByteArray := prog_2_method_12_code
def yX0_can : MethodName := ⟨RX0, "can", "(I)Z"⟩
abbrev cX0_canCovered : ByteArray := prog_2_method_13_code
def yX0_canCovered : MethodName := ⟨RX0, "canCovered", "(II)Z"⟩
abbrev cX0_needs : ByteArray := prog_2_method_14_code
def yX0_needs : MethodName := ⟨RX0, "needs", "(I)I"⟩
abbrev cX0_lacks : ByteArray := prog_2_method_15_code
def yX0_lacks : MethodName := ⟨RX0, "lacks", "(I)I"⟩
abbrev cX0_passDays : ByteArray := prog_2_method_16_code
def yX0_passDays : MethodName := ⟨RX0, "passDays", "(I)V"⟩
abbrev cX0_passDayOf : ByteArray := prog_2_method_17_code
def yX0_passDayOf : MethodName := ⟨RX0, "passDayOf", "(I)V"⟩
abbrev cX0_liveDay : ByteArray := prog_2_method_18_code
def yX0_liveDay : MethodName := ⟨RX0, "liveDay", "(I)V"⟩
abbrev cX0_rustUnworn : ByteArray := prog_2_method_19_code
def yX0_rustUnworn : MethodName := ⟨RX0, "rustUnworn", "()V"⟩
abbrev cX0_rainOnAll : ByteArray := prog_2_method_20_code
def yX0_rainOnAll : MethodName := ⟨RX0, "rainOnAll", "()V"⟩
abbrev cX0_allSaid : ByteArray := prog_2_method_21_code
def yX0_allSaid : MethodName := ⟨RX0, "allSaid", "()I"⟩
abbrev cX0_allFear : ByteArray := prog_2_method_22_code
def yX0_allFear : MethodName := ⟨RX0, "allFear", "()I"⟩
def RX1 : String := "ArmourOfTheShy$Dresser"
def TX1 : u_T := fun k => match k with
  | 0 => ("ArmourOfTheShy$Dresser", "best", "[I", true)
  | _ => ("ArmourOfTheShy$Dresser", "canIn", "[I", true)
def tyX1 : Nat → FieldType := fun k => match k with
  | 0 => .array .int
  | _ => .array .int
abbrev wsX10 : List Cond := u_ws RX1 TX1 2
theorem nmX1 : ∀ a, a < 2 → ∀ b, b < 2 → a ≠ b → (TX1 a).2.1 ≠ (TX1 b).2.1 := by decide +kernel
theorem tyX1_ok : ∀ k, k < 2 → parseFieldDescriptor (TX1 k).2.2.1 = some (tyX1 k) := by decide +kernel
abbrev cX1_init : ByteArray := prog_3_method_1_code
def yX1_init : MethodName := ⟨RX1, "<init>", "()V"⟩
abbrev cX1_most : ByteArray := prog_3_method_2_code
def yX1_most : MethodName := ⟨RX1, "most", "(LArmourOfTheShy$City;)I"⟩
abbrev cX1_suitFor : ByteArray := prog_3_method_3_code
def yX1_suitFor : MethodName := ⟨RX1, "suitFor", "(LArmourOfTheShy$City;I)I"⟩
abbrev cX1_bitsOfCan : ByteArray := prog_3_method_4_code
def yX1_bitsOfCan : MethodName := ⟨RX1, "bitsOfCan", "(LArmourOfTheShy$City;I)I"⟩
abbrev cX1_mostOn : ByteArray := prog_3_method_5_code
def yX1_mostOn : MethodName := ⟨RX1, "mostOn", "(LArmourOfTheShy$City;II)I"⟩
abbrev cX1_mostWith : ByteArray := prog_3_method_6_code
def yX1_mostWith : MethodName := ⟨RX1, "mostWith", "(III)I"⟩
abbrev cX1_firstBest : ByteArray := prog_3_method_7_code
def yX1_firstBest : MethodName := ⟨RX1, "firstBest", "(LArmourOfTheShy$City;II)I"⟩
def RX2 : String := "ArmourOfTheShy$Letters"
def TX2 : u_T := fun k => match k with
  | 0 => ("ArmourOfTheShy$Letters", "signs", "[C", true)
  | _ => ("ArmourOfTheShy$Letters", "count", "I", false)
def tyX2 : Nat → FieldType := fun k => match k with
  | 0 => .array .char
  | _ => .int
abbrev wsX20 : List Cond := u_ws RX2 TX2 2
theorem nmX2 : ∀ a, a < 2 → ∀ b, b < 2 → a ≠ b → (TX2 a).2.1 ≠ (TX2 b).2.1 := by decide +kernel
theorem tyX2_ok : ∀ k, k < 2 → parseFieldDescriptor (TX2 k).2.2.1 = some (tyX2 k) := by decide +kernel
abbrev cX2_init : ByteArray := prog_4_method_1_code
def yX2_init : MethodName := ⟨RX2, "<init>", "()V"⟩
abbrev cX2_add : ByteArray := prog_4_method_2_code
def yX2_add : MethodName := ⟨RX2, "add", "(I)I"⟩
abbrev cX2_wrongPlace : ByteArray := prog_4_method_3_code
def yX2_wrongPlace : MethodName := ⟨RX2, "wrongPlace", "()I"⟩
abbrev cX2_fits : ByteArray := prog_4_method_4_code
def yX2_fits : MethodName := ⟨RX2, "fits", "(II)Z"⟩
abbrev cX2_signsBehind : ByteArray := prog_4_method_5_code
def yX2_signsBehind : MethodName := ⟨RX2, "signsBehind", "(I)I"⟩
abbrev cX2_lengthAt : ByteArray := prog_4_method_6_code
def yX2_lengthAt : MethodName := ⟨RX2, "lengthAt", "(I)I"⟩
abbrev cX2_takes : ByteArray := prog_4_method_7_code
def yX2_takes : MethodName := ⟨RX2, "takes", "(LArmourOfTheShy$City;I)Z"⟩
abbrev cX2_digit : ByteArray := prog_4_method_8_code
def yX2_digit : MethodName := ⟨RX2, "digit", "(I)I"⟩
abbrev cX2_number : ByteArray := prog_4_method_9_code
def yX2_number : MethodName := ⟨RX2, "number", "(I)I"⟩
abbrev cX2_takesWearing : ByteArray := prog_4_method_10_code
def yX2_takesWearing : MethodName := ⟨RX2, "takesWearing", "(LArmourOfTheShy$City;II)Z"⟩
abbrev cX2_takesUndressing : ByteArray := prog_4_method_11_code
def yX2_takesUndressing : MethodName := ⟨RX2, "takesUndressing", "(LArmourOfTheShy$City;I)Z"⟩
abbrev cX2_takesFear : ByteArray := prog_4_method_12_code
def yX2_takesFear : MethodName := ⟨RX2, "takesFear", "(LArmourOfTheShy$City;II)Z"⟩
abbrev cX2_takesRust : ByteArray := prog_4_method_13_code
def yX2_takesRust : MethodName := ⟨RX2, "takesRust", "(LArmourOfTheShy$City;II)Z"⟩
def RX3 : String := "ArmourOfTheShy"
def TX3 : u_T := fun k => match k with
  | 0 => ("ArmourOfTheShy", "now", "LArmourOfTheShy$City;", true)
  | 1 => ("ArmourOfTheShy", "thought", "LArmourOfTheShy$City;", true)
  | 2 => ("ArmourOfTheShy", "kept", "LArmourOfTheShy$City;", true)
  | 3 => ("ArmourOfTheShy", "isKept", "Z", false)
  | 4 => ("ArmourOfTheShy", "letters", "LArmourOfTheShy$Letters;", true)
  | 5 => ("ArmourOfTheShy", "dresser", "LArmourOfTheShy$Dresser;", true)
  | 6 => ("ArmourOfTheShy", "told", "[I", true)
  | 7 => ("ArmourOfTheShy", "toldCount", "I", false)
  | 8 => ("ArmourOfTheShy", "refusals", "[I", true)
  | 9 => ("ArmourOfTheShy", "totals", "[I", true)
  | 10 => ("ArmourOfTheShy", "firstWish", "[I", true)
  | _ => ("ArmourOfTheShy", "otherWish", "[I", true)
def tyX3 : Nat → FieldType := fun k => match k with
  | 0 => .object "ArmourOfTheShy$City"
  | 1 => .object "ArmourOfTheShy$City"
  | 2 => .object "ArmourOfTheShy$City"
  | 3 => .boolean
  | 4 => .object "ArmourOfTheShy$Letters"
  | 5 => .object "ArmourOfTheShy$Dresser"
  | 6 => .array .int
  | 7 => .int
  | 8 => .array .int
  | 9 => .array .int
  | 10 => .array .int
  | _ => .array .int
abbrev wsX30 : List Cond := u_ws RX3 TX3 12
theorem nmX3 : ∀ a, a < 12 → ∀ b, b < 12 → a ≠ b → (TX3 a).2.1 ≠ (TX3 b).2.1 := by decide +kernel
theorem tyX3_ok : ∀ k, k < 12 → parseFieldDescriptor (TX3 k).2.2.1 = some (tyX3 k) := by decide +kernel
abbrev cX3_init : ByteArray := prog_1_method_1_code
def yX3_init : MethodName := ⟨RX3, "<init>", "()V"⟩
abbrev cX3_letter : ByteArray := prog_1_method_2_code
def yX3_letter : MethodName := ⟨RX3, "letter", "(I)I"⟩
abbrev cX3_city : ByteArray := prog_1_method_3_code
def yX3_city : MethodName := ⟨RX3, "city", "()I"⟩
abbrev cX3_suit : ByteArray := prog_1_method_4_code
def yX3_suit : MethodName := ⟨RX3, "suit", "(II)I"⟩
abbrev cX3_caller : ByteArray := prog_1_method_5_code
def yX3_caller : MethodName := ⟨RX3, "caller", "(II)I"⟩
abbrev cX3_courage : ByteArray := prog_1_method_6_code
def yX3_courage : MethodName := ⟨RX3, "courage", "(I)I"⟩
abbrev cX3_wears : ByteArray := prog_1_method_7_code
def yX3_wears : MethodName := ⟨RX3, "wears", "(II)I"⟩
abbrev cX3_takesOff : ByteArray := prog_1_method_8_code
def yX3_takesOff : MethodName := ⟨RX3, "takesOff", "(I)I"⟩
abbrev cX3_fears : ByteArray := prog_1_method_9_code
def yX3_fears : MethodName := ⟨RX3, "fears", "(II)I"⟩
abbrev cX3_rusts : ByteArray := prog_1_method_10_code
def yX3_rusts : MethodName := ⟨RX3, "rusts", "(II)I"⟩
abbrev cX3_soothes : ByteArray := prog_1_method_11_code
def yX3_soothes : MethodName := ⟨RX3, "soothes", "(II)I"⟩
abbrev cX3_turn : ByteArray := prog_1_method_12_code
def yX3_turn : MethodName := ⟨RX3, "turn", "(III)I"⟩
abbrev cX3_days : ByteArray := prog_1_method_13_code
def yX3_days : MethodName := ⟨RX3, "days", "(I)I"⟩
abbrev cX3_callerThen : ByteArray := prog_1_method_14_code
def yX3_callerThen : MethodName := ⟨RX3, "callerThen", "(III)I"⟩
abbrev cX3_suitThen : ByteArray := prog_1_method_15_code
def yX3_suitThen : MethodName := ⟨RX3, "suitThen", "(II)I"⟩
abbrev cX3_cost : ByteArray := prog_1_method_16_code
def yX3_cost : MethodName := ⟨RX3, "cost", "(I)I"⟩
abbrev cX3_proposes : ByteArray := prog_1_method_17_code
def yX3_proposes : MethodName := ⟨RX3, "proposes", "(I)I"⟩
abbrev cX3_out : ByteArray := prog_1_method_18_code
def yX3_out : MethodName := ⟨RX3, "out", "(I)I"⟩
abbrev cX3_still : ByteArray := prog_1_method_19_code
def yX3_still : MethodName := ⟨RX3, "still", "()I"⟩
abbrev cX3_dress : ByteArray := prog_1_method_20_code
def yX3_dress : MethodName := ⟨RX3, "dress", "(I)I"⟩
abbrev cX3_suitBest : ByteArray := prog_1_method_21_code
def yX3_suitBest : MethodName := ⟨RX3, "suitBest", "(III)I"⟩
abbrev cX3_change : ByteArray := prog_1_method_22_code
def yX3_change : MethodName := ⟨RX3, "change", "(I)I"⟩
abbrev cX3_fewest : ByteArray := prog_1_method_23_code
def yX3_fewest : MethodName := ⟨RX3, "fewest", "(I)I"⟩
abbrev cX3_spare : ByteArray := prog_1_method_24_code
def yX3_spare : MethodName := ⟨RX3, "spare", "(II)I"⟩
abbrev cX3_cheer : ByteArray := prog_1_method_25_code
def yX3_cheer : MethodName := ⟨RX3, "cheer", "(I)I"⟩
abbrev cX3_boldest : ByteArray := prog_1_method_26_code
def yX3_boldest : MethodName := ⟨RX3, "boldest", "(I)I"⟩
abbrev cX3_left : ByteArray := prog_1_method_27_code
def yX3_left : MethodName := ⟨RX3, "left", "()I"⟩
abbrev cX3_order : ByteArray := prog_1_method_28_code
def yX3_order : MethodName := ⟨RX3, "order", "(I)I"⟩
abbrev cX3_heard : ByteArray := prog_1_method_29_code
def yX3_heard : MethodName := ⟨RX3, "heard", "(I)I"⟩
abbrev cX3_rusted : ByteArray := prog_1_method_30_code
def yX3_rusted : MethodName := ⟨RX3, "rusted", "(I)I"⟩
abbrev cX3_two : ByteArray := prog_1_method_31_code
def yX3_two : MethodName := ⟨RX3, "two", "(III)I"⟩
abbrev cX3_rain : ByteArray := prog_1_method_32_code
def yX3_rain : MethodName := ⟨RX3, "rain", "(IIIII)J"⟩
abbrev cX3_mean : ByteArray := prog_1_method_33_code
def yX3_mean : MethodName := ⟨RX3, "mean", "(I)J"⟩
abbrev cX3_whatIs : ByteArray := prog_1_method_34_code
def yX3_whatIs : MethodName := ⟨RX3, "whatIs", "(II)I"⟩
abbrev cX3_row : ByteArray := prog_1_method_35_code
def yX3_row : MethodName := ⟨RX3, "row", "(I)I"⟩
abbrev cX3_judge : ByteArray := prog_1_method_36_code
def yX3_judge : MethodName := ⟨RX3, "judge", "()I"⟩
abbrev cX3_clear : ByteArray := prog_1_method_37_code
def yX3_clear : MethodName := ⟨RX3, "clear", "()I"⟩
abbrev cX3_lots : ByteArray := prog_1_method_38_code
def yX3_lots : MethodName := ⟨RX3, "lots", "(III)I"⟩
abbrev cX3_image : ByteArray := prog_1_method_39_code
def yX3_image : MethodName := ⟨RX3, "image", "()I"⟩
abbrev cX3_on : ByteArray := prog_1_method_40_code
def yX3_on : MethodName := ⟨RX3, "on", "()I"⟩
abbrev cX3_count : ByteArray := prog_1_method_41_code
def yX3_count : MethodName := ⟨RX3, "count", "(I)I"⟩
abbrev cX3_refuse : ByteArray := prog_1_method_42_code
def yX3_refuse : MethodName := ⟨RX3, "refuse", "(I)I"⟩
abbrev cX3_firstOf : ByteArray := prog_1_method_43_code
def yX3_firstOf : MethodName := ⟨RX3, "firstOf", "(III)I"⟩
abbrev cX3_range : ByteArray := prog_1_method_44_code
def yX3_range : MethodName := ⟨RX3, "range", "(III)I"⟩
abbrev cX3_anyOf : ByteArray := prog_1_method_45_code
def yX3_anyOf : MethodName := ⟨RX3, "anyOf", "(II)I"⟩
abbrev cX3_anySuit : ByteArray := prog_1_method_46_code
def yX3_anySuit : MethodName := ⟨RX3, "anySuit", "(I)I"⟩
abbrev cX3_anyCaller : ByteArray := prog_1_method_47_code
def yX3_anyCaller : MethodName := ⟨RX3, "anyCaller", "(I)I"⟩
abbrev cX3_inSuit : ByteArray := prog_1_method_48_code
def yX3_inSuit : MethodName := ⟨RX3, "inSuit", "(I)I"⟩
abbrev cX3_rainRange : ByteArray := prog_1_method_49_code
def yX3_rainRange : MethodName := ⟨RX3, "rainRange", "(III)I"⟩
abbrev cX3_think : ByteArray := prog_1_method_50_code
def yX3_think : MethodName := ⟨RX3, "think", "()V"⟩
abbrev cX3_allSaidBehind : ByteArray := prog_1_method_51_code
def yX3_allSaidBehind : MethodName := ⟨RX3, "allSaidBehind", "(I)I"⟩
abbrev cX3_firstToPropose : ByteArray := prog_1_method_52_code
def yX3_firstToPropose : MethodName := ⟨RX3, "firstToPropose", "()I"⟩
abbrev cX3_suitsAhead : ByteArray := prog_1_method_53_code
def yX3_suitsAhead : MethodName := ⟨RX3, "suitsAhead", "(I)I"⟩
abbrev cX3_thinkPair : ByteArray := prog_1_method_54_code
def yX3_thinkPair : MethodName := ⟨RX3, "thinkPair", "(IIII)V"⟩
abbrev cX3_wish : ByteArray := prog_1_method_55_code
def yX3_wish : MethodName := ⟨RX3, "wish", "(II)I"⟩
abbrev cX3_saidInRain : ByteArray := prog_1_method_56_code
def yX3_saidInRain : MethodName := ⟨RX3, "saidInRain", "(III)I"⟩
abbrev cX3_waysOfRain : ByteArray := prog_1_method_57_code
def yX3_waysOfRain : MethodName := ⟨RX3, "waysOfRain", "(III)J"⟩
abbrev cX3_partOf : ByteArray := prog_1_method_58_code
def yX3_partOf : MethodName := ⟨RX3, "partOf", "(JJI)J"⟩
abbrev cX3_saysTheRow : ByteArray := prog_1_method_59_code
def yX3_saysTheRow : MethodName := ⟨RX3, "saysTheRow", "(I)Z"⟩
def RX4 : String := "ArmourOfTheShyModel"
def TX4 : u_T := fun k => match k with
  | 0 => ("ArmourOfTheShyModel", "refused", "[I", true)
  | 1 => ("ArmourOfTheShyModel", "kind", "[I", true)
  | 2 => ("ArmourOfTheShyModel", "figure", "[I", true)
  | 3 => ("ArmourOfTheShyModel", "rust", "[I", true)
  | 4 => ("ArmourOfTheShyModel", "fear", "[I", true)
  | 5 => ("ArmourOfTheShyModel", "sore", "[I", true)
  | 6 => ("ArmourOfTheShyModel", "said", "[I", true)
  | 7 => ("ArmourOfTheShyModel", "worn", "[I", true)
  | 8 => ("ArmourOfTheShyModel", "suits", "I", false)
  | 9 => ("ArmourOfTheShyModel", "callers", "I", false)
  | 10 => ("ArmourOfTheShyModel", "paid", "I", false)
  | 11 => ("ArmourOfTheShyModel", "day", "I", false)
  | 12 => ("ArmourOfTheShyModel", "tape", "[I", true)
  | 13 => ("ArmourOfTheShyModel", "letter", "[I", true)
  | 14 => ("ArmourOfTheShyModel", "letterAt", "[I", true)
  | 15 => ("ArmourOfTheShyModel", "told", "[I", true)
  | 16 => ("ArmourOfTheShyModel", "taped", "I", false)
  | 17 => ("ArmourOfTheShyModel", "at", "I", false)
  | 18 => ("ArmourOfTheShyModel", "statements", "I", false)
  | 19 => ("ArmourOfTheShyModel", "kept", "[I", true)
  | 20 => ("ArmourOfTheShyModel", "hasImage", "Z", false)
  | 21 => ("ArmourOfTheShyModel", "isKeeping", "Z", false)
  | 22 => ("ArmourOfTheShyModel", "cursor", "I", false)
  | 23 => ("ArmourOfTheShyModel", "dressed", "[[I", true)
  | 24 => ("ArmourOfTheShyModel", "bestSuit", "I", false)
  | 25 => ("ArmourOfTheShyModel", "bestSaid", "I", false)
  | 26 => ("ArmourOfTheShyModel", "spareOne", "I", false)
  | 27 => ("ArmourOfTheShyModel", "spareSaid", "I", false)
  | 28 => ("ArmourOfTheShyModel", "gets", "[I", true)
  | 29 => ("ArmourOfTheShyModel", "row", "[I", true)
  | 30 => ("ArmourOfTheShyModel", "rowMany", "I", false)
  | _ => ("ArmourOfTheShyModel", "lots", "I", false)
def tyX4 : Nat → FieldType := fun k => match k with
  | 0 => .array .int
  | 1 => .array .int
  | 2 => .array .int
  | 3 => .array .int
  | 4 => .array .int
  | 5 => .array .int
  | 6 => .array .int
  | 7 => .array .int
  | 8 => .int
  | 9 => .int
  | 10 => .int
  | 11 => .int
  | 12 => .array .int
  | 13 => .array .int
  | 14 => .array .int
  | 15 => .array .int
  | 16 => .int
  | 17 => .int
  | 18 => .int
  | 19 => .array .int
  | 20 => .boolean
  | 21 => .boolean
  | 22 => .int
  | 23 => .array (.array .int)
  | 24 => .int
  | 25 => .int
  | 26 => .int
  | 27 => .int
  | 28 => .array .int
  | 29 => .array .int
  | 30 => .int
  | _ => .int
abbrev wsX40 : List Cond := u_ws RX4 TX4 32
theorem nmX4 : ∀ a, a < 32 → ∀ b, b < 32 → a ≠ b → (TX4 a).2.1 ≠ (TX4 b).2.1 := by decide +kernel
theorem tyX4_ok : ∀ k, k < 32 → parseFieldDescriptor (TX4 k).2.2.1 = some (tyX4 k) := by decide +kernel
abbrev cX4_init : ByteArray := prog_6_method_1_code
def yX4_init : MethodName := ⟨RX4, "<init>", "()V"⟩
abbrev cX4_no : ByteArray := prog_6_method_2_code
def yX4_no : MethodName := ⟨RX4, "no", "(I)I"⟩
abbrev cX4_lower : ByteArray := prog_6_method_3_code
def yX4_lower : MethodName := ⟨RX4, "lower", "(I)I"⟩
abbrev cX4_lowestOf : ByteArray := prog_6_method_4_code
def yX4_lowestOf : MethodName := ⟨RX4, "lowestOf", "(I)J"⟩
abbrev cX4_isIn : ByteArray := prog_6_method_5_code
def yX4_isIn : MethodName := ⟨RX4, "isIn", "(III)Z"⟩
abbrev cX4_bound : ByteArray := prog_6_method_6_code
def yX4_bound : MethodName := ⟨RX4, "bound", "(III)I"⟩
abbrev cX4_held : ByteArray := prog_6_method_7_code
def yX4_held : MethodName := ⟨RX4, "held", "(II)I"⟩
abbrev cX4_has : ByteArray := prog_6_method_8_code
def yX4_has : MethodName := ⟨RX4, "has", "(II)Z"⟩
abbrev cX4_bits : ByteArray := prog_6_method_9_code
def yX4_bits : MethodName := ⟨RX4, "bits", "(I)I"⟩
abbrev cX4_isSuit : ByteArray := prog_6_method_10_code
def yX4_isSuit : MethodName := ⟨RX4, "isSuit", "(I)Z"⟩
abbrev cX4_isCaller : ByteArray := prog_6_method_11_code
def yX4_isCaller : MethodName := ⟨RX4, "isCaller", "(I)Z"⟩
abbrev cX4_letter : ByteArray := prog_6_method_12_code
def yX4_letter : MethodName := ⟨RX4, "letter", "(I)I"⟩
abbrev cX4_letterNow : ByteArray := prog_6_method_13_code
def yX4_letterNow : MethodName := ⟨RX4, "letterNow", "()I"⟩
abbrev cX4_readsDigits : ByteArray := prog_6_method_14_code
def yX4_readsDigits : MethodName := ⟨RX4, "readsDigits", "(II)Z"⟩
abbrev cX4_kindOf : ByteArray := prog_6_method_15_code
def yX4_kindOf : MethodName := ⟨RX4, "kindOf", "(I)I"⟩
abbrev cX4_readsSuit : ByteArray := prog_6_method_16_code
def yX4_readsSuit : MethodName := ⟨RX4, "readsSuit", "(I)Z"⟩
abbrev cX4_readsAll : ByteArray := prog_6_method_17_code
def yX4_readsAll : MethodName := ⟨RX4, "readsAll", "(II)Z"⟩
abbrev cX4_statement : ByteArray := prog_6_method_18_code
def yX4_statement : MethodName := ⟨RX4, "statement", "()Z"⟩
abbrev cX4_comesSuit : ByteArray := prog_6_method_19_code
def yX4_comesSuit : MethodName := ⟨RX4, "comesSuit", "(II)Z"⟩
abbrev cX4_comesCaller : ByteArray := prog_6_method_20_code
def yX4_comesCaller : MethodName := ⟨RX4, "comesCaller", "(I)Z"⟩
abbrev cX4_comesOf : ByteArray := prog_6_method_21_code
def yX4_comesOf : MethodName := ⟨RX4, "comesOf", "(III)Z"⟩
abbrev cX4_comesDays : ByteArray := prog_6_method_22_code
def yX4_comesDays : MethodName := ⟨RX4, "comesDays", "(I)Z"⟩
abbrev cX4_comes : ByteArray := prog_6_method_23_code
def yX4_comes : MethodName := ⟨RX4, "comes", "(I)Z"⟩
abbrev cX4_city : ByteArray := prog_6_method_24_code
def yX4_city : MethodName := ⟨RX4, "city", "()I"⟩
abbrev cX4_passes : ByteArray := prog_6_method_25_code
def yX4_passes : MethodName := ⟨RX4, "passes", "([I)V"⟩
abbrev cX4_passOne : ByteArray := prog_6_method_26_code
def yX4_passOne : MethodName := ⟨RX4, "passOne", "(I)I"⟩
abbrev cX4_passesAll : ByteArray := prog_6_method_27_code
def yX4_passesAll : MethodName := ⟨RX4, "passesAll", "(IZ)V"⟩
abbrev cX4_thinks : ByteArray := prog_6_method_28_code
def yX4_thinks : MethodName := ⟨RX4, "thinks", "()V"⟩
abbrev cX4_forgets : ByteArray := prog_6_method_29_code
def yX4_forgets : MethodName := ⟨RX4, "forgets", "()V"⟩
abbrev cX4_image : ByteArray := prog_6_method_30_code
def yX4_image : MethodName := ⟨RX4, "image", "()I"⟩
abbrev cX4_on : ByteArray := prog_6_method_31_code
def yX4_on : MethodName := ⟨RX4, "on", "()I"⟩
abbrev cX4_covers : ByteArray := prog_6_method_32_code
def yX4_covers : MethodName := ⟨RX4, "covers", "(I)I"⟩
abbrev cX4_chafes : ByteArray := prog_6_method_33_code
def yX4_chafes : MethodName := ⟨RX4, "chafes", "(II)I"⟩
abbrev cX4_costs : ByteArray := prog_6_method_34_code
def yX4_costs : MethodName := ⟨RX4, "costs", "(I)I"⟩
abbrev cX4_wearerOf : ByteArray := prog_6_method_35_code
def yX4_wearerOf : MethodName := ⟨RX4, "wearerOf", "(I)I"⟩
abbrev cX4_putsOn : ByteArray := prog_6_method_36_code
def yX4_putsOn : MethodName := ⟨RX4, "putsOn", "(II)V"⟩
abbrev cX4_courageIn : ByteArray := prog_6_method_37_code
def yX4_courageIn : MethodName := ⟨RX4, "courageIn", "(II)I"⟩
abbrev cX4_courageOf : ByteArray := prog_6_method_38_code
def yX4_courageOf : MethodName := ⟨RX4, "courageOf", "(I)I"⟩
abbrev cX4_isEnough : ByteArray := prog_6_method_39_code
def yX4_isEnough : MethodName := ⟨RX4, "isEnough", "(II)Z"⟩
abbrev cX4_canSay : ByteArray := prog_6_method_40_code
def yX4_canSay : MethodName := ⟨RX4, "canSay", "(I)Z"⟩
abbrev cX4_lacks : ByteArray := prog_6_method_41_code
def yX4_lacks : MethodName := ⟨RX4, "lacks", "(I)I"⟩
abbrev cX4_goesCaller : ByteArray := prog_6_method_42_code
def yX4_goesCaller : MethodName := ⟨RX4, "goesCaller", "(I)V"⟩
abbrev cX4_goesDay : ByteArray := prog_6_method_43_code
def yX4_goesDay : MethodName := ⟨RX4, "goesDay", "()V"⟩
abbrev cX4_goes : ByteArray := prog_6_method_44_code
def yX4_goes : MethodName := ⟨RX4, "goes", "(I)V"⟩
abbrev cX4_allOf : ByteArray := prog_6_method_45_code
def yX4_allOf : MethodName := ⟨RX4, "allOf", "([I)I"⟩
abbrev cX4_suit : ByteArray := prog_6_method_46_code
def yX4_suit : MethodName := ⟨RX4, "suit", "(II)I"⟩
abbrev cX4_caller : ByteArray := prog_6_method_47_code
def yX4_caller : MethodName := ⟨RX4, "caller", "(II)I"⟩
abbrev cX4_courage : ByteArray := prog_6_method_48_code
def yX4_courage : MethodName := ⟨RX4, "courage", "(I)I"⟩
abbrev cX4_suitOf : ByteArray := prog_6_method_49_code
def yX4_suitOf : MethodName := ⟨RX4, "suitOf", "(I)I"⟩
abbrev cX4_wears : ByteArray := prog_6_method_50_code
def yX4_wears : MethodName := ⟨RX4, "wears", "(II)I"⟩
abbrev cX4_takesOff : ByteArray := prog_6_method_51_code
def yX4_takesOff : MethodName := ⟨RX4, "takesOff", "(I)I"⟩
abbrev cX4_fears : ByteArray := prog_6_method_52_code
def yX4_fears : MethodName := ⟨RX4, "fears", "(II)I"⟩
abbrev cX4_rusts : ByteArray := prog_6_method_53_code
def yX4_rusts : MethodName := ⟨RX4, "rusts", "(II)I"⟩
abbrev cX4_soothes : ByteArray := prog_6_method_54_code
def yX4_soothes : MethodName := ⟨RX4, "soothes", "(II)I"⟩
abbrev cX4_turn : ByteArray := prog_6_method_55_code
def yX4_turn : MethodName := ⟨RX4, "turn", "(III)I"⟩
abbrev cX4_days : ByteArray := prog_6_method_56_code
def yX4_days : MethodName := ⟨RX4, "days", "(I)I"⟩
abbrev cX4_notDays : ByteArray := prog_6_method_57_code
def yX4_notDays : MethodName := ⟨RX4, "notDays", "(I)I"⟩
abbrev cX4_callerThen : ByteArray := prog_6_method_58_code
def yX4_callerThen : MethodName := ⟨RX4, "callerThen", "(III)I"⟩
abbrev cX4_suitThen : ByteArray := prog_6_method_59_code
def yX4_suitThen : MethodName := ⟨RX4, "suitThen", "(II)I"⟩
abbrev cX4_cost : ByteArray := prog_6_method_60_code
def yX4_cost : MethodName := ⟨RX4, "cost", "(I)I"⟩
abbrev cX4_proposesWhen : ByteArray := prog_6_method_61_code
def yX4_proposesWhen : MethodName := ⟨RX4, "proposesWhen", "(I)I"⟩
abbrev cX4_firstToPropose : ByteArray := prog_6_method_62_code
def yX4_firstToPropose : MethodName := ⟨RX4, "firstToPropose", "()I"⟩
abbrev cX4_proposes : ByteArray := prog_6_method_63_code
def yX4_proposes : MethodName := ⟨RX4, "proposes", "(I)I"⟩
abbrev cX4_out : ByteArray := prog_6_method_64_code
def yX4_out : MethodName := ⟨RX4, "out", "(I)I"⟩
abbrev cX4_saidIn : ByteArray := prog_6_method_65_code
def yX4_saidIn : MethodName := ⟨RX4, "saidIn", "(I)I"⟩
abbrev cX4_still : ByteArray := prog_6_method_66_code
def yX4_still : MethodName := ⟨RX4, "still", "()I"⟩
abbrev cX4_worthIn : ByteArray := prog_6_method_67_code
def yX4_worthIn : MethodName := ⟨RX4, "worthIn", "(II)I"⟩
abbrev cX4_findDressed : ByteArray := prog_6_method_68_code
def yX4_findDressed : MethodName := ⟨RX4, "findDressed", "()V"⟩
abbrev cX4_dressedIn : ByteArray := prog_6_method_69_code
def yX4_dressedIn : MethodName := ⟨RX4, "dressedIn", "(II)I"⟩
abbrev cX4_dress : ByteArray := prog_6_method_70_code
def yX4_dress : MethodName := ⟨RX4, "dress", "(I)I"⟩
abbrev cX4_findSuit : ByteArray := prog_6_method_71_code
def yX4_findSuit : MethodName := ⟨RX4, "findSuit", "(II)V"⟩
abbrev cX4_suitBest : ByteArray := prog_6_method_72_code
def yX4_suitBest : MethodName := ⟨RX4, "suitBest", "(III)I"⟩
abbrev cX4_change : ByteArray := prog_6_method_73_code
def yX4_change : MethodName := ⟨RX4, "change", "(I)I"⟩
abbrev cX4_proposedBy : ByteArray := prog_6_method_74_code
def yX4_proposedBy : MethodName := ⟨RX4, "proposedBy", "(II)I"⟩
abbrev cX4_dressedOnes : ByteArray := prog_6_method_75_code
def yX4_dressedOnes : MethodName := ⟨RX4, "dressedOnes", "()I"⟩
abbrev cX4_fewest : ByteArray := prog_6_method_76_code
def yX4_fewest : MethodName := ⟨RX4, "fewest", "(I)I"⟩
abbrev cX4_findSpare : ByteArray := prog_6_method_77_code
def yX4_findSpare : MethodName := ⟨RX4, "findSpare", "(I)V"⟩
abbrev cX4_spare : ByteArray := prog_6_method_78_code
def yX4_spare : MethodName := ⟨RX4, "spare", "(II)I"⟩
abbrev cX4_cheer : ByteArray := prog_6_method_79_code
def yX4_cheer : MethodName := ⟨RX4, "cheer", "(I)I"⟩
abbrev cX4_boldest : ByteArray := prog_6_method_80_code
def yX4_boldest : MethodName := ⟨RX4, "boldest", "(I)I"⟩
abbrev cX4_left : ByteArray := prog_6_method_81_code
def yX4_left : MethodName := ⟨RX4, "left", "()I"⟩
abbrev cX4_aheadOf : ByteArray := prog_6_method_82_code
def yX4_aheadOf : MethodName := ⟨RX4, "aheadOf", "(I)I"⟩
abbrev cX4_order : ByteArray := prog_6_method_83_code
def yX4_order : MethodName := ⟨RX4, "order", "(I)I"⟩
abbrev cX4_heard : ByteArray := prog_6_method_84_code
def yX4_heard : MethodName := ⟨RX4, "heard", "(I)I"⟩
abbrev cX4_rusted : ByteArray := prog_6_method_85_code
def yX4_rusted : MethodName := ⟨RX4, "rusted", "(I)I"⟩
abbrev cX4_findGets : ByteArray := prog_6_method_86_code
def yX4_findGets : MethodName := ⟨RX4, "findGets", "(III)V"⟩
abbrev cX4_two : ByteArray := prog_6_method_87_code
def yX4_two : MethodName := ⟨RX4, "two", "(III)I"⟩
abbrev cX4_divisor : ByteArray := prog_6_method_88_code
def yX4_divisor : MethodName := ⟨RX4, "divisor", "(JJ)J"⟩
abbrev cX4_partOf : ByteArray := prog_6_method_89_code
def yX4_partOf : MethodName := ⟨RX4, "partOf", "(JJI)J"⟩
abbrev cX4_rains : ByteArray := prog_6_method_90_code
def yX4_rains : MethodName := ⟨RX4, "rains", "()V"⟩
abbrev cX4_rain : ByteArray := prog_6_method_91_code
def yX4_rain : MethodName := ⟨RX4, "rain", "(IIIII)J"⟩
abbrev cX4_mean : ByteArray := prog_6_method_92_code
def yX4_mean : MethodName := ⟨RX4, "mean", "(I)J"⟩
abbrev cX4_isSo : ByteArray := prog_6_method_93_code
def yX4_isSo : MethodName := ⟨RX4, "isSo", "(I)Z"⟩
abbrev cX4_bitsFor : ByteArray := prog_6_method_94_code
def yX4_bitsFor : MethodName := ⟨RX4, "bitsFor", "([IIII)I"⟩
abbrev cX4_whatIs : ByteArray := prog_6_method_95_code
def yX4_whatIs : MethodName := ⟨RX4, "whatIs", "(II)I"⟩
abbrev cX4_row : ByteArray := prog_6_method_96_code
def yX4_row : MethodName := ⟨RX4, "row", "(I)I"⟩
abbrev cX4_judge : ByteArray := prog_6_method_97_code
def yX4_judge : MethodName := ⟨RX4, "judge", "()I"⟩
abbrev cX4_clear : ByteArray := prog_6_method_98_code
def yX4_clear : MethodName := ⟨RX4, "clear", "()I"⟩
abbrev cX4_draw : ByteArray := prog_6_method_99_code
def yX4_draw : MethodName := ⟨RX4, "draw", "(I)I"⟩
abbrev cX4_lots : ByteArray := prog_6_method_100_code
def yX4_lots : MethodName := ⟨RX4, "lots", "(III)I"⟩
abbrev cX4_count : ByteArray := prog_6_method_101_code
def yX4_count : MethodName := ⟨RX4, "count", "(I)I"⟩
def RJ11 : String := "java/lang/Character"
def TJ11 : u_T := fun k => match k with
  | _ => ("", "", "", false)
def tyJ11 : Nat → FieldType := fun k => match k with
  | _ => .int
abbrev wsJ110 : List Cond := u_ws RJ11 TJ11 0
theorem nmJ11 : ∀ a, a < 0 → ∀ b, b < 0 → a ≠ b → (TJ11 a).2.1 ≠ (TJ11 b).2.1 := by decide +kernel
theorem tyJ11_ok : ∀ k, k < 0 → parseFieldDescriptor (TJ11 k).2.2.1 = some (tyJ11 k) := by decide +kernel
abbrev cJ11_isValidCodePoint_9a6ad : ByteArray := prog_7_method_11_code
def yJ11_isValidCodePoint_9a6ad : MethodName := ⟨RJ11, "isValidCodePoint", "(I)Z"⟩
abbrev cJ11_highSurrogate_5068e : ByteArray := prog_7_method_28_code
def yJ11_highSurrogate_5068e : MethodName := ⟨RJ11, "highSurrogate", "(I)C"⟩
abbrev cJ11_lowSurrogate_5068e : ByteArray := prog_7_method_29_code
def yJ11_lowSurrogate_5068e : MethodName := ⟨RJ11, "lowSurrogate", "(I)C"⟩
def RJ9 : String := "java/lang/Math"
def TJ9 : u_T := fun k => match k with
  | _ => ("", "", "", false)
def tyJ9 : Nat → FieldType := fun k => match k with
  | _ => .int
abbrev wsJ90 : List Cond := u_ws RJ9 TJ9 0
theorem nmJ9 : ∀ a, a < 0 → ∀ b, b < 0 → a ≠ b → (TJ9 a).2.1 ≠ (TJ9 b).2.1 := by decide +kernel
theorem tyJ9_ok : ∀ k, k < 0 → parseFieldDescriptor (TJ9 k).2.2.1 = some (tyJ9 k) := by decide +kernel
abbrev cJ9_max_7cf53 : ByteArray := prog_8_method_65_code
def yJ9_max_7cf53 : MethodName := ⟨RJ9, "max", "(II)I"⟩
abbrev cJ9_min_7cf53 : ByteArray := prog_8_method_69_code
def yJ9_min_7cf53 : MethodName := ⟨RJ9, "min", "(II)I"⟩
def RJ0 : String := "java/lang/String"
def TJ0 : u_T := fun k => match k with
  | _ => ("", "", "", false)
def tyJ0 : Nat → FieldType := fun k => match k with
  | _ => .int
abbrev wsJ00 : List Cond := u_ws RJ0 TJ0 0
theorem nmJ0 : ∀ a, a < 0 → ∀ b, b < 0 → a ≠ b → (TJ0 a).2.1 ≠ (TJ0 b).2.1 := by decide +kernel
theorem tyJ0_ok : ∀ k, k < 0 → parseFieldDescriptor (TJ0 k).2.2.1 = some (tyJ0 k) := by decide +kernel
abbrev cJ0_length_8abf5 : ByteArray := prog_9_method_54_code
def yJ0_length_8abf5 : MethodName := ⟨RJ0, "length", "()I"⟩
abbrev cJ0_indexOf_0f7a4 : ByteArray := prog_9_method_79_code
def yJ0_indexOf_0f7a4 : MethodName := ⟨RJ0, "indexOf", "(I)I"⟩
abbrev cJ0_indexOf_7cf53 : ByteArray := prog_9_method_80_code
def yJ0_indexOf_7cf53 : MethodName := ⟨RJ0, "indexOf", "(II)I"⟩
abbrev cJ0_coder_7d493 : ByteArray := prog_9_method_152_code
def yJ0_coder_7d493 : MethodName := ⟨RJ0, "coder", "()B"⟩
abbrev cJ0_isLatin1_aae02 : ByteArray := prog_9_method_154_code
def yJ0_isLatin1_aae02 : MethodName := ⟨RJ0, "isLatin1", "()Z"⟩
abbrev cJ0_checkBoundsBeginEnd_23922 : ByteArray := prog_9_method_158_code
def yJ0_checkBoundsBeginEnd_23922 : MethodName := ⟨RJ0, "checkBoundsBeginEnd", "(III)V"⟩
def RJ1 : String := "java/lang/StringLatin1"
def TJ1 : u_T := fun k => match k with
  | _ => ("", "", "", false)
def tyJ1 : Nat → FieldType := fun k => match k with
  | _ => .int
abbrev wsJ10 : List Cond := u_ws RJ1 TJ1 0
theorem nmJ1 : ∀ a, a < 0 → ∀ b, b < 0 → a ≠ b → (TJ1 a).2.1 ≠ (TJ1 b).2.1 := by decide +kernel
theorem tyJ1_ok : ∀ k, k < 0 → parseFieldDescriptor (TJ1 k).2.2.1 = some (tyJ1 k) := by decide +kernel
abbrev cJ1_canEncode_9a6ad : ByteArray := prog_10_method_4_code
def yJ1_canEncode_9a6ad : MethodName := ⟨RJ1, "canEncode", "(I)Z"⟩
abbrev cJ1_indexOf_4cfef : ByteArray := prog_10_method_22_code
def yJ1_indexOf_4cfef : MethodName := ⟨RJ1, "indexOf", "([BIII)I"⟩
abbrev cJ1_indexOfChar_4cfef : ByteArray := prog_10_method_23_code
def yJ1_indexOfChar_4cfef : MethodName := ⟨RJ1, "indexOfChar", "([BIII)I"⟩
def RJ2 : String := "java/lang/StringUTF16"
def TJ2 : u_T := fun k => match k with
  | _ => ("", "", "", false)
def tyJ2 : Nat → FieldType := fun k => match k with
  | _ => .int
abbrev wsJ20 : List Cond := u_ws RJ2 TJ2 0
theorem nmJ2 : ∀ a, a < 0 → ∀ b, b < 0 → a ≠ b → (TJ2 a).2.1 ≠ (TJ2 b).2.1 := by decide +kernel
theorem tyJ2_ok : ∀ k, k < 0 → parseFieldDescriptor (TJ2 k).2.2.1 = some (tyJ2 k) := by decide +kernel
abbrev cJ2_getChar_3b067 : ByteArray := prog_11_method_5_code
def yJ2_getChar_3b067 : MethodName := ⟨RJ2, "getChar", "([BI)C"⟩
abbrev cJ2_length_9d52b : ByteArray := prog_11_method_6_code
def yJ2_length_9d52b : MethodName := ⟨RJ2, "length", "([B)I"⟩
abbrev cJ2_indexOf_4cfef : ByteArray := prog_11_method_40_code
def yJ2_indexOf_4cfef : MethodName := ⟨RJ2, "indexOf", "([BIII)I"⟩
abbrev cJ2_indexOfChar_4cfef : ByteArray := prog_11_method_47_code
def yJ2_indexOfChar_4cfef : MethodName := ⟨RJ2, "indexOfChar", "([BIII)I"⟩
abbrev cJ2_indexOfCharUnsafe_4cfef : ByteArray := prog_11_method_48_code
def yJ2_indexOfCharUnsafe_4cfef : MethodName := ⟨RJ2, "indexOfCharUnsafe", "([BIII)I"⟩
abbrev cJ2_indexOfSupplementary_4cfef : ByteArray := prog_11_method_49_code
def yJ2_indexOfSupplementary_4cfef : MethodName := ⟨RJ2, "indexOfSupplementary", "([BIII)I"⟩
abbrev cJ2_checkBoundsBeginEnd_d044e : ByteArray := prog_11_method_93_code
def yJ2_checkBoundsBeginEnd_d044e : MethodName := ⟨RJ2, "checkBoundsBeginEnd", "(II[B)V"⟩
def RJ10 : String := "java/lang/System"
def TJ10 : u_T := fun k => match k with
  | _ => ("", "", "", false)
def tyJ10 : Nat → FieldType := fun k => match k with
  | _ => .int
abbrev wsJ100 : List Cond := u_ws RJ10 TJ10 0
theorem nmJ10 : ∀ a, a < 0 → ∀ b, b < 0 → a ≠ b → (TJ10 a).2.1 ≠ (TJ10 b).2.1 := by decide +kernel
theorem tyJ10_ok : ∀ k, k < 0 → parseFieldDescriptor (TJ10 k).2.2.1 = some (tyJ10 k) := by decide +kernel
def RJ3 : String := "jdk/internal/util/Preconditions"
def TJ3 : u_T := fun k => match k with
  | _ => ("", "", "", false)
def tyJ3 : Nat → FieldType := fun k => match k with
  | _ => .int
abbrev wsJ30 : List Cond := u_ws RJ3 TJ3 0
theorem nmJ3 : ∀ a, a < 0 → ∀ b, b < 0 → a ≠ b → (TJ3 a).2.1 ≠ (TJ3 b).2.1 := by decide +kernel
theorem tyJ3_ok : ∀ k, k < 0 → parseFieldDescriptor (TJ3 k).2.2.1 = some (tyJ3 k) := by decide +kernel
abbrev cJ3_checkFromToIndex_8c36e : ByteArray := prog_13_method_12_code
def yJ3_checkFromToIndex_8c36e : MethodName := ⟨RJ3, "checkFromToIndex", "(IIILjava/util/function/BiFunction;)I"⟩
def RL : String := "ArmourOfTheShyLaw"
abbrev cL_law : ByteArray := code
def yL_law : MethodName := ⟨RL, "law", "([I)Z"⟩
