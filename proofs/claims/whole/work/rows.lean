section
-- ===== PART A: goes FIRST, ahead of the names: the tables' words, and 'selects' of the private methods out of them =====
/-- a private method of a class that the tables say can be made, by its rows of tables_1 -/
def lw_okq (q : MethodName × Nat) : Prop := (q.1.cls ≠ "java/lang/invoke/MethodHandle" ∧ q.1.cls ≠ "java/lang/invoke/VarHandle") ∧ Cond.instantiable q.1.cls q.2 ∈ tables_1 ∧ Cond.privateMethod q.1 ∈ tables_1 ∧ Cond.instanceMethod q.1 ∈ tables_1
theorem lw_p0 : lw_okq (⟨"ArmourOfTheShy", "refuse", "(I)I"⟩, 12) := ⟨⟨by decide +kernel, by decide +kernel⟩, List.mem_of_getElem? (i := 14) (by decide +kernel), List.mem_of_getElem? (i := 154) (by decide +kernel), List.mem_of_getElem? (i := 155) (by decide +kernel)⟩
theorem lw_p1 : lw_okq (⟨"ArmourOfTheShy$Letters", "fits", "(II)Z"⟩, 2) := ⟨⟨by decide +kernel, by decide +kernel⟩, List.mem_of_getElem? (i := 82) (by decide +kernel), List.mem_of_getElem? (i := 170) (by decide +kernel), List.mem_of_getElem? (i := 171) (by decide +kernel)⟩
theorem lw_p2 : lw_okq (⟨"ArmourOfTheShy", "think", "()V"⟩, 12) := ⟨⟨by decide +kernel, by decide +kernel⟩, List.mem_of_getElem? (i := 14) (by decide +kernel), List.mem_of_getElem? (i := 264) (by decide +kernel), List.mem_of_getElem? (i := 265) (by decide +kernel)⟩
theorem lw_p3 : lw_okq (⟨"ArmourOfTheShy$Letters", "digit", "(I)I"⟩, 2) := ⟨⟨by decide +kernel, by decide +kernel⟩, List.mem_of_getElem? (i := 82) (by decide +kernel), List.mem_of_getElem? (i := 279) (by decide +kernel), List.mem_of_getElem? (i := 280) (by decide +kernel)⟩
theorem lw_p4 : lw_okq (⟨"ArmourOfTheShy$Letters", "number", "(I)I"⟩, 2) := ⟨⟨by decide +kernel, by decide +kernel⟩, List.mem_of_getElem? (i := 82) (by decide +kernel), List.mem_of_getElem? (i := 287) (by decide +kernel), List.mem_of_getElem? (i := 288) (by decide +kernel)⟩
theorem lw_p5 : lw_okq (⟨"ArmourOfTheShy", "anySuit", "(I)I"⟩, 12) := ⟨⟨by decide +kernel, by decide +kernel⟩, List.mem_of_getElem? (i := 14) (by decide +kernel), List.mem_of_getElem? (i := 370) (by decide +kernel), List.mem_of_getElem? (i := 371) (by decide +kernel)⟩
theorem lw_p6 : lw_okq (⟨"ArmourOfTheShy", "anyCaller", "(I)I"⟩, 12) := ⟨⟨by decide +kernel, by decide +kernel⟩, List.mem_of_getElem? (i := 14) (by decide +kernel), List.mem_of_getElem? (i := 391) (by decide +kernel), List.mem_of_getElem? (i := 392) (by decide +kernel)⟩
theorem lw_p7 : lw_okq (⟨"ArmourOfTheShy", "inSuit", "(I)I"⟩, 12) := ⟨⟨by decide +kernel, by decide +kernel⟩, List.mem_of_getElem? (i := 14) (by decide +kernel), List.mem_of_getElem? (i := 415) (by decide +kernel), List.mem_of_getElem? (i := 416) (by decide +kernel)⟩
theorem lw_p8 : lw_okq (⟨"ArmourOfTheShy", "firstToPropose", "()I"⟩, 12) := ⟨⟨by decide +kernel, by decide +kernel⟩, List.mem_of_getElem? (i := 14) (by decide +kernel), List.mem_of_getElem? (i := 460) (by decide +kernel), List.mem_of_getElem? (i := 461) (by decide +kernel)⟩
theorem lw_p9 : lw_okq (⟨"ArmourOfTheShy", "allSaidBehind", "(I)I"⟩, 12) := ⟨⟨by decide +kernel, by decide +kernel⟩, List.mem_of_getElem? (i := 14) (by decide +kernel), List.mem_of_getElem? (i := 472) (by decide +kernel), List.mem_of_getElem? (i := 473) (by decide +kernel)⟩
theorem lw_p10 : lw_okq (⟨"ArmourOfTheShy$Dresser", "mostOn", "(LArmourOfTheShy$City;II)I"⟩, 2) := ⟨⟨by decide +kernel, by decide +kernel⟩, List.mem_of_getElem? (i := 97) (by decide +kernel), List.mem_of_getElem? (i := 492) (by decide +kernel), List.mem_of_getElem? (i := 493) (by decide +kernel)⟩
theorem lw_p11 : lw_okq (⟨"ArmourOfTheShy$Dresser", "mostWith", "(III)I"⟩, 2) := ⟨⟨by decide +kernel, by decide +kernel⟩, List.mem_of_getElem? (i := 97) (by decide +kernel), List.mem_of_getElem? (i := 496) (by decide +kernel), List.mem_of_getElem? (i := 497) (by decide +kernel)⟩
theorem lw_p12 : lw_okq (⟨"ArmourOfTheShy$Dresser", "firstBest", "(LArmourOfTheShy$City;II)I"⟩, 2) := ⟨⟨by decide +kernel, by decide +kernel⟩, List.mem_of_getElem? (i := 97) (by decide +kernel), List.mem_of_getElem? (i := 506) (by decide +kernel), List.mem_of_getElem? (i := 507) (by decide +kernel)⟩
theorem lw_p13 : lw_okq (⟨"ArmourOfTheShy", "suitsAhead", "(I)I"⟩, 12) := ⟨⟨by decide +kernel, by decide +kernel⟩, List.mem_of_getElem? (i := 14) (by decide +kernel), List.mem_of_getElem? (i := 543) (by decide +kernel), List.mem_of_getElem? (i := 544) (by decide +kernel)⟩
theorem lw_p14 : lw_okq (⟨"ArmourOfTheShy", "thinkPair", "(IIII)V"⟩, 12) := ⟨⟨by decide +kernel, by decide +kernel⟩, List.mem_of_getElem? (i := 14) (by decide +kernel), List.mem_of_getElem? (i := 561) (by decide +kernel), List.mem_of_getElem? (i := 562) (by decide +kernel)⟩
theorem lw_p15 : lw_okq (⟨"ArmourOfTheShy", "wish", "(II)I"⟩, 12) := ⟨⟨by decide +kernel, by decide +kernel⟩, List.mem_of_getElem? (i := 14) (by decide +kernel), List.mem_of_getElem? (i := 565) (by decide +kernel), List.mem_of_getElem? (i := 566) (by decide +kernel)⟩
def lw_privs_1 : List (MethodName × Nat) := [(⟨"ArmourOfTheShy", "refuse", "(I)I"⟩, 12), (⟨"ArmourOfTheShy$Letters", "fits", "(II)Z"⟩, 2), (⟨"ArmourOfTheShy", "think", "()V"⟩, 12), (⟨"ArmourOfTheShy$Letters", "digit", "(I)I"⟩, 2), (⟨"ArmourOfTheShy$Letters", "number", "(I)I"⟩, 2), (⟨"ArmourOfTheShy", "anySuit", "(I)I"⟩, 12), (⟨"ArmourOfTheShy", "anyCaller", "(I)I"⟩, 12), (⟨"ArmourOfTheShy", "inSuit", "(I)I"⟩, 12), (⟨"ArmourOfTheShy", "firstToPropose", "()I"⟩, 12), (⟨"ArmourOfTheShy", "allSaidBehind", "(I)I"⟩, 12), (⟨"ArmourOfTheShy$Dresser", "mostOn", "(LArmourOfTheShy$City;II)I"⟩, 2), (⟨"ArmourOfTheShy$Dresser", "mostWith", "(III)I"⟩, 2), (⟨"ArmourOfTheShy$Dresser", "firstBest", "(LArmourOfTheShy$City;II)I"⟩, 2), (⟨"ArmourOfTheShy", "suitsAhead", "(I)I"⟩, 12), (⟨"ArmourOfTheShy", "thinkPair", "(IIII)V"⟩, 12), (⟨"ArmourOfTheShy", "wish", "(II)I"⟩, 12)]
theorem lw_r1 : ∀ q ∈ lw_privs_1, lw_okq q := List.forall_mem_cons.mpr ⟨lw_p0, List.forall_mem_cons.mpr ⟨lw_p1, List.forall_mem_cons.mpr ⟨lw_p2, List.forall_mem_cons.mpr ⟨lw_p3, List.forall_mem_cons.mpr ⟨lw_p4, List.forall_mem_cons.mpr ⟨lw_p5, List.forall_mem_cons.mpr ⟨lw_p6, List.forall_mem_cons.mpr ⟨lw_p7, List.forall_mem_cons.mpr ⟨lw_p8, List.forall_mem_cons.mpr ⟨lw_p9, List.forall_mem_cons.mpr ⟨lw_p10, List.forall_mem_cons.mpr ⟨lw_p11, List.forall_mem_cons.mpr ⟨lw_p12, List.forall_mem_cons.mpr ⟨lw_p13, List.forall_mem_cons.mpr ⟨lw_p14, List.forall_mem_cons.mpr ⟨lw_p15, fun _ h => absurd h List.not_mem_nil⟩⟩⟩⟩⟩⟩⟩⟩⟩⟩⟩⟩⟩⟩⟩⟩
theorem lw_p16 : lw_okq (⟨"ArmourOfTheShy", "saidInRain", "(III)I"⟩, 12) := ⟨⟨by decide +kernel, by decide +kernel⟩, List.mem_of_getElem? (i := 14) (by decide +kernel), List.mem_of_getElem? (i := 577) (by decide +kernel), List.mem_of_getElem? (i := 578) (by decide +kernel)⟩
theorem lw_p17 : lw_okq (⟨"ArmourOfTheShy", "saysTheRow", "(I)Z"⟩, 12) := ⟨⟨by decide +kernel, by decide +kernel⟩, List.mem_of_getElem? (i := 14) (by decide +kernel), List.mem_of_getElem? (i := 603) (by decide +kernel), List.mem_of_getElem? (i := 604) (by decide +kernel)⟩
theorem lw_p18 : lw_okq (⟨"ArmourOfTheShyModel", "no", "(I)I"⟩, 32) := ⟨⟨by decide +kernel, by decide +kernel⟩, List.mem_of_getElem? (i := 642) (by decide +kernel), List.mem_of_getElem? (i := 754) (by decide +kernel), List.mem_of_getElem? (i := 755) (by decide +kernel)⟩
theorem lw_p19 : lw_okq (⟨"ArmourOfTheShyModel", "statement", "()Z"⟩, 32) := ⟨⟨by decide +kernel, by decide +kernel⟩, List.mem_of_getElem? (i := 642) (by decide +kernel), List.mem_of_getElem? (i := 762) (by decide +kernel), List.mem_of_getElem? (i := 763) (by decide +kernel)⟩
theorem lw_p20 : lw_okq (⟨"ArmourOfTheShyModel", "letterNow", "()I"⟩, 32) := ⟨⟨by decide +kernel, by decide +kernel⟩, List.mem_of_getElem? (i := 642) (by decide +kernel), List.mem_of_getElem? (i := 766) (by decide +kernel), List.mem_of_getElem? (i := 767) (by decide +kernel)⟩
theorem lw_p21 : lw_okq (⟨"ArmourOfTheShyModel", "readsAll", "(II)Z"⟩, 32) := ⟨⟨by decide +kernel, by decide +kernel⟩, List.mem_of_getElem? (i := 642) (by decide +kernel), List.mem_of_getElem? (i := 770) (by decide +kernel), List.mem_of_getElem? (i := 771) (by decide +kernel)⟩
theorem lw_p22 : lw_okq (⟨"ArmourOfTheShyModel", "readsSuit", "(I)Z"⟩, 32) := ⟨⟨by decide +kernel, by decide +kernel⟩, List.mem_of_getElem? (i := 642) (by decide +kernel), List.mem_of_getElem? (i := 774) (by decide +kernel), List.mem_of_getElem? (i := 775) (by decide +kernel)⟩
theorem lw_p23 : lw_okq (⟨"ArmourOfTheShyModel", "readsDigits", "(II)Z"⟩, 32) := ⟨⟨by decide +kernel, by decide +kernel⟩, List.mem_of_getElem? (i := 642) (by decide +kernel), List.mem_of_getElem? (i := 781) (by decide +kernel), List.mem_of_getElem? (i := 782) (by decide +kernel)⟩
theorem lw_p24 : lw_okq (⟨"ArmourOfTheShyModel", "passesAll", "(IZ)V"⟩, 32) := ⟨⟨by decide +kernel, by decide +kernel⟩, List.mem_of_getElem? (i := 642) (by decide +kernel), List.mem_of_getElem? (i := 788) (by decide +kernel), List.mem_of_getElem? (i := 789) (by decide +kernel)⟩
theorem lw_p25 : lw_okq (⟨"ArmourOfTheShyModel", "passes", "([I)V"⟩, 32) := ⟨⟨by decide +kernel, by decide +kernel⟩, List.mem_of_getElem? (i := 642) (by decide +kernel), List.mem_of_getElem? (i := 792) (by decide +kernel), List.mem_of_getElem? (i := 793) (by decide +kernel)⟩
theorem lw_p26 : lw_okq (⟨"ArmourOfTheShyModel", "passOne", "(I)I"⟩, 32) := ⟨⟨by decide +kernel, by decide +kernel⟩, List.mem_of_getElem? (i := 642) (by decide +kernel), List.mem_of_getElem? (i := 796) (by decide +kernel), List.mem_of_getElem? (i := 797) (by decide +kernel)⟩
theorem lw_p27 : lw_okq (⟨"ArmourOfTheShyModel", "comes", "(I)Z"⟩, 32) := ⟨⟨by decide +kernel, by decide +kernel⟩, List.mem_of_getElem? (i := 642) (by decide +kernel), List.mem_of_getElem? (i := 800) (by decide +kernel), List.mem_of_getElem? (i := 801) (by decide +kernel)⟩
theorem lw_p28 : lw_okq (⟨"ArmourOfTheShyModel", "comesSuit", "(II)Z"⟩, 32) := ⟨⟨by decide +kernel, by decide +kernel⟩, List.mem_of_getElem? (i := 642) (by decide +kernel), List.mem_of_getElem? (i := 804) (by decide +kernel), List.mem_of_getElem? (i := 805) (by decide +kernel)⟩
theorem lw_p29 : lw_okq (⟨"ArmourOfTheShyModel", "comesCaller", "(I)Z"⟩, 32) := ⟨⟨by decide +kernel, by decide +kernel⟩, List.mem_of_getElem? (i := 642) (by decide +kernel), List.mem_of_getElem? (i := 808) (by decide +kernel), List.mem_of_getElem? (i := 809) (by decide +kernel)⟩
theorem lw_p30 : lw_okq (⟨"ArmourOfTheShyModel", "comesDays", "(I)Z"⟩, 32) := ⟨⟨by decide +kernel, by decide +kernel⟩, List.mem_of_getElem? (i := 642) (by decide +kernel), List.mem_of_getElem? (i := 812) (by decide +kernel), List.mem_of_getElem? (i := 813) (by decide +kernel)⟩
theorem lw_p31 : lw_okq (⟨"ArmourOfTheShyModel", "goes", "(I)V"⟩, 32) := ⟨⟨by decide +kernel, by decide +kernel⟩, List.mem_of_getElem? (i := 642) (by decide +kernel), List.mem_of_getElem? (i := 816) (by decide +kernel), List.mem_of_getElem? (i := 817) (by decide +kernel)⟩
def lw_privs_2 : List (MethodName × Nat) := [(⟨"ArmourOfTheShy", "saidInRain", "(III)I"⟩, 12), (⟨"ArmourOfTheShy", "saysTheRow", "(I)Z"⟩, 12), (⟨"ArmourOfTheShyModel", "no", "(I)I"⟩, 32), (⟨"ArmourOfTheShyModel", "statement", "()Z"⟩, 32), (⟨"ArmourOfTheShyModel", "letterNow", "()I"⟩, 32), (⟨"ArmourOfTheShyModel", "readsAll", "(II)Z"⟩, 32), (⟨"ArmourOfTheShyModel", "readsSuit", "(I)Z"⟩, 32), (⟨"ArmourOfTheShyModel", "readsDigits", "(II)Z"⟩, 32), (⟨"ArmourOfTheShyModel", "passesAll", "(IZ)V"⟩, 32), (⟨"ArmourOfTheShyModel", "passes", "([I)V"⟩, 32), (⟨"ArmourOfTheShyModel", "passOne", "(I)I"⟩, 32), (⟨"ArmourOfTheShyModel", "comes", "(I)Z"⟩, 32), (⟨"ArmourOfTheShyModel", "comesSuit", "(II)Z"⟩, 32), (⟨"ArmourOfTheShyModel", "comesCaller", "(I)Z"⟩, 32), (⟨"ArmourOfTheShyModel", "comesDays", "(I)Z"⟩, 32), (⟨"ArmourOfTheShyModel", "goes", "(I)V"⟩, 32)]
theorem lw_r2 : ∀ q ∈ lw_privs_2, lw_okq q := List.forall_mem_cons.mpr ⟨lw_p16, List.forall_mem_cons.mpr ⟨lw_p17, List.forall_mem_cons.mpr ⟨lw_p18, List.forall_mem_cons.mpr ⟨lw_p19, List.forall_mem_cons.mpr ⟨lw_p20, List.forall_mem_cons.mpr ⟨lw_p21, List.forall_mem_cons.mpr ⟨lw_p22, List.forall_mem_cons.mpr ⟨lw_p23, List.forall_mem_cons.mpr ⟨lw_p24, List.forall_mem_cons.mpr ⟨lw_p25, List.forall_mem_cons.mpr ⟨lw_p26, List.forall_mem_cons.mpr ⟨lw_p27, List.forall_mem_cons.mpr ⟨lw_p28, List.forall_mem_cons.mpr ⟨lw_p29, List.forall_mem_cons.mpr ⟨lw_p30, List.forall_mem_cons.mpr ⟨lw_p31, fun _ h => absurd h List.not_mem_nil⟩⟩⟩⟩⟩⟩⟩⟩⟩⟩⟩⟩⟩⟩⟩⟩
theorem lw_p32 : lw_okq (⟨"ArmourOfTheShyModel", "goesDay", "()V"⟩, 32) := ⟨⟨by decide +kernel, by decide +kernel⟩, List.mem_of_getElem? (i := 642) (by decide +kernel), List.mem_of_getElem? (i := 820) (by decide +kernel), List.mem_of_getElem? (i := 821) (by decide +kernel)⟩
theorem lw_p33 : lw_okq (⟨"ArmourOfTheShyModel", "goesCaller", "(I)V"⟩, 32) := ⟨⟨by decide +kernel, by decide +kernel⟩, List.mem_of_getElem? (i := 642) (by decide +kernel), List.mem_of_getElem? (i := 824) (by decide +kernel), List.mem_of_getElem? (i := 825) (by decide +kernel)⟩
theorem lw_p34 : lw_okq (⟨"ArmourOfTheShyModel", "costs", "(I)I"⟩, 32) := ⟨⟨by decide +kernel, by decide +kernel⟩, List.mem_of_getElem? (i := 642) (by decide +kernel), List.mem_of_getElem? (i := 831) (by decide +kernel), List.mem_of_getElem? (i := 832) (by decide +kernel)⟩
theorem lw_p35 : lw_okq (⟨"ArmourOfTheShyModel", "canSay", "(I)Z"⟩, 32) := ⟨⟨by decide +kernel, by decide +kernel⟩, List.mem_of_getElem? (i := 642) (by decide +kernel), List.mem_of_getElem? (i := 835) (by decide +kernel), List.mem_of_getElem? (i := 836) (by decide +kernel)⟩
theorem lw_p36 : lw_okq (⟨"ArmourOfTheShyModel", "covers", "(I)I"⟩, 32) := ⟨⟨by decide +kernel, by decide +kernel⟩, List.mem_of_getElem? (i := 642) (by decide +kernel), List.mem_of_getElem? (i := 839) (by decide +kernel), List.mem_of_getElem? (i := 840) (by decide +kernel)⟩
theorem lw_p37 : lw_okq (⟨"ArmourOfTheShyModel", "isEnough", "(II)Z"⟩, 32) := ⟨⟨by decide +kernel, by decide +kernel⟩, List.mem_of_getElem? (i := 642) (by decide +kernel), List.mem_of_getElem? (i := 843) (by decide +kernel), List.mem_of_getElem? (i := 844) (by decide +kernel)⟩
theorem lw_p38 : lw_okq (⟨"ArmourOfTheShyModel", "courageIn", "(II)I"⟩, 32) := ⟨⟨by decide +kernel, by decide +kernel⟩, List.mem_of_getElem? (i := 642) (by decide +kernel), List.mem_of_getElem? (i := 847) (by decide +kernel), List.mem_of_getElem? (i := 848) (by decide +kernel)⟩
theorem lw_p39 : lw_okq (⟨"ArmourOfTheShyModel", "chafes", "(II)I"⟩, 32) := ⟨⟨by decide +kernel, by decide +kernel⟩, List.mem_of_getElem? (i := 642) (by decide +kernel), List.mem_of_getElem? (i := 851) (by decide +kernel), List.mem_of_getElem? (i := 852) (by decide +kernel)⟩
theorem lw_p40 : lw_okq (⟨"ArmourOfTheShyModel", "wearerOf", "(I)I"⟩, 32) := ⟨⟨by decide +kernel, by decide +kernel⟩, List.mem_of_getElem? (i := 642) (by decide +kernel), List.mem_of_getElem? (i := 855) (by decide +kernel), List.mem_of_getElem? (i := 856) (by decide +kernel)⟩
theorem lw_p41 : lw_okq (⟨"ArmourOfTheShyModel", "comesOf", "(III)Z"⟩, 32) := ⟨⟨by decide +kernel, by decide +kernel⟩, List.mem_of_getElem? (i := 642) (by decide +kernel), List.mem_of_getElem? (i := 859) (by decide +kernel), List.mem_of_getElem? (i := 860) (by decide +kernel)⟩
theorem lw_p42 : lw_okq (⟨"ArmourOfTheShyModel", "isSuit", "(I)Z"⟩, 32) := ⟨⟨by decide +kernel, by decide +kernel⟩, List.mem_of_getElem? (i := 642) (by decide +kernel), List.mem_of_getElem? (i := 863) (by decide +kernel), List.mem_of_getElem? (i := 864) (by decide +kernel)⟩
theorem lw_p43 : lw_okq (⟨"ArmourOfTheShyModel", "isCaller", "(I)Z"⟩, 32) := ⟨⟨by decide +kernel, by decide +kernel⟩, List.mem_of_getElem? (i := 642) (by decide +kernel), List.mem_of_getElem? (i := 867) (by decide +kernel), List.mem_of_getElem? (i := 868) (by decide +kernel)⟩
theorem lw_p44 : lw_okq (⟨"ArmourOfTheShyModel", "putsOn", "(II)V"⟩, 32) := ⟨⟨by decide +kernel, by decide +kernel⟩, List.mem_of_getElem? (i := 642) (by decide +kernel), List.mem_of_getElem? (i := 871) (by decide +kernel), List.mem_of_getElem? (i := 872) (by decide +kernel)⟩
theorem lw_p45 : lw_okq (⟨"ArmourOfTheShyModel", "lacks", "(I)I"⟩, 32) := ⟨⟨by decide +kernel, by decide +kernel⟩, List.mem_of_getElem? (i := 642) (by decide +kernel), List.mem_of_getElem? (i := 891) (by decide +kernel), List.mem_of_getElem? (i := 892) (by decide +kernel)⟩
theorem lw_p46 : lw_okq (⟨"ArmourOfTheShyModel", "courageOf", "(I)I"⟩, 32) := ⟨⟨by decide +kernel, by decide +kernel⟩, List.mem_of_getElem? (i := 642) (by decide +kernel), List.mem_of_getElem? (i := 895) (by decide +kernel), List.mem_of_getElem? (i := 896) (by decide +kernel)⟩
theorem lw_p47 : lw_okq (⟨"ArmourOfTheShyModel", "lower", "(I)I"⟩, 32) := ⟨⟨by decide +kernel, by decide +kernel⟩, List.mem_of_getElem? (i := 642) (by decide +kernel), List.mem_of_getElem? (i := 903) (by decide +kernel), List.mem_of_getElem? (i := 904) (by decide +kernel)⟩
def lw_privs_3 : List (MethodName × Nat) := [(⟨"ArmourOfTheShyModel", "goesDay", "()V"⟩, 32), (⟨"ArmourOfTheShyModel", "goesCaller", "(I)V"⟩, 32), (⟨"ArmourOfTheShyModel", "costs", "(I)I"⟩, 32), (⟨"ArmourOfTheShyModel", "canSay", "(I)Z"⟩, 32), (⟨"ArmourOfTheShyModel", "covers", "(I)I"⟩, 32), (⟨"ArmourOfTheShyModel", "isEnough", "(II)Z"⟩, 32), (⟨"ArmourOfTheShyModel", "courageIn", "(II)I"⟩, 32), (⟨"ArmourOfTheShyModel", "chafes", "(II)I"⟩, 32), (⟨"ArmourOfTheShyModel", "wearerOf", "(I)I"⟩, 32), (⟨"ArmourOfTheShyModel", "comesOf", "(III)Z"⟩, 32), (⟨"ArmourOfTheShyModel", "isSuit", "(I)Z"⟩, 32), (⟨"ArmourOfTheShyModel", "isCaller", "(I)Z"⟩, 32), (⟨"ArmourOfTheShyModel", "putsOn", "(II)V"⟩, 32), (⟨"ArmourOfTheShyModel", "lacks", "(I)I"⟩, 32), (⟨"ArmourOfTheShyModel", "courageOf", "(I)I"⟩, 32), (⟨"ArmourOfTheShyModel", "lower", "(I)I"⟩, 32)]
theorem lw_r3 : ∀ q ∈ lw_privs_3, lw_okq q := List.forall_mem_cons.mpr ⟨lw_p32, List.forall_mem_cons.mpr ⟨lw_p33, List.forall_mem_cons.mpr ⟨lw_p34, List.forall_mem_cons.mpr ⟨lw_p35, List.forall_mem_cons.mpr ⟨lw_p36, List.forall_mem_cons.mpr ⟨lw_p37, List.forall_mem_cons.mpr ⟨lw_p38, List.forall_mem_cons.mpr ⟨lw_p39, List.forall_mem_cons.mpr ⟨lw_p40, List.forall_mem_cons.mpr ⟨lw_p41, List.forall_mem_cons.mpr ⟨lw_p42, List.forall_mem_cons.mpr ⟨lw_p43, List.forall_mem_cons.mpr ⟨lw_p44, List.forall_mem_cons.mpr ⟨lw_p45, List.forall_mem_cons.mpr ⟨lw_p46, List.forall_mem_cons.mpr ⟨lw_p47, fun _ h => absurd h List.not_mem_nil⟩⟩⟩⟩⟩⟩⟩⟩⟩⟩⟩⟩⟩⟩⟩⟩
theorem lw_p48 : lw_okq (⟨"ArmourOfTheShyModel", "allOf", "([I)I"⟩, 32) := ⟨⟨by decide +kernel, by decide +kernel⟩, List.mem_of_getElem? (i := 642) (by decide +kernel), List.mem_of_getElem? (i := 939) (by decide +kernel), List.mem_of_getElem? (i := 940) (by decide +kernel)⟩
theorem lw_p49 : lw_okq (⟨"ArmourOfTheShyModel", "thinks", "()V"⟩, 32) := ⟨⟨by decide +kernel, by decide +kernel⟩, List.mem_of_getElem? (i := 642) (by decide +kernel), List.mem_of_getElem? (i := 950) (by decide +kernel), List.mem_of_getElem? (i := 951) (by decide +kernel)⟩
theorem lw_p50 : lw_okq (⟨"ArmourOfTheShyModel", "forgets", "()V"⟩, 32) := ⟨⟨by decide +kernel, by decide +kernel⟩, List.mem_of_getElem? (i := 642) (by decide +kernel), List.mem_of_getElem? (i := 954) (by decide +kernel), List.mem_of_getElem? (i := 955) (by decide +kernel)⟩
theorem lw_p51 : lw_okq (⟨"ArmourOfTheShyModel", "firstToPropose", "()I"⟩, 32) := ⟨⟨by decide +kernel, by decide +kernel⟩, List.mem_of_getElem? (i := 642) (by decide +kernel), List.mem_of_getElem? (i := 970) (by decide +kernel), List.mem_of_getElem? (i := 971) (by decide +kernel)⟩
theorem lw_p52 : lw_okq (⟨"ArmourOfTheShyModel", "proposesWhen", "(I)I"⟩, 32) := ⟨⟨by decide +kernel, by decide +kernel⟩, List.mem_of_getElem? (i := 642) (by decide +kernel), List.mem_of_getElem? (i := 974) (by decide +kernel), List.mem_of_getElem? (i := 975) (by decide +kernel)⟩
theorem lw_p53 : lw_okq (⟨"ArmourOfTheShyModel", "saidIn", "(I)I"⟩, 32) := ⟨⟨by decide +kernel, by decide +kernel⟩, List.mem_of_getElem? (i := 642) (by decide +kernel), List.mem_of_getElem? (i := 986) (by decide +kernel), List.mem_of_getElem? (i := 987) (by decide +kernel)⟩
theorem lw_p54 : lw_okq (⟨"ArmourOfTheShyModel", "findDressed", "()V"⟩, 32) := ⟨⟨by decide +kernel, by decide +kernel⟩, List.mem_of_getElem? (i := 642) (by decide +kernel), List.mem_of_getElem? (i := 994) (by decide +kernel), List.mem_of_getElem? (i := 995) (by decide +kernel)⟩
theorem lw_p55 : lw_okq (⟨"ArmourOfTheShyModel", "worthIn", "(II)I"⟩, 32) := ⟨⟨by decide +kernel, by decide +kernel⟩, List.mem_of_getElem? (i := 642) (by decide +kernel), List.mem_of_getElem? (i := 998) (by decide +kernel), List.mem_of_getElem? (i := 999) (by decide +kernel)⟩
theorem lw_p56 : lw_okq (⟨"ArmourOfTheShyModel", "dressedIn", "(II)I"⟩, 32) := ⟨⟨by decide +kernel, by decide +kernel⟩, List.mem_of_getElem? (i := 642) (by decide +kernel), List.mem_of_getElem? (i := 1005) (by decide +kernel), List.mem_of_getElem? (i := 1006) (by decide +kernel)⟩
theorem lw_p57 : lw_okq (⟨"ArmourOfTheShyModel", "findSuit", "(II)V"⟩, 32) := ⟨⟨by decide +kernel, by decide +kernel⟩, List.mem_of_getElem? (i := 642) (by decide +kernel), List.mem_of_getElem? (i := 1013) (by decide +kernel), List.mem_of_getElem? (i := 1014) (by decide +kernel)⟩
theorem lw_p58 : lw_okq (⟨"ArmourOfTheShyModel", "dressedOnes", "()I"⟩, 32) := ⟨⟨by decide +kernel, by decide +kernel⟩, List.mem_of_getElem? (i := 642) (by decide +kernel), List.mem_of_getElem? (i := 1025) (by decide +kernel), List.mem_of_getElem? (i := 1026) (by decide +kernel)⟩
theorem lw_p59 : lw_okq (⟨"ArmourOfTheShyModel", "proposedBy", "(II)I"⟩, 32) := ⟨⟨by decide +kernel, by decide +kernel⟩, List.mem_of_getElem? (i := 642) (by decide +kernel), List.mem_of_getElem? (i := 1029) (by decide +kernel), List.mem_of_getElem? (i := 1030) (by decide +kernel)⟩
theorem lw_p60 : lw_okq (⟨"ArmourOfTheShyModel", "findSpare", "(I)V"⟩, 32) := ⟨⟨by decide +kernel, by decide +kernel⟩, List.mem_of_getElem? (i := 642) (by decide +kernel), List.mem_of_getElem? (i := 1040) (by decide +kernel), List.mem_of_getElem? (i := 1041) (by decide +kernel)⟩
theorem lw_p61 : lw_okq (⟨"ArmourOfTheShyModel", "aheadOf", "(I)I"⟩, 32) := ⟨⟨by decide +kernel, by decide +kernel⟩, List.mem_of_getElem? (i := 642) (by decide +kernel), List.mem_of_getElem? (i := 1060) (by decide +kernel), List.mem_of_getElem? (i := 1061) (by decide +kernel)⟩
theorem lw_p62 : lw_okq (⟨"ArmourOfTheShyModel", "findGets", "(III)V"⟩, 32) := ⟨⟨by decide +kernel, by decide +kernel⟩, List.mem_of_getElem? (i := 642) (by decide +kernel), List.mem_of_getElem? (i := 1076) (by decide +kernel), List.mem_of_getElem? (i := 1077) (by decide +kernel)⟩
theorem lw_p63 : lw_okq (⟨"ArmourOfTheShyModel", "lowestOf", "(I)J"⟩, 32) := ⟨⟨by decide +kernel, by decide +kernel⟩, List.mem_of_getElem? (i := 642) (by decide +kernel), List.mem_of_getElem? (i := 1084) (by decide +kernel), List.mem_of_getElem? (i := 1085) (by decide +kernel)⟩
def lw_privs_4 : List (MethodName × Nat) := [(⟨"ArmourOfTheShyModel", "allOf", "([I)I"⟩, 32), (⟨"ArmourOfTheShyModel", "thinks", "()V"⟩, 32), (⟨"ArmourOfTheShyModel", "forgets", "()V"⟩, 32), (⟨"ArmourOfTheShyModel", "firstToPropose", "()I"⟩, 32), (⟨"ArmourOfTheShyModel", "proposesWhen", "(I)I"⟩, 32), (⟨"ArmourOfTheShyModel", "saidIn", "(I)I"⟩, 32), (⟨"ArmourOfTheShyModel", "findDressed", "()V"⟩, 32), (⟨"ArmourOfTheShyModel", "worthIn", "(II)I"⟩, 32), (⟨"ArmourOfTheShyModel", "dressedIn", "(II)I"⟩, 32), (⟨"ArmourOfTheShyModel", "findSuit", "(II)V"⟩, 32), (⟨"ArmourOfTheShyModel", "dressedOnes", "()I"⟩, 32), (⟨"ArmourOfTheShyModel", "proposedBy", "(II)I"⟩, 32), (⟨"ArmourOfTheShyModel", "findSpare", "(I)V"⟩, 32), (⟨"ArmourOfTheShyModel", "aheadOf", "(I)I"⟩, 32), (⟨"ArmourOfTheShyModel", "findGets", "(III)V"⟩, 32), (⟨"ArmourOfTheShyModel", "lowestOf", "(I)J"⟩, 32)]
theorem lw_r4 : ∀ q ∈ lw_privs_4, lw_okq q := List.forall_mem_cons.mpr ⟨lw_p48, List.forall_mem_cons.mpr ⟨lw_p49, List.forall_mem_cons.mpr ⟨lw_p50, List.forall_mem_cons.mpr ⟨lw_p51, List.forall_mem_cons.mpr ⟨lw_p52, List.forall_mem_cons.mpr ⟨lw_p53, List.forall_mem_cons.mpr ⟨lw_p54, List.forall_mem_cons.mpr ⟨lw_p55, List.forall_mem_cons.mpr ⟨lw_p56, List.forall_mem_cons.mpr ⟨lw_p57, List.forall_mem_cons.mpr ⟨lw_p58, List.forall_mem_cons.mpr ⟨lw_p59, List.forall_mem_cons.mpr ⟨lw_p60, List.forall_mem_cons.mpr ⟨lw_p61, List.forall_mem_cons.mpr ⟨lw_p62, List.forall_mem_cons.mpr ⟨lw_p63, fun _ h => absurd h List.not_mem_nil⟩⟩⟩⟩⟩⟩⟩⟩⟩⟩⟩⟩⟩⟩⟩⟩
theorem lw_p64 : lw_okq (⟨"ArmourOfTheShyModel", "rains", "()V"⟩, 32) := ⟨⟨by decide +kernel, by decide +kernel⟩, List.mem_of_getElem? (i := 642) (by decide +kernel), List.mem_of_getElem? (i := 1089) (by decide +kernel), List.mem_of_getElem? (i := 1090) (by decide +kernel)⟩
theorem lw_p65 : lw_okq (⟨"ArmourOfTheShyModel", "bitsFor", "([IIII)I"⟩, 32) := ⟨⟨by decide +kernel, by decide +kernel⟩, List.mem_of_getElem? (i := 642) (by decide +kernel), List.mem_of_getElem? (i := 1107) (by decide +kernel), List.mem_of_getElem? (i := 1108) (by decide +kernel)⟩
theorem lw_p66 : lw_okq (⟨"ArmourOfTheShyModel", "isSo", "(I)Z"⟩, 32) := ⟨⟨by decide +kernel, by decide +kernel⟩, List.mem_of_getElem? (i := 642) (by decide +kernel), List.mem_of_getElem? (i := 1111) (by decide +kernel), List.mem_of_getElem? (i := 1112) (by decide +kernel)⟩
theorem lw_p67 : lw_okq (⟨"ArmourOfTheShyModel", "draw", "(I)I"⟩, 32) := ⟨⟨by decide +kernel, by decide +kernel⟩, List.mem_of_getElem? (i := 642) (by decide +kernel), List.mem_of_getElem? (i := 1131) (by decide +kernel), List.mem_of_getElem? (i := 1132) (by decide +kernel)⟩
def lw_privs_5 : List (MethodName × Nat) := [(⟨"ArmourOfTheShyModel", "rains", "()V"⟩, 32), (⟨"ArmourOfTheShyModel", "bitsFor", "([IIII)I"⟩, 32), (⟨"ArmourOfTheShyModel", "isSo", "(I)Z"⟩, 32), (⟨"ArmourOfTheShyModel", "draw", "(I)I"⟩, 32)]
theorem lw_r5 : ∀ q ∈ lw_privs_5, lw_okq q := List.forall_mem_cons.mpr ⟨lw_p64, List.forall_mem_cons.mpr ⟨lw_p65, List.forall_mem_cons.mpr ⟨lw_p66, List.forall_mem_cons.mpr ⟨lw_p67, fun _ h => absurd h List.not_mem_nil⟩⟩⟩⟩
def lw_privs : List (MethodName × Nat) := lw_privs_1 ++ (lw_privs_2 ++ (lw_privs_3 ++ (lw_privs_4 ++ (lw_privs_5))))
def lw_tbl : List Cond := k2_sels lw_privs ++ tables_1
theorem lw_privs_ok : ∀ q ∈ lw_privs, lw_okq q := by
  show ∀ q ∈ lw_privs_1 ++ (lw_privs_2 ++ (lw_privs_3 ++ (lw_privs_4 ++ (lw_privs_5)))), lw_okq q
  exact List.forall_mem_append.mpr ⟨lw_r1, List.forall_mem_append.mpr ⟨lw_r2, List.forall_mem_append.mpr ⟨lw_r3, List.forall_mem_append.mpr ⟨lw_r4, lw_r5⟩⟩⟩⟩
-- ===== end of PART A; then your names; then what follows =====
/-! ===== BEGIN words of one list among another's, by their places ===== -/
theorem goodIn_r {big : List Cond} (ws : List Cond) (ps : List Nat) (hp : ws = ps.filterMap (fun i => big[i]?)) (h : ws.all goodWord = true) : GoodIn big ws := by
  intro w hw
  have h1 := List.all_eq_true.mp h w hw
  rw [hp] at hw
  obtain ⟨i, -, hi⟩ := List.mem_filterMap.mp hw
  have hm : w ∈ big := by first | exact List.mem_of_getElem? hi | exact List.getElem?_mem hi
  exact ⟨hm, good_of_word h1⟩
theorem goodIn_app {big a b : List Cond} (ha : GoodIn big a) (hb : GoodIn big b) : GoodIn big (a ++ b) := fun w h => (List.mem_append.mp h).elim (ha w) (hb w)
theorem goodIn_ca {big a b : List Cond} {c : Cond} (ha : GoodIn big (c :: a)) (hb : GoodIn big b) : GoodIn big (c :: (a ++ b)) := fun w h => (List.mem_cons.mp h).elim (fun e => ha w (List.mem_cons.mpr (Or.inl e))) (fun h => (List.mem_append.mp h).elim (fun h => ha w (List.mem_cons.mpr (Or.inr h))) (hb w))
theorem goodIn_sub {big ws : List Cond} (hm : ∀ w ∈ ws, w ∈ big) (h : ws.all goodWord = true) : GoodIn big ws := fun w hw => ⟨hm w hw, good_of_word (List.all_eq_true.mp h w hw)⟩
/-! ===== END ===== -/

/-! ===== BEGIN printed: names, fields, word lists, decode rows ===== -/
def RX0 : String := "ArmourOfTheShy$City"
def TX0 : u_T := fun k => match k with
  | 0 => ("ArmourOfTheShy$City", "kind", "[I", true)
  | 1 => ("ArmourOfTheShy$City", "figure", "[I", true)
  | 2 => ("ArmourOfTheShy$City", "rust", "[I", true)
  | 3 => ("ArmourOfTheShy$City", "fear", "[I", true)
  | 4 => ("ArmourOfTheShy$City", "sore", "[I", true)
  | 5 => ("ArmourOfTheShy$City", "said", "[I", true)
  | 6 => ("ArmourOfTheShy$City", "suitOf", "[I", true)
  | 7 => ("ArmourOfTheShy$City", "suits", "I", false)
  | 8 => ("ArmourOfTheShy$City", "callers", "I", false)
  | 9 => ("ArmourOfTheShy$City", "paid", "I", false)
  | _ => ("ArmourOfTheShy$City", "day", "I", false)
def tyX0 : Nat → FieldType := fun k => match k with
  | 0 => .array .int
  | 1 => .array .int
  | 2 => .array .int
  | 3 => .array .int
  | 4 => .array .int
  | 5 => .array .int
  | 6 => .array .int
  | 7 => .int
  | 8 => .int
  | 9 => .int
  | _ => .int
abbrev wsX00 : List Cond := u_ws RX0 TX0 11
theorem nmX0 : ∀ a, a < 11 → ∀ b, b < 11 → a ≠ b → (TX0 a).2.1 ≠ (TX0 b).2.1 := by decide +kernel
theorem tyX0_ok : ∀ k, k < 11 → parseFieldDescriptor (TX0 k).2.2.1 = some (tyX0 k) := by decide +kernel
abbrev cX0_init : ByteArray := prog_2_method_1_code
def yX0_init : MethodName := ⟨RX0, "<init>", "()V"⟩
abbrev cX0_copyFrom : ByteArray := prog_2_method_2_code
def yX0_copyFrom : MethodName := ⟨RX0, "copyFrom", "(LArmourOfTheShy$City;)V"⟩
abbrev cX0_addSuit : ByteArray := prog_2_method_3_code
def yX0_addSuit : MethodName := ⟨RX0, "addSuit", "(II)Z"⟩
abbrev cX0_addCaller : ByteArray := prog_2_method_4_code
def yX0_addCaller : MethodName := ⟨RX0, "addCaller", "(I)Z"⟩
abbrev cX0_putIn : ByteArray := prog_2_method_5_code
def yX0_putIn : MethodName := ⟨RX0, "putIn", "(II)V"⟩
abbrev cX0_wearer : ByteArray := prog_2_method_6_code
def yX0_wearer : MethodName := ⟨RX0, "wearer", "(I)I"⟩
abbrev cX0_covers : ByteArray := prog_2_method_7_code
def yX0_covers : MethodName := ⟨RX0, "covers", "(I)I"⟩
abbrev cX0_coversWith : ByteArray := prog_2_method_8_code
def yX0_coversWith : MethodName := ⟨RX0, "coversWith", "(II)I"⟩
abbrev cX0_chafe : ByteArray := prog_2_method_9_code
def yX0_chafe : MethodName := ⟨RX0, "chafe", "(II)I"⟩
abbrev cX0_bravery : ByteArray := prog_2_method_10_code
def yX0_bravery : MethodName := ⟨RX0, "bravery", "(I)I"⟩
abbrev cX0_braveryCovered : ByteArray := prog_2_method_11_code
def yX0_braveryCovered : MethodName := ⟨RX0, "braveryCovered", "(II)I"⟩
abbrev cX0_can : ByteArray := prog_2_method_12_code
def yX0_can : MethodName := ⟨RX0, "can", "(I)Z"⟩
abbrev cX0_canCovered : ByteArray := prog_2_method_13_code
def yX0_canCovered : MethodName := ⟨RX0, "canCovered", "(II)Z"⟩
abbrev cX0_needs : ByteArray := prog_2_method_14_code
def yX0_needs : MethodName := ⟨RX0, "needs", "(I)I"⟩
abbrev cX0_lacks : ByteArray := prog_2_method_15_code
def yX0_lacks : MethodName := ⟨RX0, "lacks", "(I)I"⟩
abbrev cX0_passDays : ByteArray := prog_2_method_16_code
def yX0_passDays : MethodName := ⟨RX0, "passDays", "(I)V"⟩
abbrev cX0_passDayOf : ByteArray := prog_2_method_17_code
def yX0_passDayOf : MethodName := ⟨RX0, "passDayOf", "(I)V"⟩
abbrev cX0_liveDay : ByteArray := prog_2_method_18_code
def yX0_liveDay : MethodName := ⟨RX0, "liveDay", "(I)V"⟩
abbrev cX0_rustUnworn : ByteArray := prog_2_method_19_code
def yX0_rustUnworn : MethodName := ⟨RX0, "rustUnworn", "()V"⟩
abbrev cX0_rainOnAll : ByteArray := prog_2_method_20_code
def yX0_rainOnAll : MethodName := ⟨RX0, "rainOnAll", "()V"⟩
abbrev cX0_allSaid : ByteArray := prog_2_method_21_code
def yX0_allSaid : MethodName := ⟨RX0, "allSaid", "()I"⟩
abbrev cX0_allFear : ByteArray := prog_2_method_22_code
def yX0_allFear : MethodName := ⟨RX0, "allFear", "()I"⟩
def RX1 : String := "ArmourOfTheShy$Dresser"
def TX1 : u_T := fun k => match k with
  | 0 => ("ArmourOfTheShy$Dresser", "best", "[I", true)
  | _ => ("ArmourOfTheShy$Dresser", "canIn", "[I", true)
def tyX1 : Nat → FieldType := fun k => match k with
  | 0 => .array .int
  | _ => .array .int
abbrev wsX10 : List Cond := u_ws RX1 TX1 2
theorem nmX1 : ∀ a, a < 2 → ∀ b, b < 2 → a ≠ b → (TX1 a).2.1 ≠ (TX1 b).2.1 := by decide +kernel
theorem tyX1_ok : ∀ k, k < 2 → parseFieldDescriptor (TX1 k).2.2.1 = some (tyX1 k) := by decide +kernel
abbrev cX1_init : ByteArray := prog_3_method_1_code
def yX1_init : MethodName := ⟨RX1, "<init>", "()V"⟩
abbrev cX1_most : ByteArray := prog_3_method_2_code
def yX1_most : MethodName := ⟨RX1, "most", "(LArmourOfTheShy$City;)I"⟩
abbrev cX1_suitFor : ByteArray := prog_3_method_3_code
def yX1_suitFor : MethodName := ⟨RX1, "suitFor", "(LArmourOfTheShy$City;I)I"⟩
abbrev cX1_bitsOfCan : ByteArray := prog_3_method_4_code
def yX1_bitsOfCan : MethodName := ⟨RX1, "bitsOfCan", "(LArmourOfTheShy$City;I)I"⟩
abbrev cX1_mostOn : ByteArray := prog_3_method_5_code
def yX1_mostOn : MethodName := ⟨RX1, "mostOn", "(LArmourOfTheShy$City;II)I"⟩
abbrev cX1_mostWith : ByteArray := prog_3_method_6_code
def yX1_mostWith : MethodName := ⟨RX1, "mostWith", "(III)I"⟩
abbrev cX1_firstBest : ByteArray := prog_3_method_7_code
def yX1_firstBest : MethodName := ⟨RX1, "firstBest", "(LArmourOfTheShy$City;II)I"⟩
def RX2 : String := "ArmourOfTheShy$Letters"
def TX2 : u_T := fun k => match k with
  | 0 => ("ArmourOfTheShy$Letters", "signs", "[C", true)
  | _ => ("ArmourOfTheShy$Letters", "count", "I", false)
def tyX2 : Nat → FieldType := fun k => match k with
  | 0 => .array .char
  | _ => .int
abbrev wsX20 : List Cond := u_ws RX2 TX2 2
theorem nmX2 : ∀ a, a < 2 → ∀ b, b < 2 → a ≠ b → (TX2 a).2.1 ≠ (TX2 b).2.1 := by decide +kernel
theorem tyX2_ok : ∀ k, k < 2 → parseFieldDescriptor (TX2 k).2.2.1 = some (tyX2 k) := by decide +kernel
abbrev cX2_init : ByteArray := prog_4_method_1_code
def yX2_init : MethodName := ⟨RX2, "<init>", "()V"⟩
abbrev cX2_add : ByteArray := prog_4_method_2_code
def yX2_add : MethodName := ⟨RX2, "add", "(I)I"⟩
abbrev cX2_wrongPlace : ByteArray := prog_4_method_3_code
def yX2_wrongPlace : MethodName := ⟨RX2, "wrongPlace", "()I"⟩
abbrev cX2_fits : ByteArray := prog_4_method_4_code
def yX2_fits : MethodName := ⟨RX2, "fits", "(II)Z"⟩
abbrev cX2_signsBehind : ByteArray := prog_4_method_5_code
def yX2_signsBehind : MethodName := ⟨RX2, "signsBehind", "(I)I"⟩
abbrev cX2_lengthAt : ByteArray := prog_4_method_6_code
def yX2_lengthAt : MethodName := ⟨RX2, "lengthAt", "(I)I"⟩
abbrev cX2_takes : ByteArray := prog_4_method_7_code
def yX2_takes : MethodName := ⟨RX2, "takes", "(LArmourOfTheShy$City;I)Z"⟩
abbrev cX2_digit : ByteArray := prog_4_method_8_code
def yX2_digit : MethodName := ⟨RX2, "digit", "(I)I"⟩
abbrev cX2_number : ByteArray := prog_4_method_9_code
def yX2_number : MethodName := ⟨RX2, "number", "(I)I"⟩
abbrev cX2_takesWearing : ByteArray := prog_4_method_10_code
def yX2_takesWearing : MethodName := ⟨RX2, "takesWearing", "(LArmourOfTheShy$City;II)Z"⟩
abbrev cX2_takesUndressing : ByteArray := prog_4_method_11_code
def yX2_takesUndressing : MethodName := ⟨RX2, "takesUndressing", "(LArmourOfTheShy$City;I)Z"⟩
abbrev cX2_takesFear : ByteArray := prog_4_method_12_code
def yX2_takesFear : MethodName := ⟨RX2, "takesFear", "(LArmourOfTheShy$City;II)Z"⟩
abbrev cX2_takesRust : ByteArray := prog_4_method_13_code
def yX2_takesRust : MethodName := ⟨RX2, "takesRust", "(LArmourOfTheShy$City;II)Z"⟩
def RX3 : String := "ArmourOfTheShy"
def TX3 : u_T := fun k => match k with
  | 0 => ("ArmourOfTheShy", "now", "LArmourOfTheShy$City;", true)
  | 1 => ("ArmourOfTheShy", "thought", "LArmourOfTheShy$City;", true)
  | 2 => ("ArmourOfTheShy", "kept", "LArmourOfTheShy$City;", true)
  | 3 => ("ArmourOfTheShy", "isKept", "Z", false)
  | 4 => ("ArmourOfTheShy", "letters", "LArmourOfTheShy$Letters;", true)
  | 5 => ("ArmourOfTheShy", "dresser", "LArmourOfTheShy$Dresser;", true)
  | 6 => ("ArmourOfTheShy", "told", "[I", true)
  | 7 => ("ArmourOfTheShy", "toldCount", "I", false)
  | 8 => ("ArmourOfTheShy", "refusals", "[I", true)
  | 9 => ("ArmourOfTheShy", "totals", "[I", true)
  | 10 => ("ArmourOfTheShy", "firstWish", "[I", true)
  | _ => ("ArmourOfTheShy", "otherWish", "[I", true)
def tyX3 : Nat → FieldType := fun k => match k with
  | 0 => .object "ArmourOfTheShy$City"
  | 1 => .object "ArmourOfTheShy$City"
  | 2 => .object "ArmourOfTheShy$City"
  | 3 => .boolean
  | 4 => .object "ArmourOfTheShy$Letters"
  | 5 => .object "ArmourOfTheShy$Dresser"
  | 6 => .array .int
  | 7 => .int
  | 8 => .array .int
  | 9 => .array .int
  | 10 => .array .int
  | _ => .array .int
abbrev wsX30 : List Cond := u_ws RX3 TX3 12
theorem nmX3 : ∀ a, a < 12 → ∀ b, b < 12 → a ≠ b → (TX3 a).2.1 ≠ (TX3 b).2.1 := by decide +kernel
theorem tyX3_ok : ∀ k, k < 12 → parseFieldDescriptor (TX3 k).2.2.1 = some (tyX3 k) := by decide +kernel
abbrev cX3_init : ByteArray := prog_1_method_1_code
def yX3_init : MethodName := ⟨RX3, "<init>", "()V"⟩
abbrev cX3_letter : ByteArray := prog_1_method_2_code
def yX3_letter : MethodName := ⟨RX3, "letter", "(I)I"⟩
abbrev cX3_city : ByteArray := prog_1_method_3_code
def yX3_city : MethodName := ⟨RX3, "city", "()I"⟩
abbrev cX3_suit : ByteArray := prog_1_method_4_code
def yX3_suit : MethodName := ⟨RX3, "suit", "(II)I"⟩
abbrev cX3_caller : ByteArray := prog_1_method_5_code
def yX3_caller : MethodName := ⟨RX3, "caller", "(II)I"⟩
abbrev cX3_courage : ByteArray := prog_1_method_6_code
def yX3_courage : MethodName := ⟨RX3, "courage", "(I)I"⟩
abbrev cX3_wears : ByteArray := prog_1_method_7_code
def yX3_wears : MethodName := ⟨RX3, "wears", "(II)I"⟩
abbrev cX3_takesOff : ByteArray := prog_1_method_8_code
def yX3_takesOff : MethodName := ⟨RX3, "takesOff", "(I)I"⟩
abbrev cX3_fears : ByteArray := prog_1_method_9_code
def yX3_fears : MethodName := ⟨RX3, "fears", "(II)I"⟩
abbrev cX3_rusts : ByteArray := prog_1_method_10_code
def yX3_rusts : MethodName := ⟨RX3, "rusts", "(II)I"⟩
abbrev cX3_soothes : ByteArray := prog_1_method_11_code
def yX3_soothes : MethodName := ⟨RX3, "soothes", "(II)I"⟩
abbrev cX3_turn : ByteArray := prog_1_method_12_code
def yX3_turn : MethodName := ⟨RX3, "turn", "(III)I"⟩
abbrev cX3_days : ByteArray := prog_1_method_13_code
def yX3_days : MethodName := ⟨RX3, "days", "(I)I"⟩
abbrev cX3_callerThen : ByteArray := prog_1_method_14_code
def yX3_callerThen : MethodName := ⟨RX3, "callerThen", "(III)I"⟩
abbrev cX3_suitThen : ByteArray := prog_1_method_15_code
def yX3_suitThen : MethodName := ⟨RX3, "suitThen", "(II)I"⟩
abbrev cX3_cost : ByteArray := prog_1_method_16_code
def yX3_cost : MethodName := ⟨RX3, "cost", "(I)I"⟩
abbrev cX3_proposes : ByteArray := prog_1_method_17_code
def yX3_proposes : MethodName := ⟨RX3, "proposes", "(I)I"⟩
abbrev cX3_out : ByteArray := prog_1_method_18_code
def yX3_out : MethodName := ⟨RX3, "out", "(I)I"⟩
abbrev cX3_still : ByteArray := prog_1_method_19_code
def yX3_still : MethodName := ⟨RX3, "still", "()I"⟩
abbrev cX3_dress : ByteArray := prog_1_method_20_code
def yX3_dress : MethodName := ⟨RX3, "dress", "(I)I"⟩
abbrev cX3_suitBest : ByteArray := prog_1_method_21_code
def yX3_suitBest : MethodName := ⟨RX3, "suitBest", "(III)I"⟩
abbrev cX3_change : ByteArray := prog_1_method_22_code
def yX3_change : MethodName := ⟨RX3, "change", "(I)I"⟩
abbrev cX3_fewest : ByteArray := prog_1_method_23_code
def yX3_fewest : MethodName := ⟨RX3, "fewest", "(I)I"⟩
abbrev cX3_spare : ByteArray := prog_1_method_24_code
def yX3_spare : MethodName := ⟨RX3, "spare", "(II)I"⟩
abbrev cX3_cheer : ByteArray := prog_1_method_25_code
def yX3_cheer : MethodName := ⟨RX3, "cheer", "(I)I"⟩
abbrev cX3_boldest : ByteArray := prog_1_method_26_code
def yX3_boldest : MethodName := ⟨RX3, "boldest", "(I)I"⟩
abbrev cX3_left : ByteArray := prog_1_method_27_code
def yX3_left : MethodName := ⟨RX3, "left", "()I"⟩
abbrev cX3_order : ByteArray := prog_1_method_28_code
def yX3_order : MethodName := ⟨RX3, "order", "(I)I"⟩
abbrev cX3_heard : ByteArray := prog_1_method_29_code
def yX3_heard : MethodName := ⟨RX3, "heard", "(I)I"⟩
abbrev cX3_rusted : ByteArray := prog_1_method_30_code
def yX3_rusted : MethodName := ⟨RX3, "rusted", "(I)I"⟩
abbrev cX3_two : ByteArray := prog_1_method_31_code
def yX3_two : MethodName := ⟨RX3, "two", "(III)I"⟩
abbrev cX3_rain : ByteArray := prog_1_method_32_code
def yX3_rain : MethodName := ⟨RX3, "rain", "(IIIII)J"⟩
abbrev cX3_mean : ByteArray := prog_1_method_33_code
def yX3_mean : MethodName := ⟨RX3, "mean", "(I)J"⟩
abbrev cX3_whatIs : ByteArray := prog_1_method_34_code
def yX3_whatIs : MethodName := ⟨RX3, "whatIs", "(II)I"⟩
abbrev cX3_row : ByteArray := prog_1_method_35_code
def yX3_row : MethodName := ⟨RX3, "row", "(I)I"⟩
abbrev cX3_judge : ByteArray := prog_1_method_36_code
def yX3_judge : MethodName := ⟨RX3, "judge", "()I"⟩
abbrev cX3_clear : ByteArray := prog_1_method_37_code
def yX3_clear : MethodName := ⟨RX3, "clear", "()I"⟩
abbrev cX3_lots : ByteArray := prog_1_method_38_code
def yX3_lots : MethodName := ⟨RX3, "lots", "(III)I"⟩
abbrev cX3_image : ByteArray := prog_1_method_39_code
def yX3_image : MethodName := ⟨RX3, "image", "()I"⟩
abbrev cX3_on : ByteArray := prog_1_method_40_code
def yX3_on : MethodName := ⟨RX3, "on", "()I"⟩
abbrev cX3_count : ByteArray := prog_1_method_41_code
def yX3_count : MethodName := ⟨RX3, "count", "(I)I"⟩
abbrev cX3_refuse : ByteArray := prog_1_method_42_code
def yX3_refuse : MethodName := ⟨RX3, "refuse", "(I)I"⟩
abbrev cX3_firstOf : ByteArray := prog_1_method_43_code
def yX3_firstOf : MethodName := ⟨RX3, "firstOf", "(III)I"⟩
abbrev cX3_range : ByteArray := prog_1_method_44_code
def yX3_range : MethodName := ⟨RX3, "range", "(III)I"⟩
abbrev cX3_anyOf : ByteArray := prog_1_method_45_code
def yX3_anyOf : MethodName := ⟨RX3, "anyOf", "(II)I"⟩
abbrev cX3_anySuit : ByteArray := prog_1_method_46_code
def yX3_anySuit : MethodName := ⟨RX3, "anySuit", "(I)I"⟩
abbrev cX3_anyCaller : ByteArray := prog_1_method_47_code
def yX3_anyCaller : MethodName := ⟨RX3, "anyCaller", "(I)I"⟩
abbrev cX3_inSuit : ByteArray := prog_1_method_48_code
def yX3_inSuit : MethodName := ⟨RX3, "inSuit", "(I)I"⟩
abbrev cX3_rainRange : ByteArray := prog_1_method_49_code
def yX3_rainRange : MethodName := ⟨RX3, "rainRange", "(III)I"⟩
abbrev cX3_think : ByteArray := prog_1_method_50_code
def yX3_think : MethodName := ⟨RX3, "think", "()V"⟩
abbrev cX3_allSaidBehind : ByteArray := prog_1_method_51_code
def yX3_allSaidBehind : MethodName := ⟨RX3, "allSaidBehind", "(I)I"⟩
abbrev cX3_firstToPropose : ByteArray := prog_1_method_52_code
def yX3_firstToPropose : MethodName := ⟨RX3, "firstToPropose", "()I"⟩
abbrev cX3_suitsAhead : ByteArray := prog_1_method_53_code
def yX3_suitsAhead : MethodName := ⟨RX3, "suitsAhead", "(I)I"⟩
abbrev cX3_thinkPair : ByteArray := prog_1_method_54_code
def yX3_thinkPair : MethodName := ⟨RX3, "thinkPair", "(IIII)V"⟩
abbrev cX3_wish : ByteArray := prog_1_method_55_code
def yX3_wish : MethodName := ⟨RX3, "wish", "(II)I"⟩
abbrev cX3_saidInRain : ByteArray := prog_1_method_56_code
def yX3_saidInRain : MethodName := ⟨RX3, "saidInRain", "(III)I"⟩
abbrev cX3_waysOfRain : ByteArray := prog_1_method_57_code
def yX3_waysOfRain : MethodName := ⟨RX3, "waysOfRain", "(III)J"⟩
abbrev cX3_partOf : ByteArray := prog_1_method_58_code
def yX3_partOf : MethodName := ⟨RX3, "partOf", "(JJI)J"⟩
abbrev cX3_saysTheRow : ByteArray := prog_1_method_59_code
def yX3_saysTheRow : MethodName := ⟨RX3, "saysTheRow", "(I)Z"⟩
def RX4 : String := "ArmourOfTheShyModel"
def TX4 : u_T := fun k => match k with
  | 0 => ("ArmourOfTheShyModel", "refused", "[I", true)
  | 1 => ("ArmourOfTheShyModel", "kind", "[I", true)
  | 2 => ("ArmourOfTheShyModel", "figure", "[I", true)
  | 3 => ("ArmourOfTheShyModel", "rust", "[I", true)
  | 4 => ("ArmourOfTheShyModel", "fear", "[I", true)
  | 5 => ("ArmourOfTheShyModel", "sore", "[I", true)
  | 6 => ("ArmourOfTheShyModel", "said", "[I", true)
  | 7 => ("ArmourOfTheShyModel", "worn", "[I", true)
  | 8 => ("ArmourOfTheShyModel", "suits", "I", false)
  | 9 => ("ArmourOfTheShyModel", "callers", "I", false)
  | 10 => ("ArmourOfTheShyModel", "paid", "I", false)
  | 11 => ("ArmourOfTheShyModel", "day", "I", false)
  | 12 => ("ArmourOfTheShyModel", "tape", "[I", true)
  | 13 => ("ArmourOfTheShyModel", "letter", "[I", true)
  | 14 => ("ArmourOfTheShyModel", "letterAt", "[I", true)
  | 15 => ("ArmourOfTheShyModel", "told", "[I", true)
  | 16 => ("ArmourOfTheShyModel", "taped", "I", false)
  | 17 => ("ArmourOfTheShyModel", "at", "I", false)
  | 18 => ("ArmourOfTheShyModel", "statements", "I", false)
  | 19 => ("ArmourOfTheShyModel", "kept", "[I", true)
  | 20 => ("ArmourOfTheShyModel", "hasImage", "Z", false)
  | 21 => ("ArmourOfTheShyModel", "isKeeping", "Z", false)
  | 22 => ("ArmourOfTheShyModel", "cursor", "I", false)
  | 23 => ("ArmourOfTheShyModel", "dressed", "[[I", true)
  | 24 => ("ArmourOfTheShyModel", "bestSuit", "I", false)
  | 25 => ("ArmourOfTheShyModel", "bestSaid", "I", false)
  | 26 => ("ArmourOfTheShyModel", "spareOne", "I", false)
  | 27 => ("ArmourOfTheShyModel", "spareSaid", "I", false)
  | 28 => ("ArmourOfTheShyModel", "gets", "[I", true)
  | 29 => ("ArmourOfTheShyModel", "row", "[I", true)
  | 30 => ("ArmourOfTheShyModel", "rowMany", "I", false)
  | _ => ("ArmourOfTheShyModel", "lots", "I", false)
def tyX4 : Nat → FieldType := fun k => match k with
  | 0 => .array .int
  | 1 => .array .int
  | 2 => .array .int
  | 3 => .array .int
  | 4 => .array .int
  | 5 => .array .int
  | 6 => .array .int
  | 7 => .array .int
  | 8 => .int
  | 9 => .int
  | 10 => .int
  | 11 => .int
  | 12 => .array .int
  | 13 => .array .int
  | 14 => .array .int
  | 15 => .array .int
  | 16 => .int
  | 17 => .int
  | 18 => .int
  | 19 => .array .int
  | 20 => .boolean
  | 21 => .boolean
  | 22 => .int
  | 23 => .array (.array .int)
  | 24 => .int
  | 25 => .int
  | 26 => .int
  | 27 => .int
  | 28 => .array .int
  | 29 => .array .int
  | 30 => .int
  | _ => .int
abbrev wsX40 : List Cond := u_ws RX4 TX4 32
theorem nmX4 : ∀ a, a < 32 → ∀ b, b < 32 → a ≠ b → (TX4 a).2.1 ≠ (TX4 b).2.1 := by decide +kernel
theorem tyX4_ok : ∀ k, k < 32 → parseFieldDescriptor (TX4 k).2.2.1 = some (tyX4 k) := by decide +kernel
abbrev cX4_init : ByteArray := prog_6_method_1_code
def yX4_init : MethodName := ⟨RX4, "<init>", "()V"⟩
abbrev cX4_no : ByteArray := prog_6_method_2_code
def yX4_no : MethodName := ⟨RX4, "no", "(I)I"⟩
abbrev cX4_lower : ByteArray := prog_6_method_3_code
def yX4_lower : MethodName := ⟨RX4, "lower", "(I)I"⟩
abbrev cX4_lowestOf : ByteArray := prog_6_method_4_code
def yX4_lowestOf : MethodName := ⟨RX4, "lowestOf", "(I)J"⟩
abbrev cX4_isIn : ByteArray := prog_6_method_5_code
def yX4_isIn : MethodName := ⟨RX4, "isIn", "(III)Z"⟩
abbrev cX4_bound : ByteArray := prog_6_method_6_code
def yX4_bound : MethodName := ⟨RX4, "bound", "(III)I"⟩
abbrev cX4_held : ByteArray := prog_6_method_7_code
def yX4_held : MethodName := ⟨RX4, "held", "(II)I"⟩
abbrev cX4_has : ByteArray := prog_6_method_8_code
def yX4_has : MethodName := ⟨RX4, "has", "(II)Z"⟩
abbrev cX4_bits : ByteArray := prog_6_method_9_code
def yX4_bits : MethodName := ⟨RX4, "bits", "(I)I"⟩
abbrev cX4_isSuit : ByteArray := prog_6_method_10_code
def yX4_isSuit : MethodName := ⟨RX4, "isSuit", "(I)Z"⟩
abbrev cX4_isCaller : ByteArray := prog_6_method_11_code
def yX4_isCaller : MethodName := ⟨RX4, "isCaller", "(I)Z"⟩
abbrev cX4_letter : ByteArray := prog_6_method_12_code
def yX4_letter : MethodName := ⟨RX4, "letter", "(I)I"⟩
abbrev cX4_letterNow : ByteArray := prog_6_method_13_code
def yX4_letterNow : MethodName := ⟨RX4, "letterNow", "()I"⟩
abbrev cX4_readsDigits : ByteArray := prog_6_method_14_code
def yX4_readsDigits : MethodName := ⟨RX4, "readsDigits", "(II)Z"⟩
abbrev cX4_kindOf : ByteArray := prog_6_method_15_code
def yX4_kindOf : MethodName := ⟨RX4, "kindOf", "(I)I"⟩
abbrev cX4_readsSuit : ByteArray := prog_6_method_16_code
def yX4_readsSuit : MethodName := ⟨RX4, "readsSuit", "(I)Z"⟩
abbrev cX4_readsAll : ByteArray := prog_6_method_17_code
def yX4_readsAll : MethodName := ⟨RX4, "readsAll", "(II)Z"⟩
abbrev cX4_statement : ByteArray := prog_6_method_18_code
def yX4_statement : MethodName := ⟨RX4, "statement", "()Z"⟩
abbrev cX4_comesSuit : ByteArray := prog_6_method_19_code
def yX4_comesSuit : MethodName := ⟨RX4, "comesSuit", "(II)Z"⟩
abbrev cX4_comesCaller : ByteArray := prog_6_method_20_code
def yX4_comesCaller : MethodName := ⟨RX4, "comesCaller", "(I)Z"⟩
abbrev cX4_comesOf : ByteArray := prog_6_method_21_code
def yX4_comesOf : MethodName := ⟨RX4, "comesOf", "(III)Z"⟩
abbrev cX4_comesDays : ByteArray := prog_6_method_22_code
def yX4_comesDays : MethodName := ⟨RX4, "comesDays", "(I)Z"⟩
abbrev cX4_comes : ByteArray := prog_6_method_23_code
def yX4_comes : MethodName := ⟨RX4, "comes", "(I)Z"⟩
abbrev cX4_city : ByteArray := prog_6_method_24_code
def yX4_city : MethodName := ⟨RX4, "city", "()I"⟩
abbrev cX4_passes : ByteArray := prog_6_method_25_code
def yX4_passes : MethodName := ⟨RX4, "passes", "([I)V"⟩
abbrev cX4_passOne : ByteArray := prog_6_method_26_code
def yX4_passOne : MethodName := ⟨RX4, "passOne", "(I)I"⟩
abbrev cX4_passesAll : ByteArray := prog_6_method_27_code
def yX4_passesAll : MethodName := ⟨RX4, "passesAll", "(IZ)V"⟩
abbrev cX4_thinks : ByteArray := prog_6_method_28_code
def yX4_thinks : MethodName := ⟨RX4, "thinks", "()V"⟩
abbrev cX4_forgets : ByteArray := prog_6_method_29_code
def yX4_forgets : MethodName := ⟨RX4, "forgets", "()V"⟩
abbrev cX4_image : ByteArray := prog_6_method_30_code
def yX4_image : MethodName := ⟨RX4, "image", "()I"⟩
abbrev cX4_on : ByteArray := prog_6_method_31_code
def yX4_on : MethodName := ⟨RX4, "on", "()I"⟩
abbrev cX4_covers : ByteArray := prog_6_method_32_code
def yX4_covers : MethodName := ⟨RX4, "covers", "(I)I"⟩
abbrev cX4_chafes : ByteArray := prog_6_method_33_code
def yX4_chafes : MethodName := ⟨RX4, "chafes", "(II)I"⟩
abbrev cX4_costs : ByteArray := prog_6_method_34_code
def yX4_costs : MethodName := ⟨RX4, "costs", "(I)I"⟩
abbrev cX4_wearerOf : ByteArray := prog_6_method_35_code
def yX4_wearerOf : MethodName := ⟨RX4, "wearerOf", "(I)I"⟩
abbrev cX4_putsOn : ByteArray := prog_6_method_36_code
def yX4_putsOn : MethodName := ⟨RX4, "putsOn", "(II)V"⟩
abbrev cX4_courageIn : ByteArray := prog_6_method_37_code
def yX4_courageIn : MethodName := ⟨RX4, "courageIn", "(II)I"⟩
abbrev cX4_courageOf : ByteArray := prog_6_method_38_code
def yX4_courageOf : MethodName := ⟨RX4, "courageOf", "(I)I"⟩
abbrev cX4_isEnough : ByteArray := prog_6_method_39_code
def yX4_isEnough : MethodName := ⟨RX4, "isEnough", "(II)Z"⟩
abbrev cX4_canSay : ByteArray := prog_6_method_40_code
def yX4_canSay : MethodName := ⟨RX4, "canSay", "(I)Z"⟩
abbrev cX4_lacks : ByteArray := prog_6_method_41_code
def yX4_lacks : MethodName := ⟨RX4, "lacks", "(I)I"⟩
abbrev cX4_goesCaller : ByteArray := prog_6_method_42_code
def yX4_goesCaller : MethodName := ⟨RX4, "goesCaller", "(I)V"⟩
abbrev cX4_goesDay : ByteArray := prog_6_method_43_code
def yX4_goesDay : MethodName := ⟨RX4, "goesDay", "()V"⟩
abbrev cX4_goes : ByteArray := prog_6_method_44_code
def yX4_goes : MethodName := ⟨RX4, "goes", "(I)V"⟩
abbrev cX4_allOf : ByteArray := prog_6_method_45_code
def yX4_allOf : MethodName := ⟨RX4, "allOf", "([I)I"⟩
abbrev cX4_suit : ByteArray := prog_6_method_46_code
def yX4_suit : MethodName := ⟨RX4, "suit", "(II)I"⟩
abbrev cX4_caller : ByteArray := prog_6_method_47_code
def yX4_caller : MethodName := ⟨RX4, "caller", "(II)I"⟩
abbrev cX4_courage : ByteArray := prog_6_method_48_code
def yX4_courage : MethodName := ⟨RX4, "courage", "(I)I"⟩
abbrev cX4_suitOf : ByteArray := prog_6_method_49_code
def yX4_suitOf : MethodName := ⟨RX4, "suitOf", "(I)I"⟩
abbrev cX4_wears : ByteArray := prog_6_method_50_code
def yX4_wears : MethodName := ⟨RX4, "wears", "(II)I"⟩
abbrev cX4_takesOff : ByteArray := prog_6_method_51_code
def yX4_takesOff : MethodName := ⟨RX4, "takesOff", "(I)I"⟩
abbrev cX4_fears : ByteArray := prog_6_method_52_code
def yX4_fears : MethodName := ⟨RX4, "fears", "(II)I"⟩
abbrev cX4_rusts : ByteArray := prog_6_method_53_code
def yX4_rusts : MethodName := ⟨RX4, "rusts", "(II)I"⟩
abbrev cX4_soothes : ByteArray := prog_6_method_54_code
def yX4_soothes : MethodName := ⟨RX4, "soothes", "(II)I"⟩
abbrev cX4_turn : ByteArray := prog_6_method_55_code
def yX4_turn : MethodName := ⟨RX4, "turn", "(III)I"⟩
abbrev cX4_days : ByteArray := prog_6_method_56_code
def yX4_days : MethodName := ⟨RX4, "days", "(I)I"⟩
abbrev cX4_notDays : ByteArray := prog_6_method_57_code
def yX4_notDays : MethodName := ⟨RX4, "notDays", "(I)I"⟩
abbrev cX4_callerThen : ByteArray := prog_6_method_58_code
def yX4_callerThen : MethodName := ⟨RX4, "callerThen", "(III)I"⟩
abbrev cX4_suitThen : ByteArray := prog_6_method_59_code
def yX4_suitThen : MethodName := ⟨RX4, "suitThen", "(II)I"⟩
abbrev cX4_cost : ByteArray := prog_6_method_60_code
def yX4_cost : MethodName := ⟨RX4, "cost", "(I)I"⟩
abbrev cX4_proposesWhen : ByteArray := prog_6_method_61_code
def yX4_proposesWhen : MethodName := ⟨RX4, "proposesWhen", "(I)I"⟩
abbrev cX4_firstToPropose : ByteArray := prog_6_method_62_code
def yX4_firstToPropose : MethodName := ⟨RX4, "firstToPropose", "()I"⟩
abbrev cX4_proposes : ByteArray := prog_6_method_63_code
def yX4_proposes : MethodName := ⟨RX4, "proposes", "(I)I"⟩
abbrev cX4_out : ByteArray := prog_6_method_64_code
def yX4_out : MethodName := ⟨RX4, "out", "(I)I"⟩
abbrev cX4_saidIn : ByteArray := prog_6_method_65_code
def yX4_saidIn : MethodName := ⟨RX4, "saidIn", "(I)I"⟩
abbrev cX4_still : ByteArray := prog_6_method_66_code
def yX4_still : MethodName := ⟨RX4, "still", "()I"⟩
abbrev cX4_worthIn : ByteArray := prog_6_method_67_code
def yX4_worthIn : MethodName := ⟨RX4, "worthIn", "(II)I"⟩
abbrev cX4_findDressed : ByteArray := prog_6_method_68_code
def yX4_findDressed : MethodName := ⟨RX4, "findDressed", "()V"⟩
abbrev cX4_dressedIn : ByteArray := prog_6_method_69_code
def yX4_dressedIn : MethodName := ⟨RX4, "dressedIn", "(II)I"⟩
abbrev cX4_dress : ByteArray := prog_6_method_70_code
def yX4_dress : MethodName := ⟨RX4, "dress", "(I)I"⟩
abbrev cX4_findSuit : ByteArray := prog_6_method_71_code
def yX4_findSuit : MethodName := ⟨RX4, "findSuit", "(II)V"⟩
abbrev cX4_suitBest : ByteArray := prog_6_method_72_code
def yX4_suitBest : MethodName := ⟨RX4, "suitBest", "(III)I"⟩
abbrev cX4_change : ByteArray := prog_6_method_73_code
def yX4_change : MethodName := ⟨RX4, "change", "(I)I"⟩
abbrev cX4_proposedBy : ByteArray := prog_6_method_74_code
def yX4_proposedBy : MethodName := ⟨RX4, "proposedBy", "(II)I"⟩
abbrev cX4_dressedOnes : ByteArray := prog_6_method_75_code
def yX4_dressedOnes : MethodName := ⟨RX4, "dressedOnes", "()I"⟩
abbrev cX4_fewest : ByteArray := prog_6_method_76_code
def yX4_fewest : MethodName := ⟨RX4, "fewest", "(I)I"⟩
abbrev cX4_findSpare : ByteArray := prog_6_method_77_code
def yX4_findSpare : MethodName := ⟨RX4, "findSpare", "(I)V"⟩
abbrev cX4_spare : ByteArray := prog_6_method_78_code
def yX4_spare : MethodName := ⟨RX4, "spare", "(II)I"⟩
abbrev cX4_cheer : ByteArray := prog_6_method_79_code
def yX4_cheer : MethodName := ⟨RX4, "cheer", "(I)I"⟩
abbrev cX4_boldest : ByteArray := prog_6_method_80_code
def yX4_boldest : MethodName := ⟨RX4, "boldest", "(I)I"⟩
abbrev cX4_left : ByteArray := prog_6_method_81_code
def yX4_left : MethodName := ⟨RX4, "left", "()I"⟩
abbrev cX4_aheadOf : ByteArray := prog_6_method_82_code
def yX4_aheadOf : MethodName := ⟨RX4, "aheadOf", "(I)I"⟩
abbrev cX4_order : ByteArray := prog_6_method_83_code
def yX4_order : MethodName := ⟨RX4, "order", "(I)I"⟩
abbrev cX4_heard : ByteArray := prog_6_method_84_code
def yX4_heard : MethodName := ⟨RX4, "heard", "(I)I"⟩
abbrev cX4_rusted : ByteArray := prog_6_method_85_code
def yX4_rusted : MethodName := ⟨RX4, "rusted", "(I)I"⟩
abbrev cX4_findGets : ByteArray := prog_6_method_86_code
def yX4_findGets : MethodName := ⟨RX4, "findGets", "(III)V"⟩
abbrev cX4_two : ByteArray := prog_6_method_87_code
def yX4_two : MethodName := ⟨RX4, "two", "(III)I"⟩
abbrev cX4_divisor : ByteArray := prog_6_method_88_code
def yX4_divisor : MethodName := ⟨RX4, "divisor", "(JJ)J"⟩
abbrev cX4_partOf : ByteArray := prog_6_method_89_code
def yX4_partOf : MethodName := ⟨RX4, "partOf", "(JJI)J"⟩
abbrev cX4_rains : ByteArray := prog_6_method_90_code
def yX4_rains : MethodName := ⟨RX4, "rains", "()V"⟩
abbrev cX4_rain : ByteArray := prog_6_method_91_code
def yX4_rain : MethodName := ⟨RX4, "rain", "(IIIII)J"⟩
abbrev cX4_mean : ByteArray := prog_6_method_92_code
def yX4_mean : MethodName := ⟨RX4, "mean", "(I)J"⟩
abbrev cX4_isSo : ByteArray := prog_6_method_93_code
def yX4_isSo : MethodName := ⟨RX4, "isSo", "(I)Z"⟩
abbrev cX4_bitsFor : ByteArray := prog_6_method_94_code
def yX4_bitsFor : MethodName := ⟨RX4, "bitsFor", "([IIII)I"⟩
abbrev cX4_whatIs : ByteArray := prog_6_method_95_code
def yX4_whatIs : MethodName := ⟨RX4, "whatIs", "(II)I"⟩
abbrev cX4_row : ByteArray := prog_6_method_96_code
def yX4_row : MethodName := ⟨RX4, "row", "(I)I"⟩
abbrev cX4_judge : ByteArray := prog_6_method_97_code
def yX4_judge : MethodName := ⟨RX4, "judge", "()I"⟩
abbrev cX4_clear : ByteArray := prog_6_method_98_code
def yX4_clear : MethodName := ⟨RX4, "clear", "()I"⟩
abbrev cX4_draw : ByteArray := prog_6_method_99_code
def yX4_draw : MethodName := ⟨RX4, "draw", "(I)I"⟩
abbrev cX4_lots : ByteArray := prog_6_method_100_code
def yX4_lots : MethodName := ⟨RX4, "lots", "(III)I"⟩
abbrev cX4_count : ByteArray := prog_6_method_101_code
def yX4_count : MethodName := ⟨RX4, "count", "(I)I"⟩
def RJ11 : String := "java/lang/Character"
def TJ11 : u_T := fun k => match k with
  | _ => ("", "", "", false)
def tyJ11 : Nat → FieldType := fun k => match k with
  | _ => .int
abbrev wsJ110 : List Cond := u_ws RJ11 TJ11 0
theorem nmJ11 : ∀ a, a < 0 → ∀ b, b < 0 → a ≠ b → (TJ11 a).2.1 ≠ (TJ11 b).2.1 := by decide +kernel
theorem tyJ11_ok : ∀ k, k < 0 → parseFieldDescriptor (TJ11 k).2.2.1 = some (tyJ11 k) := by decide +kernel
abbrev cJ11_isValidCodePoint_9a6ad : ByteArray := prog_7_method_11_code
def yJ11_isValidCodePoint_9a6ad : MethodName := ⟨RJ11, "isValidCodePoint", "(I)Z"⟩
abbrev cJ11_highSurrogate_5068e : ByteArray := prog_7_method_28_code
def yJ11_highSurrogate_5068e : MethodName := ⟨RJ11, "highSurrogate", "(I)C"⟩
abbrev cJ11_lowSurrogate_5068e : ByteArray := prog_7_method_29_code
def yJ11_lowSurrogate_5068e : MethodName := ⟨RJ11, "lowSurrogate", "(I)C"⟩
def RJ9 : String := "java/lang/Math"
def TJ9 : u_T := fun k => match k with
  | _ => ("", "", "", false)
def tyJ9 : Nat → FieldType := fun k => match k with
  | _ => .int
abbrev wsJ90 : List Cond := u_ws RJ9 TJ9 0
theorem nmJ9 : ∀ a, a < 0 → ∀ b, b < 0 → a ≠ b → (TJ9 a).2.1 ≠ (TJ9 b).2.1 := by decide +kernel
theorem tyJ9_ok : ∀ k, k < 0 → parseFieldDescriptor (TJ9 k).2.2.1 = some (tyJ9 k) := by decide +kernel
abbrev cJ9_max_7cf53 : ByteArray := prog_8_method_65_code
def yJ9_max_7cf53 : MethodName := ⟨RJ9, "max", "(II)I"⟩
abbrev cJ9_min_7cf53 : ByteArray := prog_8_method_69_code
def yJ9_min_7cf53 : MethodName := ⟨RJ9, "min", "(II)I"⟩
def RJ0 : String := "java/lang/String"
def TJ0 : u_T := fun k => match k with
  | _ => ("", "", "", false)
def tyJ0 : Nat → FieldType := fun k => match k with
  | _ => .int
abbrev wsJ00 : List Cond := u_ws RJ0 TJ0 0
theorem nmJ0 : ∀ a, a < 0 → ∀ b, b < 0 → a ≠ b → (TJ0 a).2.1 ≠ (TJ0 b).2.1 := by decide +kernel
theorem tyJ0_ok : ∀ k, k < 0 → parseFieldDescriptor (TJ0 k).2.2.1 = some (tyJ0 k) := by decide +kernel
abbrev cJ0_length_8abf5 : ByteArray := prog_9_method_54_code
def yJ0_length_8abf5 : MethodName := ⟨RJ0, "length", "()I"⟩
abbrev cJ0_indexOf_0f7a4 : ByteArray := prog_9_method_79_code
def yJ0_indexOf_0f7a4 : MethodName := ⟨RJ0, "indexOf", "(I)I"⟩
abbrev cJ0_indexOf_7cf53 : ByteArray := prog_9_method_80_code
def yJ0_indexOf_7cf53 : MethodName := ⟨RJ0, "indexOf", "(II)I"⟩
abbrev cJ0_coder_7d493 : ByteArray := prog_9_method_152_code
def yJ0_coder_7d493 : MethodName := ⟨RJ0, "coder", "()B"⟩
abbrev cJ0_isLatin1_aae02 : ByteArray := prog_9_method_154_code
def yJ0_isLatin1_aae02 : MethodName := ⟨RJ0, "isLatin1", "()Z"⟩
abbrev cJ0_checkBoundsBeginEnd_23922 : ByteArray := prog_9_method_158_code
def yJ0_checkBoundsBeginEnd_23922 : MethodName := ⟨RJ0, "checkBoundsBeginEnd", "(III)V"⟩
def RJ1 : String := "java/lang/StringLatin1"
def TJ1 : u_T := fun k => match k with
  | _ => ("", "", "", false)
def tyJ1 : Nat → FieldType := fun k => match k with
  | _ => .int
abbrev wsJ10 : List Cond := u_ws RJ1 TJ1 0
theorem nmJ1 : ∀ a, a < 0 → ∀ b, b < 0 → a ≠ b → (TJ1 a).2.1 ≠ (TJ1 b).2.1 := by decide +kernel
theorem tyJ1_ok : ∀ k, k < 0 → parseFieldDescriptor (TJ1 k).2.2.1 = some (tyJ1 k) := by decide +kernel
abbrev cJ1_canEncode_9a6ad : ByteArray := prog_10_method_4_code
def yJ1_canEncode_9a6ad : MethodName := ⟨RJ1, "canEncode", "(I)Z"⟩
abbrev cJ1_indexOf_4cfef : ByteArray := prog_10_method_22_code
def yJ1_indexOf_4cfef : MethodName := ⟨RJ1, "indexOf", "([BIII)I"⟩
abbrev cJ1_indexOfChar_4cfef : ByteArray := prog_10_method_23_code
def yJ1_indexOfChar_4cfef : MethodName := ⟨RJ1, "indexOfChar", "([BIII)I"⟩
def RJ2 : String := "java/lang/StringUTF16"
def TJ2 : u_T := fun k => match k with
  | _ => ("", "", "", false)
def tyJ2 : Nat → FieldType := fun k => match k with
  | _ => .int
abbrev wsJ20 : List Cond := u_ws RJ2 TJ2 0
theorem nmJ2 : ∀ a, a < 0 → ∀ b, b < 0 → a ≠ b → (TJ2 a).2.1 ≠ (TJ2 b).2.1 := by decide +kernel
theorem tyJ2_ok : ∀ k, k < 0 → parseFieldDescriptor (TJ2 k).2.2.1 = some (tyJ2 k) := by decide +kernel
abbrev cJ2_getChar_3b067 : ByteArray := prog_11_method_5_code
def yJ2_getChar_3b067 : MethodName := ⟨RJ2, "getChar", "([BI)C"⟩
abbrev cJ2_length_9d52b : ByteArray := prog_11_method_6_code
def yJ2_length_9d52b : MethodName := ⟨RJ2, "length", "([B)I"⟩
abbrev cJ2_indexOf_4cfef : ByteArray := prog_11_method_40_code
def yJ2_indexOf_4cfef : MethodName := ⟨RJ2, "indexOf", "([BIII)I"⟩
abbrev cJ2_indexOfChar_4cfef : ByteArray := prog_11_method_47_code
def yJ2_indexOfChar_4cfef : MethodName := ⟨RJ2, "indexOfChar", "([BIII)I"⟩
abbrev cJ2_indexOfCharUnsafe_4cfef : ByteArray := prog_11_method_48_code
def yJ2_indexOfCharUnsafe_4cfef : MethodName := ⟨RJ2, "indexOfCharUnsafe", "([BIII)I"⟩
abbrev cJ2_indexOfSupplementary_4cfef : ByteArray := prog_11_method_49_code
def yJ2_indexOfSupplementary_4cfef : MethodName := ⟨RJ2, "indexOfSupplementary", "([BIII)I"⟩
abbrev cJ2_checkBoundsBeginEnd_d044e : ByteArray := prog_11_method_93_code
def yJ2_checkBoundsBeginEnd_d044e : MethodName := ⟨RJ2, "checkBoundsBeginEnd", "(II[B)V"⟩
def RJ10 : String := "java/lang/System"
def TJ10 : u_T := fun k => match k with
  | _ => ("", "", "", false)
def tyJ10 : Nat → FieldType := fun k => match k with
  | _ => .int
abbrev wsJ100 : List Cond := u_ws RJ10 TJ10 0
theorem nmJ10 : ∀ a, a < 0 → ∀ b, b < 0 → a ≠ b → (TJ10 a).2.1 ≠ (TJ10 b).2.1 := by decide +kernel
theorem tyJ10_ok : ∀ k, k < 0 → parseFieldDescriptor (TJ10 k).2.2.1 = some (tyJ10 k) := by decide +kernel
def RJ3 : String := "jdk/internal/util/Preconditions"
def TJ3 : u_T := fun k => match k with
  | _ => ("", "", "", false)
def tyJ3 : Nat → FieldType := fun k => match k with
  | _ => .int
abbrev wsJ30 : List Cond := u_ws RJ3 TJ3 0
theorem nmJ3 : ∀ a, a < 0 → ∀ b, b < 0 → a ≠ b → (TJ3 a).2.1 ≠ (TJ3 b).2.1 := by decide +kernel
theorem tyJ3_ok : ∀ k, k < 0 → parseFieldDescriptor (TJ3 k).2.2.1 = some (tyJ3 k) := by decide +kernel
abbrev cJ3_checkFromToIndex_8c36e : ByteArray := prog_13_method_12_code
def yJ3_checkFromToIndex_8c36e : MethodName := ⟨RJ3, "checkFromToIndex", "(IIILjava/util/function/BiFunction;)I"⟩
def RL : String := "ArmourOfTheShyLaw"
abbrev cL_law : ByteArray := code
def yL_law : MethodName := ⟨RL, "law", "([I)Z"⟩
end
section
theorem dX0_init_0 : decode cX0_init 0 = .ok (.aload_n 0, 1) := by decide +kernel
theorem dX0_init_1 : decode cX0_init 1 = .ok (.invokespecial 3, 3) := by decide +kernel
theorem dX0_init_4 : decode cX0_init 4 = .ok (.aload_n 0, 1) := by decide +kernel
theorem dX0_init_5 : decode cX0_init 5 = .ok (.bipush 6, 2) := by decide +kernel
theorem dX0_init_7 : decode cX0_init 7 = .ok (.newarray .int, 2) := by decide +kernel
theorem dX0_init_9 : decode cX0_init 9 = .ok (.putfield 9, 3) := by decide +kernel
theorem dX0_init_12 : decode cX0_init 12 = .ok (.aload_n 0, 1) := by decide +kernel
theorem dX0_init_13 : decode cX0_init 13 = .ok (.bipush 6, 2) := by decide +kernel
theorem dX0_init_15 : decode cX0_init 15 = .ok (.newarray .int, 2) := by decide +kernel
theorem dX0_init_17 : decode cX0_init 17 = .ok (.putfield 15, 3) := by decide +kernel
theorem dX0_init_20 : decode cX0_init 20 = .ok (.aload_n 0, 1) := by decide +kernel
theorem dX0_init_21 : decode cX0_init 21 = .ok (.bipush 6, 2) := by decide +kernel
theorem dX0_init_23 : decode cX0_init 23 = .ok (.newarray .int, 2) := by decide +kernel
theorem dX0_init_25 : decode cX0_init 25 = .ok (.putfield 18, 3) := by decide +kernel
theorem dX0_init_28 : decode cX0_init 28 = .ok (.aload_n 0, 1) := by decide +kernel
theorem dX0_init_29 : decode cX0_init 29 = .ok (.iconst 5, 1) := by decide +kernel
theorem dX0_init_30 : decode cX0_init 30 = .ok (.newarray .int, 2) := by decide +kernel
theorem dX0_init_32 : decode cX0_init 32 = .ok (.putfield 21, 3) := by decide +kernel
theorem dX0_init_35 : decode cX0_init 35 = .ok (.aload_n 0, 1) := by decide +kernel
theorem dX0_init_36 : decode cX0_init 36 = .ok (.iconst 5, 1) := by decide +kernel
theorem dX0_init_37 : decode cX0_init 37 = .ok (.newarray .int, 2) := by decide +kernel
theorem dX0_init_39 : decode cX0_init 39 = .ok (.putfield 24, 3) := by decide +kernel
theorem dX0_init_42 : decode cX0_init 42 = .ok (.aload_n 0, 1) := by decide +kernel
theorem dX0_init_43 : decode cX0_init 43 = .ok (.iconst 5, 1) := by decide +kernel
theorem dX0_init_44 : decode cX0_init 44 = .ok (.newarray .int, 2) := by decide +kernel
theorem dX0_init_46 : decode cX0_init 46 = .ok (.putfield 27, 3) := by decide +kernel
theorem dX0_init_49 : decode cX0_init 49 = .ok (.aload_n 0, 1) := by decide +kernel
theorem dX0_init_50 : decode cX0_init 50 = .ok (.iconst 5, 1) := by decide +kernel
theorem dX0_init_51 : decode cX0_init 51 = .ok (.newarray .int, 2) := by decide +kernel
theorem dX0_init_53 : decode cX0_init 53 = .ok (.putfield 30, 3) := by decide +kernel
theorem dX0_init_56 : decode cX0_init 56 = .ok (.aload_n 0, 1) := by decide +kernel
theorem dX0_init_57 : decode cX0_init 57 = .ok (.iconst 0, 1) := by decide +kernel
theorem dX0_init_58 : decode cX0_init 58 = .ok (.putfield 33, 3) := by decide +kernel
theorem dX0_init_61 : decode cX0_init 61 = .ok (.aload_n 0, 1) := by decide +kernel
theorem dX0_init_62 : decode cX0_init 62 = .ok (.iconst 0, 1) := by decide +kernel
theorem dX0_init_63 : decode cX0_init 63 = .ok (.putfield 37, 3) := by decide +kernel
theorem dX0_init_66 : decode cX0_init 66 = .ok (.aload_n 0, 1) := by decide +kernel
theorem dX0_init_67 : decode cX0_init 67 = .ok (.iconst 0, 1) := by decide +kernel
theorem dX0_init_68 : decode cX0_init 68 = .ok (.putfield 40, 3) := by decide +kernel
theorem dX0_init_71 : decode cX0_init 71 = .ok (.aload_n 0, 1) := by decide +kernel
theorem dX0_init_72 : decode cX0_init 72 = .ok (.iconst 0, 1) := by decide +kernel
theorem dX0_init_73 : decode cX0_init 73 = .ok (.putfield 43, 3) := by decide +kernel
theorem dX0_init_76 : decode cX0_init 76 = .ok (.return_, 1) := by decide +kernel
theorem dX0_copyFrom_0 : decode cX0_copyFrom 0 = .ok (.aload_n 1, 1) := by decide +kernel
theorem dX0_copyFrom_1 : decode cX0_copyFrom 1 = .ok (.getfield 9, 3) := by decide +kernel
theorem dX0_copyFrom_4 : decode cX0_copyFrom 4 = .ok (.iconst 0, 1) := by decide +kernel
theorem dX0_copyFrom_5 : decode cX0_copyFrom 5 = .ok (.aload_n 0, 1) := by decide +kernel
theorem dX0_copyFrom_6 : decode cX0_copyFrom 6 = .ok (.getfield 9, 3) := by decide +kernel
theorem dX0_copyFrom_9 : decode cX0_copyFrom 9 = .ok (.iconst 0, 1) := by decide +kernel
theorem dX0_copyFrom_10 : decode cX0_copyFrom 10 = .ok (.bipush 6, 2) := by decide +kernel
theorem dX0_copyFrom_12 : decode cX0_copyFrom 12 = .ok (.invokestatic 46, 3) := by decide +kernel
theorem dX0_copyFrom_15 : decode cX0_copyFrom 15 = .ok (.aload_n 1, 1) := by decide +kernel
theorem dX0_copyFrom_16 : decode cX0_copyFrom 16 = .ok (.getfield 15, 3) := by decide +kernel
theorem dX0_copyFrom_19 : decode cX0_copyFrom 19 = .ok (.iconst 0, 1) := by decide +kernel
theorem dX0_copyFrom_20 : decode cX0_copyFrom 20 = .ok (.aload_n 0, 1) := by decide +kernel
theorem dX0_copyFrom_21 : decode cX0_copyFrom 21 = .ok (.getfield 15, 3) := by decide +kernel
theorem dX0_copyFrom_24 : decode cX0_copyFrom 24 = .ok (.iconst 0, 1) := by decide +kernel
theorem dX0_copyFrom_25 : decode cX0_copyFrom 25 = .ok (.bipush 6, 2) := by decide +kernel
theorem dX0_copyFrom_27 : decode cX0_copyFrom 27 = .ok (.invokestatic 46, 3) := by decide +kernel
theorem dX0_copyFrom_30 : decode cX0_copyFrom 30 = .ok (.aload_n 1, 1) := by decide +kernel
theorem dX0_copyFrom_31 : decode cX0_copyFrom 31 = .ok (.getfield 18, 3) := by decide +kernel
theorem dX0_copyFrom_34 : decode cX0_copyFrom 34 = .ok (.iconst 0, 1) := by decide +kernel
theorem dX0_copyFrom_35 : decode cX0_copyFrom 35 = .ok (.aload_n 0, 1) := by decide +kernel
theorem dX0_copyFrom_36 : decode cX0_copyFrom 36 = .ok (.getfield 18, 3) := by decide +kernel
theorem dX0_copyFrom_39 : decode cX0_copyFrom 39 = .ok (.iconst 0, 1) := by decide +kernel
theorem dX0_copyFrom_40 : decode cX0_copyFrom 40 = .ok (.bipush 6, 2) := by decide +kernel
theorem dX0_copyFrom_42 : decode cX0_copyFrom 42 = .ok (.invokestatic 46, 3) := by decide +kernel
theorem dX0_copyFrom_45 : decode cX0_copyFrom 45 = .ok (.aload_n 1, 1) := by decide +kernel
theorem dX0_copyFrom_46 : decode cX0_copyFrom 46 = .ok (.getfield 21, 3) := by decide +kernel
theorem dX0_copyFrom_49 : decode cX0_copyFrom 49 = .ok (.iconst 0, 1) := by decide +kernel
theorem dX0_copyFrom_50 : decode cX0_copyFrom 50 = .ok (.aload_n 0, 1) := by decide +kernel
theorem dX0_copyFrom_51 : decode cX0_copyFrom 51 = .ok (.getfield 21, 3) := by decide +kernel
theorem dX0_copyFrom_54 : decode cX0_copyFrom 54 = .ok (.iconst 0, 1) := by decide +kernel
theorem dX0_copyFrom_55 : decode cX0_copyFrom 55 = .ok (.iconst 5, 1) := by decide +kernel
theorem dX0_copyFrom_56 : decode cX0_copyFrom 56 = .ok (.invokestatic 46, 3) := by decide +kernel
theorem dX0_copyFrom_59 : decode cX0_copyFrom 59 = .ok (.aload_n 1, 1) := by decide +kernel
theorem dX0_copyFrom_60 : decode cX0_copyFrom 60 = .ok (.getfield 24, 3) := by decide +kernel
theorem dX0_copyFrom_63 : decode cX0_copyFrom 63 = .ok (.iconst 0, 1) := by decide +kernel
theorem dX0_copyFrom_64 : decode cX0_copyFrom 64 = .ok (.aload_n 0, 1) := by decide +kernel
theorem dX0_copyFrom_65 : decode cX0_copyFrom 65 = .ok (.getfield 24, 3) := by decide +kernel
theorem dX0_copyFrom_68 : decode cX0_copyFrom 68 = .ok (.iconst 0, 1) := by decide +kernel
theorem dX0_copyFrom_69 : decode cX0_copyFrom 69 = .ok (.iconst 5, 1) := by decide +kernel
theorem dX0_copyFrom_70 : decode cX0_copyFrom 70 = .ok (.invokestatic 46, 3) := by decide +kernel
theorem dX0_copyFrom_73 : decode cX0_copyFrom 73 = .ok (.aload_n 1, 1) := by decide +kernel
theorem dX0_copyFrom_74 : decode cX0_copyFrom 74 = .ok (.getfield 27, 3) := by decide +kernel
theorem dX0_copyFrom_77 : decode cX0_copyFrom 77 = .ok (.iconst 0, 1) := by decide +kernel
theorem dX0_copyFrom_78 : decode cX0_copyFrom 78 = .ok (.aload_n 0, 1) := by decide +kernel
theorem dX0_copyFrom_79 : decode cX0_copyFrom 79 = .ok (.getfield 27, 3) := by decide +kernel
theorem dX0_copyFrom_82 : decode cX0_copyFrom 82 = .ok (.iconst 0, 1) := by decide +kernel
theorem dX0_copyFrom_83 : decode cX0_copyFrom 83 = .ok (.iconst 5, 1) := by decide +kernel
theorem dX0_copyFrom_84 : decode cX0_copyFrom 84 = .ok (.invokestatic 46, 3) := by decide +kernel
theorem dX0_copyFrom_87 : decode cX0_copyFrom 87 = .ok (.aload_n 1, 1) := by decide +kernel
theorem dX0_copyFrom_88 : decode cX0_copyFrom 88 = .ok (.getfield 30, 3) := by decide +kernel
theorem dX0_copyFrom_91 : decode cX0_copyFrom 91 = .ok (.iconst 0, 1) := by decide +kernel
theorem dX0_copyFrom_92 : decode cX0_copyFrom 92 = .ok (.aload_n 0, 1) := by decide +kernel
theorem dX0_copyFrom_93 : decode cX0_copyFrom 93 = .ok (.getfield 30, 3) := by decide +kernel
theorem dX0_copyFrom_96 : decode cX0_copyFrom 96 = .ok (.iconst 0, 1) := by decide +kernel
theorem dX0_copyFrom_97 : decode cX0_copyFrom 97 = .ok (.iconst 5, 1) := by decide +kernel
theorem dX0_copyFrom_98 : decode cX0_copyFrom 98 = .ok (.invokestatic 46, 3) := by decide +kernel
theorem dX0_copyFrom_101 : decode cX0_copyFrom 101 = .ok (.aload_n 0, 1) := by decide +kernel
theorem dX0_copyFrom_102 : decode cX0_copyFrom 102 = .ok (.aload_n 1, 1) := by decide +kernel
theorem dX0_copyFrom_103 : decode cX0_copyFrom 103 = .ok (.getfield 33, 3) := by decide +kernel
theorem dX0_copyFrom_106 : decode cX0_copyFrom 106 = .ok (.putfield 33, 3) := by decide +kernel
theorem dX0_copyFrom_109 : decode cX0_copyFrom 109 = .ok (.aload_n 0, 1) := by decide +kernel
theorem dX0_copyFrom_110 : decode cX0_copyFrom 110 = .ok (.aload_n 1, 1) := by decide +kernel
theorem dX0_copyFrom_111 : decode cX0_copyFrom 111 = .ok (.getfield 37, 3) := by decide +kernel
theorem dX0_copyFrom_114 : decode cX0_copyFrom 114 = .ok (.putfield 37, 3) := by decide +kernel
theorem dX0_copyFrom_117 : decode cX0_copyFrom 117 = .ok (.aload_n 0, 1) := by decide +kernel
theorem dX0_copyFrom_118 : decode cX0_copyFrom 118 = .ok (.aload_n 1, 1) := by decide +kernel
theorem dX0_copyFrom_119 : decode cX0_copyFrom 119 = .ok (.getfield 40, 3) := by decide +kernel
theorem dX0_copyFrom_122 : decode cX0_copyFrom 122 = .ok (.putfield 40, 3) := by decide +kernel
theorem dX0_copyFrom_125 : decode cX0_copyFrom 125 = .ok (.aload_n 0, 1) := by decide +kernel
theorem dX0_copyFrom_126 : decode cX0_copyFrom 126 = .ok (.aload_n 1, 1) := by decide +kernel
theorem dX0_copyFrom_127 : decode cX0_copyFrom 127 = .ok (.getfield 43, 3) := by decide +kernel
theorem dX0_copyFrom_130 : decode cX0_copyFrom 130 = .ok (.putfield 43, 3) := by decide +kernel
theorem dX0_copyFrom_133 : decode cX0_copyFrom 133 = .ok (.return_, 1) := by decide +kernel
theorem dX0_addSuit_0 : decode cX0_addSuit 0 = .ok (.aload_n 0, 1) := by decide +kernel
theorem dX0_addSuit_1 : decode cX0_addSuit 1 = .ok (.getfield 33, 3) := by decide +kernel
theorem dX0_addSuit_4 : decode cX0_addSuit 4 = .ok (.bipush 6, 2) := by decide +kernel
theorem dX0_addSuit_6 : decode cX0_addSuit 6 = .ok (.if_icmp .lt 5, 3) := by decide +kernel
theorem dX0_addSuit_9 : decode cX0_addSuit 9 = .ok (.iconst 0, 1) := by decide +kernel
theorem dX0_addSuit_10 : decode cX0_addSuit 10 = .ok (.ireturn, 1) := by decide +kernel
theorem dX0_addSuit_11 : decode cX0_addSuit 11 = .ok (.aload_n 0, 1) := by decide +kernel
theorem dX0_addSuit_12 : decode cX0_addSuit 12 = .ok (.getfield 9, 3) := by decide +kernel
theorem dX0_addSuit_15 : decode cX0_addSuit 15 = .ok (.aload_n 0, 1) := by decide +kernel
theorem dX0_addSuit_16 : decode cX0_addSuit 16 = .ok (.getfield 33, 3) := by decide +kernel
theorem dX0_addSuit_19 : decode cX0_addSuit 19 = .ok (.iload_n 1, 1) := by decide +kernel
theorem dX0_addSuit_20 : decode cX0_addSuit 20 = .ok (.iastore, 1) := by decide +kernel
theorem dX0_addSuit_21 : decode cX0_addSuit 21 = .ok (.aload_n 0, 1) := by decide +kernel
theorem dX0_addSuit_22 : decode cX0_addSuit 22 = .ok (.getfield 15, 3) := by decide +kernel
theorem dX0_addSuit_25 : decode cX0_addSuit 25 = .ok (.aload_n 0, 1) := by decide +kernel
theorem dX0_addSuit_26 : decode cX0_addSuit 26 = .ok (.getfield 33, 3) := by decide +kernel
theorem dX0_addSuit_29 : decode cX0_addSuit 29 = .ok (.iload_n 2, 1) := by decide +kernel
theorem dX0_addSuit_30 : decode cX0_addSuit 30 = .ok (.iastore, 1) := by decide +kernel
theorem dX0_addSuit_31 : decode cX0_addSuit 31 = .ok (.aload_n 0, 1) := by decide +kernel
theorem dX0_addSuit_32 : decode cX0_addSuit 32 = .ok (.getfield 18, 3) := by decide +kernel
theorem dX0_addSuit_35 : decode cX0_addSuit 35 = .ok (.aload_n 0, 1) := by decide +kernel
theorem dX0_addSuit_36 : decode cX0_addSuit 36 = .ok (.getfield 33, 3) := by decide +kernel
theorem dX0_addSuit_39 : decode cX0_addSuit 39 = .ok (.iconst 0, 1) := by decide +kernel
theorem dX0_addSuit_40 : decode cX0_addSuit 40 = .ok (.iastore, 1) := by decide +kernel
theorem dX0_addSuit_41 : decode cX0_addSuit 41 = .ok (.aload_n 0, 1) := by decide +kernel
theorem dX0_addSuit_42 : decode cX0_addSuit 42 = .ok (.dup, 1) := by decide +kernel
theorem dX0_addSuit_43 : decode cX0_addSuit 43 = .ok (.getfield 33, 3) := by decide +kernel
theorem dX0_addSuit_46 : decode cX0_addSuit 46 = .ok (.iconst 1, 1) := by decide +kernel
theorem dX0_addSuit_47 : decode cX0_addSuit 47 = .ok (.iadd, 1) := by decide +kernel
theorem dX0_addSuit_48 : decode cX0_addSuit 48 = .ok (.putfield 33, 3) := by decide +kernel
theorem dX0_addSuit_51 : decode cX0_addSuit 51 = .ok (.iconst 1, 1) := by decide +kernel
theorem dX0_addSuit_52 : decode cX0_addSuit 52 = .ok (.ireturn, 1) := by decide +kernel
theorem dX0_addCaller_0 : decode cX0_addCaller 0 = .ok (.aload_n 0, 1) := by decide +kernel
theorem dX0_addCaller_1 : decode cX0_addCaller 1 = .ok (.getfield 37, 3) := by decide +kernel
theorem dX0_addCaller_4 : decode cX0_addCaller 4 = .ok (.iconst 5, 1) := by decide +kernel
theorem dX0_addCaller_5 : decode cX0_addCaller 5 = .ok (.if_icmp .ge 9, 3) := by decide +kernel
theorem dX0_addCaller_8 : decode cX0_addCaller 8 = .ok (.iload_n 1, 1) := by decide +kernel
theorem dX0_addCaller_9 : decode cX0_addCaller 9 = .ok (.bipush 20, 2) := by decide +kernel
theorem dX0_addCaller_11 : decode cX0_addCaller 11 = .ok (.if_icmp .le 5, 3) := by decide +kernel
theorem dX0_addCaller_14 : decode cX0_addCaller 14 = .ok (.iconst 0, 1) := by decide +kernel
theorem dX0_addCaller_15 : decode cX0_addCaller 15 = .ok (.ireturn, 1) := by decide +kernel
theorem dX0_addCaller_16 : decode cX0_addCaller 16 = .ok (.aload_n 0, 1) := by decide +kernel
theorem dX0_addCaller_17 : decode cX0_addCaller 17 = .ok (.getfield 21, 3) := by decide +kernel
theorem dX0_addCaller_20 : decode cX0_addCaller 20 = .ok (.aload_n 0, 1) := by decide +kernel
theorem dX0_addCaller_21 : decode cX0_addCaller 21 = .ok (.getfield 37, 3) := by decide +kernel
theorem dX0_addCaller_24 : decode cX0_addCaller 24 = .ok (.iload_n 1, 1) := by decide +kernel
theorem dX0_addCaller_25 : decode cX0_addCaller 25 = .ok (.iastore, 1) := by decide +kernel
theorem dX0_addCaller_26 : decode cX0_addCaller 26 = .ok (.aload_n 0, 1) := by decide +kernel
theorem dX0_addCaller_27 : decode cX0_addCaller 27 = .ok (.getfield 24, 3) := by decide +kernel
theorem dX0_addCaller_30 : decode cX0_addCaller 30 = .ok (.aload_n 0, 1) := by decide +kernel
theorem dX0_addCaller_31 : decode cX0_addCaller 31 = .ok (.getfield 37, 3) := by decide +kernel
theorem dX0_addCaller_34 : decode cX0_addCaller 34 = .ok (.iconst 0, 1) := by decide +kernel
theorem dX0_addCaller_35 : decode cX0_addCaller 35 = .ok (.iastore, 1) := by decide +kernel
theorem dX0_addCaller_36 : decode cX0_addCaller 36 = .ok (.aload_n 0, 1) := by decide +kernel
theorem dX0_addCaller_37 : decode cX0_addCaller 37 = .ok (.getfield 27, 3) := by decide +kernel
theorem dX0_addCaller_40 : decode cX0_addCaller 40 = .ok (.aload_n 0, 1) := by decide +kernel
theorem dX0_addCaller_41 : decode cX0_addCaller 41 = .ok (.getfield 37, 3) := by decide +kernel
theorem dX0_addCaller_44 : decode cX0_addCaller 44 = .ok (.iconst 0, 1) := by decide +kernel
theorem dX0_addCaller_45 : decode cX0_addCaller 45 = .ok (.iastore, 1) := by decide +kernel
theorem dX0_addCaller_46 : decode cX0_addCaller 46 = .ok (.aload_n 0, 1) := by decide +kernel
theorem dX0_addCaller_47 : decode cX0_addCaller 47 = .ok (.getfield 30, 3) := by decide +kernel
theorem dX0_addCaller_50 : decode cX0_addCaller 50 = .ok (.aload_n 0, 1) := by decide +kernel
theorem dX0_addCaller_51 : decode cX0_addCaller 51 = .ok (.getfield 37, 3) := by decide +kernel
theorem dX0_addCaller_54 : decode cX0_addCaller 54 = .ok (.bipush (-9), 2) := by decide +kernel
theorem dX0_addCaller_56 : decode cX0_addCaller 56 = .ok (.iastore, 1) := by decide +kernel
theorem dX0_addCaller_57 : decode cX0_addCaller 57 = .ok (.aload_n 0, 1) := by decide +kernel
theorem dX0_addCaller_58 : decode cX0_addCaller 58 = .ok (.dup, 1) := by decide +kernel
theorem dX0_addCaller_59 : decode cX0_addCaller 59 = .ok (.getfield 37, 3) := by decide +kernel
theorem dX0_addCaller_62 : decode cX0_addCaller 62 = .ok (.iconst 1, 1) := by decide +kernel
theorem dX0_addCaller_63 : decode cX0_addCaller 63 = .ok (.iadd, 1) := by decide +kernel
theorem dX0_addCaller_64 : decode cX0_addCaller 64 = .ok (.putfield 37, 3) := by decide +kernel
theorem dX0_addCaller_67 : decode cX0_addCaller 67 = .ok (.iconst 1, 1) := by decide +kernel
theorem dX0_addCaller_68 : decode cX0_addCaller 68 = .ok (.ireturn, 1) := by decide +kernel
theorem dX0_putIn_0 : decode cX0_putIn 0 = .ok (.aload_n 0, 1) := by decide +kernel
theorem dX0_putIn_1 : decode cX0_putIn 1 = .ok (.iload_n 2, 1) := by decide +kernel
theorem dX0_putIn_2 : decode cX0_putIn 2 = .ok (.invokevirtual 52, 3) := by decide +kernel
theorem dX0_putIn_5 : decode cX0_putIn 5 = .ok (.istore_n 3, 1) := by decide +kernel
theorem dX0_putIn_6 : decode cX0_putIn 6 = .ok (.iload_n 3, 1) := by decide +kernel
theorem dX0_putIn_7 : decode cX0_putIn 7 = .ok (.bipush (-9), 2) := by decide +kernel
theorem dX0_putIn_9 : decode cX0_putIn 9 = .ok (.if_icmp .eq 11, 3) := by decide +kernel
theorem dX0_putIn_12 : decode cX0_putIn 12 = .ok (.aload_n 0, 1) := by decide +kernel
theorem dX0_putIn_13 : decode cX0_putIn 13 = .ok (.getfield 30, 3) := by decide +kernel
theorem dX0_putIn_16 : decode cX0_putIn 16 = .ok (.iload_n 3, 1) := by decide +kernel
theorem dX0_putIn_17 : decode cX0_putIn 17 = .ok (.bipush (-9), 2) := by decide +kernel
theorem dX0_putIn_19 : decode cX0_putIn 19 = .ok (.iastore, 1) := by decide +kernel
theorem dX0_putIn_20 : decode cX0_putIn 20 = .ok (.aload_n 0, 1) := by decide +kernel
theorem dX0_putIn_21 : decode cX0_putIn 21 = .ok (.getfield 30, 3) := by decide +kernel
theorem dX0_putIn_24 : decode cX0_putIn 24 = .ok (.iload_n 1, 1) := by decide +kernel
theorem dX0_putIn_25 : decode cX0_putIn 25 = .ok (.iload_n 2, 1) := by decide +kernel
theorem dX0_putIn_26 : decode cX0_putIn 26 = .ok (.iastore, 1) := by decide +kernel
theorem dX0_putIn_27 : decode cX0_putIn 27 = .ok (.return_, 1) := by decide +kernel
theorem dX0_wearer_0 : decode cX0_wearer 0 = .ok (.iconst 0, 1) := by decide +kernel
theorem dX0_wearer_1 : decode cX0_wearer 1 = .ok (.istore_n 2, 1) := by decide +kernel
theorem dX0_wearer_2 : decode cX0_wearer 2 = .ok (.iload_n 2, 1) := by decide +kernel
theorem dX0_wearer_3 : decode cX0_wearer 3 = .ok (.aload_n 0, 1) := by decide +kernel
theorem dX0_wearer_4 : decode cX0_wearer 4 = .ok (.getfield 37, 3) := by decide +kernel
theorem dX0_wearer_7 : decode cX0_wearer 7 = .ok (.if_icmp .ge 21, 3) := by decide +kernel
theorem dX0_wearer_10 : decode cX0_wearer 10 = .ok (.aload_n 0, 1) := by decide +kernel
theorem dX0_wearer_11 : decode cX0_wearer 11 = .ok (.getfield 30, 3) := by decide +kernel
theorem dX0_wearer_14 : decode cX0_wearer 14 = .ok (.iload_n 2, 1) := by decide +kernel
theorem dX0_wearer_15 : decode cX0_wearer 15 = .ok (.iaload, 1) := by decide +kernel
theorem dX0_wearer_16 : decode cX0_wearer 16 = .ok (.iload_n 1, 1) := by decide +kernel
theorem dX0_wearer_17 : decode cX0_wearer 17 = .ok (.if_icmp .ne 5, 3) := by decide +kernel
theorem dX0_wearer_20 : decode cX0_wearer 20 = .ok (.iload_n 2, 1) := by decide +kernel
theorem dX0_wearer_21 : decode cX0_wearer 21 = .ok (.ireturn, 1) := by decide +kernel
theorem dX0_wearer_22 : decode cX0_wearer 22 = .ok (.iinc 2 1, 3) := by decide +kernel
theorem dX0_wearer_25 : decode cX0_wearer 25 = .ok (.goto (-23), 3) := by decide +kernel
theorem dX0_wearer_28 : decode cX0_wearer 28 = .ok (.bipush (-9), 2) := by decide +kernel
theorem dX0_wearer_30 : decode cX0_wearer 30 = .ok (.ireturn, 1) := by decide +kernel
theorem dX0_covers_0 : decode cX0_covers 0 = .ok (.aload_n 0, 1) := by decide +kernel
theorem dX0_covers_1 : decode cX0_covers 1 = .ok (.iload_n 1, 1) := by decide +kernel
theorem dX0_covers_2 : decode cX0_covers 2 = .ok (.aload_n 0, 1) := by decide +kernel
theorem dX0_covers_3 : decode cX0_covers 3 = .ok (.getfield 18, 3) := by decide +kernel
theorem dX0_covers_6 : decode cX0_covers 6 = .ok (.iload_n 1, 1) := by decide +kernel
theorem dX0_covers_7 : decode cX0_covers 7 = .ok (.iaload, 1) := by decide +kernel
theorem dX0_covers_8 : decode cX0_covers 8 = .ok (.invokevirtual 56, 3) := by decide +kernel
theorem dX0_covers_11 : decode cX0_covers 11 = .ok (.ireturn, 1) := by decide +kernel
theorem dX0_coversWith_0 : decode cX0_coversWith 0 = .ok (.aload_n 0, 1) := by decide +kernel
theorem dX0_coversWith_1 : decode cX0_coversWith 1 = .ok (.getfield 15, 3) := by decide +kernel
theorem dX0_coversWith_4 : decode cX0_coversWith 4 = .ok (.iload_n 1, 1) := by decide +kernel
theorem dX0_coversWith_5 : decode cX0_coversWith 5 = .ok (.iaload, 1) := by decide +kernel
theorem dX0_coversWith_6 : decode cX0_coversWith 6 = .ok (.iconst 4, 1) := by decide +kernel
theorem dX0_coversWith_7 : decode cX0_coversWith 7 = .ok (.iadd, 1) := by decide +kernel
theorem dX0_coversWith_8 : decode cX0_coversWith 8 = .ok (.iload_n 2, 1) := by decide +kernel
theorem dX0_coversWith_9 : decode cX0_coversWith 9 = .ok (.isub, 1) := by decide +kernel
theorem dX0_coversWith_10 : decode cX0_coversWith 10 = .ok (.istore_n 3, 1) := by decide +kernel
theorem dX0_coversWith_11 : decode cX0_coversWith 11 = .ok (.iload_n 3, 1) := by decide +kernel
theorem dX0_coversWith_12 : decode cX0_coversWith 12 = .ok (.ifCond .ge 5, 3) := by decide +kernel
theorem dX0_coversWith_15 : decode cX0_coversWith 15 = .ok (.iconst 0, 1) := by decide +kernel
theorem dX0_coversWith_16 : decode cX0_coversWith 16 = .ok (.istore_n 3, 1) := by decide +kernel
theorem dX0_coversWith_17 : decode cX0_coversWith 17 = .ok (.iload_n 3, 1) := by decide +kernel
theorem dX0_coversWith_18 : decode cX0_coversWith 18 = .ok (.getstatic 60, 3) := by decide +kernel
theorem dX0_coversWith_21 : decode cX0_coversWith 21 = .ok (.aload_n 0, 1) := by decide +kernel
theorem dX0_coversWith_22 : decode cX0_coversWith 22 = .ok (.getfield 9, 3) := by decide +kernel
theorem dX0_coversWith_25 : decode cX0_coversWith 25 = .ok (.iload_n 1, 1) := by decide +kernel
theorem dX0_coversWith_26 : decode cX0_coversWith 26 = .ok (.iaload, 1) := by decide +kernel
theorem dX0_coversWith_27 : decode cX0_coversWith 27 = .ok (.iaload, 1) := by decide +kernel
theorem dX0_coversWith_28 : decode cX0_coversWith 28 = .ok (.imul, 1) := by decide +kernel
theorem dX0_coversWith_29 : decode cX0_coversWith 29 = .ok (.iconst 2, 1) := by decide +kernel
theorem dX0_coversWith_30 : decode cX0_coversWith 30 = .ok (.idiv, 1) := by decide +kernel
theorem dX0_coversWith_31 : decode cX0_coversWith 31 = .ok (.getstatic 63, 3) := by decide +kernel
theorem dX0_coversWith_34 : decode cX0_coversWith 34 = .ok (.aload_n 0, 1) := by decide +kernel
theorem dX0_coversWith_35 : decode cX0_coversWith 35 = .ok (.getfield 9, 3) := by decide +kernel
theorem dX0_coversWith_38 : decode cX0_coversWith 38 = .ok (.iload_n 1, 1) := by decide +kernel
theorem dX0_coversWith_39 : decode cX0_coversWith 39 = .ok (.iaload, 1) := by decide +kernel
theorem dX0_coversWith_40 : decode cX0_coversWith 40 = .ok (.iaload, 1) := by decide +kernel
theorem dX0_coversWith_41 : decode cX0_coversWith 41 = .ok (.iadd, 1) := by decide +kernel
theorem dX0_coversWith_42 : decode cX0_coversWith 42 = .ok (.istore 4, 2) := by decide +kernel
theorem dX0_coversWith_44 : decode cX0_coversWith 44 = .ok (.iload 4, 2) := by decide +kernel
theorem dX0_coversWith_46 : decode cX0_coversWith 46 = .ok (.ifCond .ge 7, 3) := by decide +kernel
theorem dX0_coversWith_49 : decode cX0_coversWith 49 = .ok (.iconst 0, 1) := by decide +kernel
theorem dX0_coversWith_50 : decode cX0_coversWith 50 = .ok (.goto 5, 3) := by decide +kernel
theorem dX0_coversWith_53 : decode cX0_coversWith 53 = .ok (.iload 4, 2) := by decide +kernel
theorem dX0_coversWith_55 : decode cX0_coversWith 55 = .ok (.ireturn, 1) := by decide +kernel
theorem dX0_chafe_0 : decode cX0_chafe 0 = .ok (.getstatic 66, 3) := by decide +kernel
theorem dX0_chafe_3 : decode cX0_chafe 3 = .ok (.aload_n 0, 1) := by decide +kernel
theorem dX0_chafe_4 : decode cX0_chafe 4 = .ok (.getfield 9, 3) := by decide +kernel
theorem dX0_chafe_7 : decode cX0_chafe 7 = .ok (.iload_n 1, 1) := by decide +kernel
theorem dX0_chafe_8 : decode cX0_chafe 8 = .ok (.iaload, 1) := by decide +kernel
theorem dX0_chafe_9 : decode cX0_chafe 9 = .ok (.iaload, 1) := by decide +kernel
theorem dX0_chafe_10 : decode cX0_chafe 10 = .ok (.istore_n 3, 1) := by decide +kernel
theorem dX0_chafe_11 : decode cX0_chafe 11 = .ok (.aload_n 0, 1) := by decide +kernel
theorem dX0_chafe_12 : decode cX0_chafe 12 = .ok (.getfield 9, 3) := by decide +kernel
theorem dX0_chafe_15 : decode cX0_chafe 15 = .ok (.iload_n 1, 1) := by decide +kernel
theorem dX0_chafe_16 : decode cX0_chafe 16 = .ok (.iaload, 1) := by decide +kernel
theorem dX0_chafe_17 : decode cX0_chafe 17 = .ok (.iconst 4, 1) := by decide +kernel
theorem dX0_chafe_18 : decode cX0_chafe 18 = .ok (.if_icmp .ne 14, 3) := by decide +kernel
theorem dX0_chafe_21 : decode cX0_chafe 21 = .ok (.iload_n 3, 1) := by decide +kernel
theorem dX0_chafe_22 : decode cX0_chafe 22 = .ok (.aload_n 0, 1) := by decide +kernel
theorem dX0_chafe_23 : decode cX0_chafe 23 = .ok (.getfield 18, 3) := by decide +kernel
theorem dX0_chafe_26 : decode cX0_chafe 26 = .ok (.iload_n 1, 1) := by decide +kernel
theorem dX0_chafe_27 : decode cX0_chafe 27 = .ok (.iaload, 1) := by decide +kernel
theorem dX0_chafe_28 : decode cX0_chafe 28 = .ok (.iconst 3, 1) := by decide +kernel
theorem dX0_chafe_29 : decode cX0_chafe 29 = .ok (.idiv, 1) := by decide +kernel
theorem dX0_chafe_30 : decode cX0_chafe 30 = .ok (.iadd, 1) := by decide +kernel
theorem dX0_chafe_31 : decode cX0_chafe 31 = .ok (.ireturn, 1) := by decide +kernel
theorem dX0_chafe_32 : decode cX0_chafe 32 = .ok (.aload_n 0, 1) := by decide +kernel
theorem dX0_chafe_33 : decode cX0_chafe 33 = .ok (.getfield 9, 3) := by decide +kernel
theorem dX0_chafe_36 : decode cX0_chafe 36 = .ok (.iload_n 1, 1) := by decide +kernel
theorem dX0_chafe_37 : decode cX0_chafe 37 = .ok (.iaload, 1) := by decide +kernel
theorem dX0_chafe_38 : decode cX0_chafe 38 = .ok (.iconst 5, 1) := by decide +kernel
theorem dX0_chafe_39 : decode cX0_chafe 39 = .ok (.if_icmp .ne 11, 3) := by decide +kernel
theorem dX0_chafe_42 : decode cX0_chafe 42 = .ok (.iload_n 3, 1) := by decide +kernel
theorem dX0_chafe_43 : decode cX0_chafe 43 = .ok (.iload_n 2, 1) := by decide +kernel
theorem dX0_chafe_44 : decode cX0_chafe 44 = .ok (.iconst 2, 1) := by decide +kernel
theorem dX0_chafe_45 : decode cX0_chafe 45 = .ok (.irem, 1) := by decide +kernel
theorem dX0_chafe_46 : decode cX0_chafe 46 = .ok (.iadd, 1) := by decide +kernel
theorem dX0_chafe_47 : decode cX0_chafe 47 = .ok (.goto 4, 3) := by decide +kernel
theorem dX0_chafe_50 : decode cX0_chafe 50 = .ok (.iload_n 3, 1) := by decide +kernel
theorem dX0_chafe_51 : decode cX0_chafe 51 = .ok (.ireturn, 1) := by decide +kernel
theorem dX0_bravery_0 : decode cX0_bravery 0 = .ok (.aload_n 0, 1) := by decide +kernel
theorem dX0_bravery_1 : decode cX0_bravery 1 = .ok (.getfield 30, 3) := by decide +kernel
theorem dX0_bravery_4 : decode cX0_bravery 4 = .ok (.iload_n 1, 1) := by decide +kernel
theorem dX0_bravery_5 : decode cX0_bravery 5 = .ok (.iaload, 1) := by decide +kernel
theorem dX0_bravery_6 : decode cX0_bravery 6 = .ok (.istore_n 2, 1) := by decide +kernel
theorem dX0_bravery_7 : decode cX0_bravery 7 = .ok (.aload_n 0, 1) := by decide +kernel
theorem dX0_bravery_8 : decode cX0_bravery 8 = .ok (.iload_n 1, 1) := by decide +kernel
theorem dX0_bravery_9 : decode cX0_bravery 9 = .ok (.iload_n 2, 1) := by decide +kernel
theorem dX0_bravery_10 : decode cX0_bravery 10 = .ok (.bipush (-9), 2) := by decide +kernel
theorem dX0_bravery_12 : decode cX0_bravery 12 = .ok (.if_icmp .ne 7, 3) := by decide +kernel
theorem dX0_bravery_15 : decode cX0_bravery 15 = .ok (.iconst 0, 1) := by decide +kernel
theorem dX0_bravery_16 : decode cX0_bravery 16 = .ok (.goto 14, 3) := by decide +kernel
theorem dX0_bravery_19 : decode cX0_bravery 19 = .ok (.aload_n 0, 1) := by decide +kernel
theorem dX0_bravery_20 : decode cX0_bravery 20 = .ok (.iload_n 2, 1) := by decide +kernel
theorem dX0_bravery_21 : decode cX0_bravery 21 = .ok (.aload_n 0, 1) := by decide +kernel
theorem dX0_bravery_22 : decode cX0_bravery 22 = .ok (.getfield 18, 3) := by decide +kernel
theorem dX0_bravery_25 : decode cX0_bravery 25 = .ok (.iload_n 2, 1) := by decide +kernel
theorem dX0_bravery_26 : decode cX0_bravery 26 = .ok (.iaload, 1) := by decide +kernel
theorem dX0_bravery_27 : decode cX0_bravery 27 = .ok (.invokevirtual 56, 3) := by decide +kernel
theorem dX0_bravery_30 : decode cX0_bravery 30 = .ok (.invokevirtual 69, 3) := by decide +kernel
theorem dX0_bravery_33 : decode cX0_bravery 33 = .ok (.ireturn, 1) := by decide +kernel
theorem dX0_braveryCovered_0 : decode cX0_braveryCovered 0 = .ok (.iload_n 2, 1) := by decide +kernel
theorem dX0_braveryCovered_1 : decode cX0_braveryCovered 1 = .ok (.aload_n 0, 1) := by decide +kernel
theorem dX0_braveryCovered_2 : decode cX0_braveryCovered 2 = .ok (.getfield 27, 3) := by decide +kernel
theorem dX0_braveryCovered_5 : decode cX0_braveryCovered 5 = .ok (.iload_n 1, 1) := by decide +kernel
theorem dX0_braveryCovered_6 : decode cX0_braveryCovered 6 = .ok (.iaload, 1) := by decide +kernel
theorem dX0_braveryCovered_7 : decode cX0_braveryCovered 7 = .ok (.iadd, 1) := by decide +kernel
theorem dX0_braveryCovered_8 : decode cX0_braveryCovered 8 = .ok (.aload_n 0, 1) := by decide +kernel
theorem dX0_braveryCovered_9 : decode cX0_braveryCovered 9 = .ok (.getfield 21, 3) := by decide +kernel
theorem dX0_braveryCovered_12 : decode cX0_braveryCovered 12 = .ok (.iload_n 1, 1) := by decide +kernel
theorem dX0_braveryCovered_13 : decode cX0_braveryCovered 13 = .ok (.iaload, 1) := by decide +kernel
theorem dX0_braveryCovered_14 : decode cX0_braveryCovered 14 = .ok (.isub, 1) := by decide +kernel
theorem dX0_braveryCovered_15 : decode cX0_braveryCovered 15 = .ok (.aload_n 0, 1) := by decide +kernel
theorem dX0_braveryCovered_16 : decode cX0_braveryCovered 16 = .ok (.getfield 24, 3) := by decide +kernel
theorem dX0_braveryCovered_19 : decode cX0_braveryCovered 19 = .ok (.iload_n 1, 1) := by decide +kernel
theorem dX0_braveryCovered_20 : decode cX0_braveryCovered 20 = .ok (.iaload, 1) := by decide +kernel
theorem dX0_braveryCovered_21 : decode cX0_braveryCovered 21 = .ok (.iconst 3, 1) := by decide +kernel
theorem dX0_braveryCovered_22 : decode cX0_braveryCovered 22 = .ok (.idiv, 1) := by decide +kernel
theorem dX0_braveryCovered_23 : decode cX0_braveryCovered 23 = .ok (.isub, 1) := by decide +kernel
theorem dX0_braveryCovered_24 : decode cX0_braveryCovered 24 = .ok (.ireturn, 1) := by decide +kernel
theorem dX0_can_0 : decode cX0_can 0 = .ok (.aload_n 0, 1) := by decide +kernel
theorem dX0_can_1 : decode cX0_can 1 = .ok (.getfield 27, 3) := by decide +kernel
theorem dX0_can_4 : decode cX0_can 4 = .ok (.iload_n 1, 1) := by decide +kernel
theorem dX0_can_5 : decode cX0_can 5 = .ok (.iaload, 1) := by decide +kernel
theorem dX0_can_6 : decode cX0_can 6 = .ok (.bipush 6, 2) := by decide +kernel
theorem dX0_can_8 : decode cX0_can 8 = .ok (.if_icmp .ge 20, 3) := by decide +kernel
theorem dX0_can_11 : decode cX0_can 11 = .ok (.aload_n 0, 1) := by decide +kernel
theorem dX0_can_12 : decode cX0_can 12 = .ok (.iload_n 1, 1) := by decide +kernel
theorem dX0_can_13 : decode cX0_can 13 = .ok (.invokevirtual 72, 3) := by decide +kernel
theorem dX0_can_16 : decode cX0_can 16 = .ok (.aload_n 0, 1) := by decide +kernel
theorem dX0_can_17 : decode cX0_can 17 = .ok (.iload_n 1, 1) := by decide +kernel
theorem dX0_can_18 : decode cX0_can 18 = .ok (.invokevirtual 75, 3) := by decide +kernel
theorem dX0_can_21 : decode cX0_can 21 = .ok (.if_icmp .lt 7, 3) := by decide +kernel
theorem dX0_can_24 : decode cX0_can 24 = .ok (.iconst 1, 1) := by decide +kernel
theorem dX0_can_25 : decode cX0_can 25 = .ok (.goto 4, 3) := by decide +kernel
theorem dX0_can_28 : decode cX0_can 28 = .ok (.iconst 0, 1) := by decide +kernel
theorem dX0_can_29 : decode cX0_can 29 = .ok (.ireturn, 1) := by decide +kernel
theorem dX0_canCovered_0 : decode cX0_canCovered 0 = .ok (.aload_n 0, 1) := by decide +kernel
theorem dX0_canCovered_1 : decode cX0_canCovered 1 = .ok (.getfield 27, 3) := by decide +kernel
theorem dX0_canCovered_4 : decode cX0_canCovered 4 = .ok (.iload_n 1, 1) := by decide +kernel
theorem dX0_canCovered_5 : decode cX0_canCovered 5 = .ok (.iaload, 1) := by decide +kernel
theorem dX0_canCovered_6 : decode cX0_canCovered 6 = .ok (.bipush 6, 2) := by decide +kernel
theorem dX0_canCovered_8 : decode cX0_canCovered 8 = .ok (.if_icmp .ge 21, 3) := by decide +kernel
theorem dX0_canCovered_11 : decode cX0_canCovered 11 = .ok (.aload_n 0, 1) := by decide +kernel
theorem dX0_canCovered_12 : decode cX0_canCovered 12 = .ok (.iload_n 1, 1) := by decide +kernel
theorem dX0_canCovered_13 : decode cX0_canCovered 13 = .ok (.iload_n 2, 1) := by decide +kernel
theorem dX0_canCovered_14 : decode cX0_canCovered 14 = .ok (.invokevirtual 69, 3) := by decide +kernel
theorem dX0_canCovered_17 : decode cX0_canCovered 17 = .ok (.aload_n 0, 1) := by decide +kernel
theorem dX0_canCovered_18 : decode cX0_canCovered 18 = .ok (.iload_n 1, 1) := by decide +kernel
theorem dX0_canCovered_19 : decode cX0_canCovered 19 = .ok (.invokevirtual 75, 3) := by decide +kernel
theorem dX0_canCovered_22 : decode cX0_canCovered 22 = .ok (.if_icmp .lt 7, 3) := by decide +kernel
theorem dX0_canCovered_25 : decode cX0_canCovered 25 = .ok (.iconst 1, 1) := by decide +kernel
theorem dX0_canCovered_26 : decode cX0_canCovered 26 = .ok (.goto 4, 3) := by decide +kernel
theorem dX0_canCovered_29 : decode cX0_canCovered 29 = .ok (.iconst 0, 1) := by decide +kernel
theorem dX0_canCovered_30 : decode cX0_canCovered 30 = .ok (.ireturn, 1) := by decide +kernel
theorem dX0_needs_0 : decode cX0_needs 0 = .ok (.iconst 2, 1) := by decide +kernel
theorem dX0_needs_1 : decode cX0_needs 1 = .ok (.aload_n 0, 1) := by decide +kernel
theorem dX0_needs_2 : decode cX0_needs 2 = .ok (.getfield 27, 3) := by decide +kernel
theorem dX0_needs_5 : decode cX0_needs 5 = .ok (.iload_n 1, 1) := by decide +kernel
theorem dX0_needs_6 : decode cX0_needs 6 = .ok (.iaload, 1) := by decide +kernel
theorem dX0_needs_7 : decode cX0_needs 7 = .ok (.imul, 1) := by decide +kernel
theorem dX0_needs_8 : decode cX0_needs 8 = .ok (.iconst 2, 1) := by decide +kernel
theorem dX0_needs_9 : decode cX0_needs 9 = .ok (.iadd, 1) := by decide +kernel
theorem dX0_needs_10 : decode cX0_needs 10 = .ok (.bipush 6, 2) := by decide +kernel
theorem dX0_needs_12 : decode cX0_needs 12 = .ok (.isub, 1) := by decide +kernel
theorem dX0_needs_13 : decode cX0_needs 13 = .ok (.ireturn, 1) := by decide +kernel
theorem dX0_lacks_0 : decode cX0_lacks 0 = .ok (.aload_n 0, 1) := by decide +kernel
theorem dX0_lacks_1 : decode cX0_lacks 1 = .ok (.getfield 27, 3) := by decide +kernel
theorem dX0_lacks_4 : decode cX0_lacks 4 = .ok (.iload_n 1, 1) := by decide +kernel
theorem dX0_lacks_5 : decode cX0_lacks 5 = .ok (.iaload, 1) := by decide +kernel
theorem dX0_lacks_6 : decode cX0_lacks 6 = .ok (.bipush 6, 2) := by decide +kernel
theorem dX0_lacks_8 : decode cX0_lacks 8 = .ok (.if_icmp .lt 7, 3) := by decide +kernel
theorem dX0_lacks_11 : decode cX0_lacks 11 = .ok (.iconst 0, 1) := by decide +kernel
theorem dX0_lacks_12 : decode cX0_lacks 12 = .ok (.goto 18, 3) := by decide +kernel
theorem dX0_lacks_15 : decode cX0_lacks 15 = .ok (.aload_n 0, 1) := by decide +kernel
theorem dX0_lacks_16 : decode cX0_lacks 16 = .ok (.iload_n 1, 1) := by decide +kernel
theorem dX0_lacks_17 : decode cX0_lacks 17 = .ok (.invokevirtual 75, 3) := by decide +kernel
theorem dX0_lacks_20 : decode cX0_lacks 20 = .ok (.aload_n 0, 1) := by decide +kernel
theorem dX0_lacks_21 : decode cX0_lacks 21 = .ok (.iload_n 1, 1) := by decide +kernel
theorem dX0_lacks_22 : decode cX0_lacks 22 = .ok (.invokevirtual 72, 3) := by decide +kernel
theorem dX0_lacks_25 : decode cX0_lacks 25 = .ok (.isub, 1) := by decide +kernel
theorem dX0_lacks_26 : decode cX0_lacks 26 = .ok (.iconst 0, 1) := by decide +kernel
theorem dX0_lacks_27 : decode cX0_lacks 27 = .ok (.invokestatic 78, 3) := by decide +kernel
theorem dX0_lacks_30 : decode cX0_lacks 30 = .ok (.ireturn, 1) := by decide +kernel
theorem dX0_passDays_0 : decode cX0_passDays 0 = .ok (.iconst 0, 1) := by decide +kernel
theorem dX0_passDays_1 : decode cX0_passDays 1 = .ok (.istore_n 2, 1) := by decide +kernel
theorem dX0_passDays_2 : decode cX0_passDays 2 = .ok (.iload_n 2, 1) := by decide +kernel
theorem dX0_passDays_3 : decode cX0_passDays 3 = .ok (.iload_n 1, 1) := by decide +kernel
theorem dX0_passDays_4 : decode cX0_passDays 4 = .ok (.if_icmp .ge 53, 3) := by decide +kernel
theorem dX0_passDays_7 : decode cX0_passDays 7 = .ok (.aload_n 0, 1) := by decide +kernel
theorem dX0_passDays_8 : decode cX0_passDays 8 = .ok (.dup, 1) := by decide +kernel
theorem dX0_passDays_9 : decode cX0_passDays 9 = .ok (.getfield 43, 3) := by decide +kernel
theorem dX0_passDays_12 : decode cX0_passDays 12 = .ok (.iconst 1, 1) := by decide +kernel
theorem dX0_passDays_13 : decode cX0_passDays 13 = .ok (.iadd, 1) := by decide +kernel
theorem dX0_passDays_14 : decode cX0_passDays 14 = .ok (.putfield 43, 3) := by decide +kernel
theorem dX0_passDays_17 : decode cX0_passDays 17 = .ok (.iconst 0, 1) := by decide +kernel
theorem dX0_passDays_18 : decode cX0_passDays 18 = .ok (.istore_n 3, 1) := by decide +kernel
theorem dX0_passDays_19 : decode cX0_passDays 19 = .ok (.iload_n 3, 1) := by decide +kernel
theorem dX0_passDays_20 : decode cX0_passDays 20 = .ok (.aload_n 0, 1) := by decide +kernel
theorem dX0_passDays_21 : decode cX0_passDays 21 = .ok (.getfield 37, 3) := by decide +kernel
theorem dX0_passDays_24 : decode cX0_passDays 24 = .ok (.if_icmp .ge 14, 3) := by decide +kernel
theorem dX0_passDays_27 : decode cX0_passDays 27 = .ok (.aload_n 0, 1) := by decide +kernel
theorem dX0_passDays_28 : decode cX0_passDays 28 = .ok (.iload_n 3, 1) := by decide +kernel
theorem dX0_passDays_29 : decode cX0_passDays 29 = .ok (.invokevirtual 83, 3) := by decide +kernel
theorem dX0_passDays_32 : decode cX0_passDays 32 = .ok (.iinc 3 1, 3) := by decide +kernel
theorem dX0_passDays_35 : decode cX0_passDays 35 = .ok (.goto (-16), 3) := by decide +kernel
theorem dX0_passDays_38 : decode cX0_passDays 38 = .ok (.aload_n 0, 1) := by decide +kernel
theorem dX0_passDays_39 : decode cX0_passDays 39 = .ok (.getfield 43, 3) := by decide +kernel
theorem dX0_passDays_42 : decode cX0_passDays 42 = .ok (.iconst 5, 1) := by decide +kernel
theorem dX0_passDays_43 : decode cX0_passDays 43 = .ok (.irem, 1) := by decide +kernel
theorem dX0_passDays_44 : decode cX0_passDays 44 = .ok (.ifCond .ne 7, 3) := by decide +kernel
theorem dX0_passDays_47 : decode cX0_passDays 47 = .ok (.aload_n 0, 1) := by decide +kernel
theorem dX0_passDays_48 : decode cX0_passDays 48 = .ok (.invokevirtual 87, 3) := by decide +kernel
theorem dX0_passDays_51 : decode cX0_passDays 51 = .ok (.iinc 2 1, 3) := by decide +kernel
theorem dX0_passDays_54 : decode cX0_passDays 54 = .ok (.goto (-52), 3) := by decide +kernel
theorem dX0_passDays_57 : decode cX0_passDays 57 = .ok (.return_, 1) := by decide +kernel
theorem dX0_passDayOf_0 : decode cX0_passDayOf 0 = .ok (.aload_n 0, 1) := by decide +kernel
theorem dX0_passDayOf_1 : decode cX0_passDayOf 1 = .ok (.dup, 1) := by decide +kernel
theorem dX0_passDayOf_2 : decode cX0_passDayOf 2 = .ok (.getfield 43, 3) := by decide +kernel
theorem dX0_passDayOf_5 : decode cX0_passDayOf 5 = .ok (.iconst 1, 1) := by decide +kernel
theorem dX0_passDayOf_6 : decode cX0_passDayOf 6 = .ok (.iadd, 1) := by decide +kernel
theorem dX0_passDayOf_7 : decode cX0_passDayOf 7 = .ok (.putfield 43, 3) := by decide +kernel
theorem dX0_passDayOf_10 : decode cX0_passDayOf 10 = .ok (.aload_n 0, 1) := by decide +kernel
theorem dX0_passDayOf_11 : decode cX0_passDayOf 11 = .ok (.iload_n 1, 1) := by decide +kernel
theorem dX0_passDayOf_12 : decode cX0_passDayOf 12 = .ok (.invokevirtual 83, 3) := by decide +kernel
theorem dX0_passDayOf_15 : decode cX0_passDayOf 15 = .ok (.return_, 1) := by decide +kernel
theorem dX0_liveDay_0 : decode cX0_liveDay 0 = .ok (.aload_n 0, 1) := by decide +kernel
theorem dX0_liveDay_1 : decode cX0_liveDay 1 = .ok (.getfield 30, 3) := by decide +kernel
theorem dX0_liveDay_4 : decode cX0_liveDay 4 = .ok (.iload_n 1, 1) := by decide +kernel
theorem dX0_liveDay_5 : decode cX0_liveDay 5 = .ok (.iaload, 1) := by decide +kernel
theorem dX0_liveDay_6 : decode cX0_liveDay 6 = .ok (.istore_n 2, 1) := by decide +kernel
theorem dX0_liveDay_7 : decode cX0_liveDay 7 = .ok (.iload_n 2, 1) := by decide +kernel
theorem dX0_liveDay_8 : decode cX0_liveDay 8 = .ok (.bipush (-9), 2) := by decide +kernel
theorem dX0_liveDay_10 : decode cX0_liveDay 10 = .ok (.if_icmp .ne 22, 3) := by decide +kernel
theorem dX0_liveDay_13 : decode cX0_liveDay 13 = .ok (.aload_n 0, 1) := by decide +kernel
theorem dX0_liveDay_14 : decode cX0_liveDay 14 = .ok (.getfield 24, 3) := by decide +kernel
theorem dX0_liveDay_17 : decode cX0_liveDay 17 = .ok (.iload_n 1, 1) := by decide +kernel
theorem dX0_liveDay_18 : decode cX0_liveDay 18 = .ok (.aload_n 0, 1) := by decide +kernel
theorem dX0_liveDay_19 : decode cX0_liveDay 19 = .ok (.getfield 24, 3) := by decide +kernel
theorem dX0_liveDay_22 : decode cX0_liveDay 22 = .ok (.iload_n 1, 1) := by decide +kernel
theorem dX0_liveDay_23 : decode cX0_liveDay 23 = .ok (.iaload, 1) := by decide +kernel
theorem dX0_liveDay_24 : decode cX0_liveDay 24 = .ok (.iconst 1, 1) := by decide +kernel
theorem dX0_liveDay_25 : decode cX0_liveDay 25 = .ok (.isub, 1) := by decide +kernel
theorem dX0_liveDay_26 : decode cX0_liveDay 26 = .ok (.iconst 0, 1) := by decide +kernel
theorem dX0_liveDay_27 : decode cX0_liveDay 27 = .ok (.invokestatic 78, 3) := by decide +kernel
theorem dX0_liveDay_30 : decode cX0_liveDay 30 = .ok (.iastore, 1) := by decide +kernel
theorem dX0_liveDay_31 : decode cX0_liveDay 31 = .ok (.return_, 1) := by decide +kernel
theorem dX0_liveDay_32 : decode cX0_liveDay 32 = .ok (.aload_n 0, 1) := by decide +kernel
theorem dX0_liveDay_33 : decode cX0_liveDay 33 = .ok (.aload_n 0, 1) := by decide +kernel
theorem dX0_liveDay_34 : decode cX0_liveDay 34 = .ok (.getfield 40, 3) := by decide +kernel
theorem dX0_liveDay_37 : decode cX0_liveDay 37 = .ok (.getstatic 90, 3) := by decide +kernel
theorem dX0_liveDay_40 : decode cX0_liveDay 40 = .ok (.aload_n 0, 1) := by decide +kernel
theorem dX0_liveDay_41 : decode cX0_liveDay 41 = .ok (.getfield 9, 3) := by decide +kernel
theorem dX0_liveDay_44 : decode cX0_liveDay 44 = .ok (.iload_n 2, 1) := by decide +kernel
theorem dX0_liveDay_45 : decode cX0_liveDay 45 = .ok (.iaload, 1) := by decide +kernel
theorem dX0_liveDay_46 : decode cX0_liveDay 46 = .ok (.iaload, 1) := by decide +kernel
theorem dX0_liveDay_47 : decode cX0_liveDay 47 = .ok (.iadd, 1) := by decide +kernel
theorem dX0_liveDay_48 : decode cX0_liveDay 48 = .ok (.sipush 9999, 3) := by decide +kernel
theorem dX0_liveDay_51 : decode cX0_liveDay 51 = .ok (.invokestatic 93, 3) := by decide +kernel
theorem dX0_liveDay_54 : decode cX0_liveDay 54 = .ok (.putfield 40, 3) := by decide +kernel
theorem dX0_liveDay_57 : decode cX0_liveDay 57 = .ok (.aload_n 0, 1) := by decide +kernel
theorem dX0_liveDay_58 : decode cX0_liveDay 58 = .ok (.iload_n 1, 1) := by decide +kernel
theorem dX0_liveDay_59 : decode cX0_liveDay 59 = .ok (.invokevirtual 96, 3) := by decide +kernel
theorem dX0_liveDay_62 : decode cX0_liveDay 62 = .ok (.ifCond .eq 34, 3) := by decide +kernel
theorem dX0_liveDay_65 : decode cX0_liveDay 65 = .ok (.aload_n 0, 1) := by decide +kernel
theorem dX0_liveDay_66 : decode cX0_liveDay 66 = .ok (.getfield 27, 3) := by decide +kernel
theorem dX0_liveDay_69 : decode cX0_liveDay 69 = .ok (.iload_n 1, 1) := by decide +kernel
theorem dX0_liveDay_70 : decode cX0_liveDay 70 = .ok (.dup2, 1) := by decide +kernel
theorem dX0_liveDay_71 : decode cX0_liveDay 71 = .ok (.iaload, 1) := by decide +kernel
theorem dX0_liveDay_72 : decode cX0_liveDay 72 = .ok (.iconst 1, 1) := by decide +kernel
theorem dX0_liveDay_73 : decode cX0_liveDay 73 = .ok (.iadd, 1) := by decide +kernel
theorem dX0_liveDay_74 : decode cX0_liveDay 74 = .ok (.iastore, 1) := by decide +kernel
theorem dX0_liveDay_75 : decode cX0_liveDay 75 = .ok (.aload_n 0, 1) := by decide +kernel
theorem dX0_liveDay_76 : decode cX0_liveDay 76 = .ok (.getfield 21, 3) := by decide +kernel
theorem dX0_liveDay_79 : decode cX0_liveDay 79 = .ok (.iload_n 1, 1) := by decide +kernel
theorem dX0_liveDay_80 : decode cX0_liveDay 80 = .ok (.aload_n 0, 1) := by decide +kernel
theorem dX0_liveDay_81 : decode cX0_liveDay 81 = .ok (.getfield 21, 3) := by decide +kernel
theorem dX0_liveDay_84 : decode cX0_liveDay 84 = .ok (.iload_n 1, 1) := by decide +kernel
theorem dX0_liveDay_85 : decode cX0_liveDay 85 = .ok (.iaload, 1) := by decide +kernel
theorem dX0_liveDay_86 : decode cX0_liveDay 86 = .ok (.iconst 1, 1) := by decide +kernel
theorem dX0_liveDay_87 : decode cX0_liveDay 87 = .ok (.isub, 1) := by decide +kernel
theorem dX0_liveDay_88 : decode cX0_liveDay 88 = .ok (.iconst 0, 1) := by decide +kernel
theorem dX0_liveDay_89 : decode cX0_liveDay 89 = .ok (.invokestatic 78, 3) := by decide +kernel
theorem dX0_liveDay_92 : decode cX0_liveDay 92 = .ok (.iastore, 1) := by decide +kernel
theorem dX0_liveDay_93 : decode cX0_liveDay 93 = .ok (.goto 22, 3) := by decide +kernel
theorem dX0_liveDay_96 : decode cX0_liveDay 96 = .ok (.aload_n 0, 1) := by decide +kernel
theorem dX0_liveDay_97 : decode cX0_liveDay 97 = .ok (.getfield 21, 3) := by decide +kernel
theorem dX0_liveDay_100 : decode cX0_liveDay 100 = .ok (.iload_n 1, 1) := by decide +kernel
theorem dX0_liveDay_101 : decode cX0_liveDay 101 = .ok (.aload_n 0, 1) := by decide +kernel
theorem dX0_liveDay_102 : decode cX0_liveDay 102 = .ok (.getfield 21, 3) := by decide +kernel
theorem dX0_liveDay_105 : decode cX0_liveDay 105 = .ok (.iload_n 1, 1) := by decide +kernel
theorem dX0_liveDay_106 : decode cX0_liveDay 106 = .ok (.iaload, 1) := by decide +kernel
theorem dX0_liveDay_107 : decode cX0_liveDay 107 = .ok (.iconst 1, 1) := by decide +kernel
theorem dX0_liveDay_108 : decode cX0_liveDay 108 = .ok (.iadd, 1) := by decide +kernel
theorem dX0_liveDay_109 : decode cX0_liveDay 109 = .ok (.bipush 20, 2) := by decide +kernel
theorem dX0_liveDay_111 : decode cX0_liveDay 111 = .ok (.invokestatic 93, 3) := by decide +kernel
theorem dX0_liveDay_114 : decode cX0_liveDay 114 = .ok (.iastore, 1) := by decide +kernel
theorem dX0_liveDay_115 : decode cX0_liveDay 115 = .ok (.aload_n 0, 1) := by decide +kernel
theorem dX0_liveDay_116 : decode cX0_liveDay 116 = .ok (.getfield 24, 3) := by decide +kernel
theorem dX0_liveDay_119 : decode cX0_liveDay 119 = .ok (.iload_n 1, 1) := by decide +kernel
theorem dX0_liveDay_120 : decode cX0_liveDay 120 = .ok (.aload_n 0, 1) := by decide +kernel
theorem dX0_liveDay_121 : decode cX0_liveDay 121 = .ok (.getfield 24, 3) := by decide +kernel
theorem dX0_liveDay_124 : decode cX0_liveDay 124 = .ok (.iload_n 1, 1) := by decide +kernel
theorem dX0_liveDay_125 : decode cX0_liveDay 125 = .ok (.iaload, 1) := by decide +kernel
theorem dX0_liveDay_126 : decode cX0_liveDay 126 = .ok (.aload_n 0, 1) := by decide +kernel
theorem dX0_liveDay_127 : decode cX0_liveDay 127 = .ok (.iload_n 2, 1) := by decide +kernel
theorem dX0_liveDay_128 : decode cX0_liveDay 128 = .ok (.aload_n 0, 1) := by decide +kernel
theorem dX0_liveDay_129 : decode cX0_liveDay 129 = .ok (.getfield 43, 3) := by decide +kernel
theorem dX0_liveDay_132 : decode cX0_liveDay 132 = .ok (.invokevirtual 100, 3) := by decide +kernel
theorem dX0_liveDay_135 : decode cX0_liveDay 135 = .ok (.iadd, 1) := by decide +kernel
theorem dX0_liveDay_136 : decode cX0_liveDay 136 = .ok (.bipush 20, 2) := by decide +kernel
theorem dX0_liveDay_138 : decode cX0_liveDay 138 = .ok (.invokestatic 93, 3) := by decide +kernel
theorem dX0_liveDay_141 : decode cX0_liveDay 141 = .ok (.iastore, 1) := by decide +kernel
theorem dX0_liveDay_142 : decode cX0_liveDay 142 = .ok (.aload_n 0, 1) := by decide +kernel
theorem dX0_liveDay_143 : decode cX0_liveDay 143 = .ok (.getfield 24, 3) := by decide +kernel
theorem dX0_liveDay_146 : decode cX0_liveDay 146 = .ok (.iload_n 1, 1) := by decide +kernel
theorem dX0_liveDay_147 : decode cX0_liveDay 147 = .ok (.iaload, 1) := by decide +kernel
theorem dX0_liveDay_148 : decode cX0_liveDay 148 = .ok (.bipush 15, 2) := by decide +kernel
theorem dX0_liveDay_150 : decode cX0_liveDay 150 = .ok (.if_icmp .lt 11, 3) := by decide +kernel
theorem dX0_liveDay_153 : decode cX0_liveDay 153 = .ok (.aload_n 0, 1) := by decide +kernel
theorem dX0_liveDay_154 : decode cX0_liveDay 154 = .ok (.getfield 30, 3) := by decide +kernel
theorem dX0_liveDay_157 : decode cX0_liveDay 157 = .ok (.iload_n 1, 1) := by decide +kernel
theorem dX0_liveDay_158 : decode cX0_liveDay 158 = .ok (.bipush (-9), 2) := by decide +kernel
theorem dX0_liveDay_160 : decode cX0_liveDay 160 = .ok (.iastore, 1) := by decide +kernel
theorem dX0_liveDay_161 : decode cX0_liveDay 161 = .ok (.return_, 1) := by decide +kernel
theorem dX0_rustUnworn_0 : decode cX0_rustUnworn 0 = .ok (.iconst 0, 1) := by decide +kernel
theorem dX0_rustUnworn_1 : decode cX0_rustUnworn 1 = .ok (.istore_n 1, 1) := by decide +kernel
theorem dX0_rustUnworn_2 : decode cX0_rustUnworn 2 = .ok (.iload_n 1, 1) := by decide +kernel
theorem dX0_rustUnworn_3 : decode cX0_rustUnworn 3 = .ok (.aload_n 0, 1) := by decide +kernel
theorem dX0_rustUnworn_4 : decode cX0_rustUnworn 4 = .ok (.getfield 33, 3) := by decide +kernel
theorem dX0_rustUnworn_7 : decode cX0_rustUnworn 7 = .ok (.if_icmp .ge 38, 3) := by decide +kernel
theorem dX0_rustUnworn_10 : decode cX0_rustUnworn 10 = .ok (.aload_n 0, 1) := by decide +kernel
theorem dX0_rustUnworn_11 : decode cX0_rustUnworn 11 = .ok (.iload_n 1, 1) := by decide +kernel
theorem dX0_rustUnworn_12 : decode cX0_rustUnworn 12 = .ok (.invokevirtual 52, 3) := by decide +kernel
theorem dX0_rustUnworn_15 : decode cX0_rustUnworn 15 = .ok (.bipush (-9), 2) := by decide +kernel
theorem dX0_rustUnworn_17 : decode cX0_rustUnworn 17 = .ok (.if_icmp .ne 22, 3) := by decide +kernel
theorem dX0_rustUnworn_20 : decode cX0_rustUnworn 20 = .ok (.aload_n 0, 1) := by decide +kernel
theorem dX0_rustUnworn_21 : decode cX0_rustUnworn 21 = .ok (.getfield 18, 3) := by decide +kernel
theorem dX0_rustUnworn_24 : decode cX0_rustUnworn 24 = .ok (.iload_n 1, 1) := by decide +kernel
theorem dX0_rustUnworn_25 : decode cX0_rustUnworn 25 = .ok (.aload_n 0, 1) := by decide +kernel
theorem dX0_rustUnworn_26 : decode cX0_rustUnworn 26 = .ok (.getfield 18, 3) := by decide +kernel
theorem dX0_rustUnworn_29 : decode cX0_rustUnworn 29 = .ok (.iload_n 1, 1) := by decide +kernel
theorem dX0_rustUnworn_30 : decode cX0_rustUnworn 30 = .ok (.iaload, 1) := by decide +kernel
theorem dX0_rustUnworn_31 : decode cX0_rustUnworn 31 = .ok (.iconst 1, 1) := by decide +kernel
theorem dX0_rustUnworn_32 : decode cX0_rustUnworn 32 = .ok (.iadd, 1) := by decide +kernel
theorem dX0_rustUnworn_33 : decode cX0_rustUnworn 33 = .ok (.bipush 9, 2) := by decide +kernel
theorem dX0_rustUnworn_35 : decode cX0_rustUnworn 35 = .ok (.invokestatic 93, 3) := by decide +kernel
theorem dX0_rustUnworn_38 : decode cX0_rustUnworn 38 = .ok (.iastore, 1) := by decide +kernel
theorem dX0_rustUnworn_39 : decode cX0_rustUnworn 39 = .ok (.iinc 1 1, 3) := by decide +kernel
theorem dX0_rustUnworn_42 : decode cX0_rustUnworn 42 = .ok (.goto (-40), 3) := by decide +kernel
theorem dX0_rustUnworn_45 : decode cX0_rustUnworn 45 = .ok (.return_, 1) := by decide +kernel
theorem dX0_rainOnAll_0 : decode cX0_rainOnAll 0 = .ok (.iconst 0, 1) := by decide +kernel
theorem dX0_rainOnAll_1 : decode cX0_rainOnAll 1 = .ok (.istore_n 1, 1) := by decide +kernel
theorem dX0_rainOnAll_2 : decode cX0_rainOnAll 2 = .ok (.iload_n 1, 1) := by decide +kernel
theorem dX0_rainOnAll_3 : decode cX0_rainOnAll 3 = .ok (.aload_n 0, 1) := by decide +kernel
theorem dX0_rainOnAll_4 : decode cX0_rainOnAll 4 = .ok (.getfield 33, 3) := by decide +kernel
theorem dX0_rainOnAll_7 : decode cX0_rainOnAll 7 = .ok (.if_icmp .ge 28, 3) := by decide +kernel
theorem dX0_rainOnAll_10 : decode cX0_rainOnAll 10 = .ok (.aload_n 0, 1) := by decide +kernel
theorem dX0_rainOnAll_11 : decode cX0_rainOnAll 11 = .ok (.getfield 18, 3) := by decide +kernel
theorem dX0_rainOnAll_14 : decode cX0_rainOnAll 14 = .ok (.iload_n 1, 1) := by decide +kernel
theorem dX0_rainOnAll_15 : decode cX0_rainOnAll 15 = .ok (.aload_n 0, 1) := by decide +kernel
theorem dX0_rainOnAll_16 : decode cX0_rainOnAll 16 = .ok (.getfield 18, 3) := by decide +kernel
theorem dX0_rainOnAll_19 : decode cX0_rainOnAll 19 = .ok (.iload_n 1, 1) := by decide +kernel
theorem dX0_rainOnAll_20 : decode cX0_rainOnAll 20 = .ok (.iaload, 1) := by decide +kernel
theorem dX0_rainOnAll_21 : decode cX0_rainOnAll 21 = .ok (.iconst 1, 1) := by decide +kernel
theorem dX0_rainOnAll_22 : decode cX0_rainOnAll 22 = .ok (.iadd, 1) := by decide +kernel
theorem dX0_rainOnAll_23 : decode cX0_rainOnAll 23 = .ok (.bipush 9, 2) := by decide +kernel
theorem dX0_rainOnAll_25 : decode cX0_rainOnAll 25 = .ok (.invokestatic 93, 3) := by decide +kernel
theorem dX0_rainOnAll_28 : decode cX0_rainOnAll 28 = .ok (.iastore, 1) := by decide +kernel
theorem dX0_rainOnAll_29 : decode cX0_rainOnAll 29 = .ok (.iinc 1 1, 3) := by decide +kernel
theorem dX0_rainOnAll_32 : decode cX0_rainOnAll 32 = .ok (.goto (-30), 3) := by decide +kernel
theorem dX0_rainOnAll_35 : decode cX0_rainOnAll 35 = .ok (.return_, 1) := by decide +kernel
theorem dX0_allSaid_0 : decode cX0_allSaid 0 = .ok (.iconst 0, 1) := by decide +kernel
theorem dX0_allSaid_1 : decode cX0_allSaid 1 = .ok (.istore_n 1, 1) := by decide +kernel
theorem dX0_allSaid_2 : decode cX0_allSaid 2 = .ok (.iconst 0, 1) := by decide +kernel
theorem dX0_allSaid_3 : decode cX0_allSaid 3 = .ok (.istore_n 2, 1) := by decide +kernel
theorem dX0_allSaid_4 : decode cX0_allSaid 4 = .ok (.iload_n 2, 1) := by decide +kernel
theorem dX0_allSaid_5 : decode cX0_allSaid 5 = .ok (.aload_n 0, 1) := by decide +kernel
theorem dX0_allSaid_6 : decode cX0_allSaid 6 = .ok (.getfield 37, 3) := by decide +kernel
theorem dX0_allSaid_9 : decode cX0_allSaid 9 = .ok (.if_icmp .ge 18, 3) := by decide +kernel
theorem dX0_allSaid_12 : decode cX0_allSaid 12 = .ok (.iload_n 1, 1) := by decide +kernel
theorem dX0_allSaid_13 : decode cX0_allSaid 13 = .ok (.aload_n 0, 1) := by decide +kernel
theorem dX0_allSaid_14 : decode cX0_allSaid 14 = .ok (.getfield 27, 3) := by decide +kernel
theorem dX0_allSaid_17 : decode cX0_allSaid 17 = .ok (.iload_n 2, 1) := by decide +kernel
theorem dX0_allSaid_18 : decode cX0_allSaid 18 = .ok (.iaload, 1) := by decide +kernel
theorem dX0_allSaid_19 : decode cX0_allSaid 19 = .ok (.iadd, 1) := by decide +kernel
theorem dX0_allSaid_20 : decode cX0_allSaid 20 = .ok (.istore_n 1, 1) := by decide +kernel
theorem dX0_allSaid_21 : decode cX0_allSaid 21 = .ok (.iinc 2 1, 3) := by decide +kernel
theorem dX0_allSaid_24 : decode cX0_allSaid 24 = .ok (.goto (-20), 3) := by decide +kernel
theorem dX0_allSaid_27 : decode cX0_allSaid 27 = .ok (.iload_n 1, 1) := by decide +kernel
theorem dX0_allSaid_28 : decode cX0_allSaid 28 = .ok (.ireturn, 1) := by decide +kernel
theorem dX0_allFear_0 : decode cX0_allFear 0 = .ok (.iconst 0, 1) := by decide +kernel
theorem dX0_allFear_1 : decode cX0_allFear 1 = .ok (.istore_n 1, 1) := by decide +kernel
theorem dX0_allFear_2 : decode cX0_allFear 2 = .ok (.iconst 0, 1) := by decide +kernel
theorem dX0_allFear_3 : decode cX0_allFear 3 = .ok (.istore_n 2, 1) := by decide +kernel
theorem dX0_allFear_4 : decode cX0_allFear 4 = .ok (.iload_n 2, 1) := by decide +kernel
theorem dX0_allFear_5 : decode cX0_allFear 5 = .ok (.aload_n 0, 1) := by decide +kernel
theorem dX0_allFear_6 : decode cX0_allFear 6 = .ok (.getfield 37, 3) := by decide +kernel
theorem dX0_allFear_9 : decode cX0_allFear 9 = .ok (.if_icmp .ge 18, 3) := by decide +kernel
theorem dX0_allFear_12 : decode cX0_allFear 12 = .ok (.iload_n 1, 1) := by decide +kernel
theorem dX0_allFear_13 : decode cX0_allFear 13 = .ok (.aload_n 0, 1) := by decide +kernel
theorem dX0_allFear_14 : decode cX0_allFear 14 = .ok (.getfield 21, 3) := by decide +kernel
theorem dX0_allFear_17 : decode cX0_allFear 17 = .ok (.iload_n 2, 1) := by decide +kernel
theorem dX0_allFear_18 : decode cX0_allFear 18 = .ok (.iaload, 1) := by decide +kernel
theorem dX0_allFear_19 : decode cX0_allFear 19 = .ok (.iadd, 1) := by decide +kernel
theorem dX0_allFear_20 : decode cX0_allFear 20 = .ok (.istore_n 1, 1) := by decide +kernel
theorem dX0_allFear_21 : decode cX0_allFear 21 = .ok (.iinc 2 1, 3) := by decide +kernel
theorem dX0_allFear_24 : decode cX0_allFear 24 = .ok (.goto (-20), 3) := by decide +kernel
theorem dX0_allFear_27 : decode cX0_allFear 27 = .ok (.iload_n 1, 1) := by decide +kernel
theorem dX0_allFear_28 : decode cX0_allFear 28 = .ok (.ireturn, 1) := by decide +kernel
theorem dX1_init_0 : decode cX1_init 0 = .ok (.aload_n 0, 1) := by decide +kernel
theorem dX1_init_1 : decode cX1_init 1 = .ok (.invokespecial 3, 3) := by decide +kernel
theorem dX1_init_4 : decode cX1_init 4 = .ok (.aload_n 0, 1) := by decide +kernel
theorem dX1_init_5 : decode cX1_init 5 = .ok (.sipush 384, 3) := by decide +kernel
theorem dX1_init_8 : decode cX1_init 8 = .ok (.newarray .int, 2) := by decide +kernel
theorem dX1_init_10 : decode cX1_init 10 = .ok (.putfield 11, 3) := by decide +kernel
theorem dX1_init_13 : decode cX1_init 13 = .ok (.aload_n 0, 1) := by decide +kernel
theorem dX1_init_14 : decode cX1_init 14 = .ok (.iconst 5, 1) := by decide +kernel
theorem dX1_init_15 : decode cX1_init 15 = .ok (.newarray .int, 2) := by decide +kernel
theorem dX1_init_17 : decode cX1_init 17 = .ok (.putfield 15, 3) := by decide +kernel
theorem dX1_init_20 : decode cX1_init 20 = .ok (.return_, 1) := by decide +kernel
theorem dX1_most_0 : decode cX1_most 0 = .ok (.iconst 0, 1) := by decide +kernel
theorem dX1_most_1 : decode cX1_most 1 = .ok (.istore_n 2, 1) := by decide +kernel
theorem dX1_most_2 : decode cX1_most 2 = .ok (.iload_n 2, 1) := by decide +kernel
theorem dX1_most_3 : decode cX1_most 3 = .ok (.iconst 1, 1) := by decide +kernel
theorem dX1_most_4 : decode cX1_most 4 = .ok (.aload_n 1, 1) := by decide +kernel
theorem dX1_most_5 : decode cX1_most 5 = .ok (.getfield 18, 3) := by decide +kernel
theorem dX1_most_8 : decode cX1_most 8 = .ok (.ishl, 1) := by decide +kernel
theorem dX1_most_9 : decode cX1_most 9 = .ok (.if_icmp .ge 24, 3) := by decide +kernel
theorem dX1_most_12 : decode cX1_most 12 = .ok (.aload_n 0, 1) := by decide +kernel
theorem dX1_most_13 : decode cX1_most 13 = .ok (.getfield 11, 3) := by decide +kernel
theorem dX1_most_16 : decode cX1_most 16 = .ok (.aload_n 1, 1) := by decide +kernel
theorem dX1_most_17 : decode cX1_most 17 = .ok (.getfield 24, 3) := by decide +kernel
theorem dX1_most_20 : decode cX1_most 20 = .ok (.bipush 64, 2) := by decide +kernel
theorem dX1_most_22 : decode cX1_most 22 = .ok (.imul, 1) := by decide +kernel
theorem dX1_most_23 : decode cX1_most 23 = .ok (.iload_n 2, 1) := by decide +kernel
theorem dX1_most_24 : decode cX1_most 24 = .ok (.iadd, 1) := by decide +kernel
theorem dX1_most_25 : decode cX1_most 25 = .ok (.iconst 0, 1) := by decide +kernel
theorem dX1_most_26 : decode cX1_most 26 = .ok (.iastore, 1) := by decide +kernel
theorem dX1_most_27 : decode cX1_most 27 = .ok (.iinc 2 1, 3) := by decide +kernel
theorem dX1_most_30 : decode cX1_most 30 = .ok (.goto (-28), 3) := by decide +kernel
theorem dX1_most_33 : decode cX1_most 33 = .ok (.aload_n 1, 1) := by decide +kernel
theorem dX1_most_34 : decode cX1_most 34 = .ok (.getfield 24, 3) := by decide +kernel
theorem dX1_most_37 : decode cX1_most 37 = .ok (.iconst 1, 1) := by decide +kernel
theorem dX1_most_38 : decode cX1_most 38 = .ok (.isub, 1) := by decide +kernel
theorem dX1_most_39 : decode cX1_most 39 = .ok (.istore_n 2, 1) := by decide +kernel
theorem dX1_most_40 : decode cX1_most 40 = .ok (.iload_n 2, 1) := by decide +kernel
theorem dX1_most_41 : decode cX1_most 41 = .ok (.ifCond .lt 56, 3) := by decide +kernel
theorem dX1_most_44 : decode cX1_most 44 = .ok (.aload_n 0, 1) := by decide +kernel
theorem dX1_most_45 : decode cX1_most 45 = .ok (.getfield 15, 3) := by decide +kernel
theorem dX1_most_48 : decode cX1_most 48 = .ok (.iload_n 2, 1) := by decide +kernel
theorem dX1_most_49 : decode cX1_most 49 = .ok (.aload_n 1, 1) := by decide +kernel
theorem dX1_most_50 : decode cX1_most 50 = .ok (.iload_n 2, 1) := by decide +kernel
theorem dX1_most_51 : decode cX1_most 51 = .ok (.invokestatic 27, 3) := by decide +kernel
theorem dX1_most_54 : decode cX1_most 54 = .ok (.iastore, 1) := by decide +kernel
theorem dX1_most_55 : decode cX1_most 55 = .ok (.iconst 0, 1) := by decide +kernel
theorem dX1_most_56 : decode cX1_most 56 = .ok (.istore_n 3, 1) := by decide +kernel
theorem dX1_most_57 : decode cX1_most 57 = .ok (.iload_n 3, 1) := by decide +kernel
theorem dX1_most_58 : decode cX1_most 58 = .ok (.iconst 1, 1) := by decide +kernel
theorem dX1_most_59 : decode cX1_most 59 = .ok (.aload_n 1, 1) := by decide +kernel
theorem dX1_most_60 : decode cX1_most 60 = .ok (.getfield 18, 3) := by decide +kernel
theorem dX1_most_63 : decode cX1_most 63 = .ok (.ishl, 1) := by decide +kernel
theorem dX1_most_64 : decode cX1_most 64 = .ok (.if_icmp .ge 27, 3) := by decide +kernel
theorem dX1_most_67 : decode cX1_most 67 = .ok (.aload_n 0, 1) := by decide +kernel
theorem dX1_most_68 : decode cX1_most 68 = .ok (.getfield 11, 3) := by decide +kernel
theorem dX1_most_71 : decode cX1_most 71 = .ok (.iload_n 2, 1) := by decide +kernel
theorem dX1_most_72 : decode cX1_most 72 = .ok (.bipush 64, 2) := by decide +kernel
theorem dX1_most_74 : decode cX1_most 74 = .ok (.imul, 1) := by decide +kernel
theorem dX1_most_75 : decode cX1_most 75 = .ok (.iload_n 3, 1) := by decide +kernel
theorem dX1_most_76 : decode cX1_most 76 = .ok (.iadd, 1) := by decide +kernel
theorem dX1_most_77 : decode cX1_most 77 = .ok (.aload_n 0, 1) := by decide +kernel
theorem dX1_most_78 : decode cX1_most 78 = .ok (.aload_n 1, 1) := by decide +kernel
theorem dX1_most_79 : decode cX1_most 79 = .ok (.iload_n 2, 1) := by decide +kernel
theorem dX1_most_80 : decode cX1_most 80 = .ok (.iload_n 3, 1) := by decide +kernel
theorem dX1_most_81 : decode cX1_most 81 = .ok (.invokevirtual 31, 3) := by decide +kernel
theorem dX1_most_84 : decode cX1_most 84 = .ok (.iastore, 1) := by decide +kernel
theorem dX1_most_85 : decode cX1_most 85 = .ok (.iinc 3 1, 3) := by decide +kernel
theorem dX1_most_88 : decode cX1_most 88 = .ok (.goto (-31), 3) := by decide +kernel
theorem dX1_most_91 : decode cX1_most 91 = .ok (.iinc 2 (-1), 3) := by decide +kernel
theorem dX1_most_94 : decode cX1_most 94 = .ok (.goto (-54), 3) := by decide +kernel
theorem dX1_most_97 : decode cX1_most 97 = .ok (.aload_n 0, 1) := by decide +kernel
theorem dX1_most_98 : decode cX1_most 98 = .ok (.getfield 11, 3) := by decide +kernel
theorem dX1_most_101 : decode cX1_most 101 = .ok (.iconst 0, 1) := by decide +kernel
theorem dX1_most_102 : decode cX1_most 102 = .ok (.iaload, 1) := by decide +kernel
theorem dX1_most_103 : decode cX1_most 103 = .ok (.ireturn, 1) := by decide +kernel
theorem dX1_suitFor_0 : decode cX1_suitFor 0 = .ok (.aload_n 0, 1) := by decide +kernel
theorem dX1_suitFor_1 : decode cX1_suitFor 1 = .ok (.aload_n 1, 1) := by decide +kernel
theorem dX1_suitFor_2 : decode cX1_suitFor 2 = .ok (.invokevirtual 35, 3) := by decide +kernel
theorem dX1_suitFor_5 : decode cX1_suitFor 5 = .ok (.pop, 1) := by decide +kernel
theorem dX1_suitFor_6 : decode cX1_suitFor 6 = .ok (.iconst 0, 1) := by decide +kernel
theorem dX1_suitFor_7 : decode cX1_suitFor 7 = .ok (.istore_n 3, 1) := by decide +kernel
theorem dX1_suitFor_8 : decode cX1_suitFor 8 = .ok (.iconst 0, 1) := by decide +kernel
theorem dX1_suitFor_9 : decode cX1_suitFor 9 = .ok (.istore 4, 2) := by decide +kernel
theorem dX1_suitFor_11 : decode cX1_suitFor 11 = .ok (.iload 4, 2) := by decide +kernel
theorem dX1_suitFor_13 : decode cX1_suitFor 13 = .ok (.iload_n 2, 1) := by decide +kernel
theorem dX1_suitFor_14 : decode cX1_suitFor 14 = .ok (.if_icmp .ge 33, 3) := by decide +kernel
theorem dX1_suitFor_17 : decode cX1_suitFor 17 = .ok (.aload_n 0, 1) := by decide +kernel
theorem dX1_suitFor_18 : decode cX1_suitFor 18 = .ok (.aload_n 1, 1) := by decide +kernel
theorem dX1_suitFor_19 : decode cX1_suitFor 19 = .ok (.iload 4, 2) := by decide +kernel
theorem dX1_suitFor_21 : decode cX1_suitFor 21 = .ok (.iload_n 3, 1) := by decide +kernel
theorem dX1_suitFor_22 : decode cX1_suitFor 22 = .ok (.invokevirtual 39, 3) := by decide +kernel
theorem dX1_suitFor_25 : decode cX1_suitFor 25 = .ok (.istore 5, 2) := by decide +kernel
theorem dX1_suitFor_27 : decode cX1_suitFor 27 = .ok (.iload 5, 2) := by decide +kernel
theorem dX1_suitFor_29 : decode cX1_suitFor 29 = .ok (.bipush (-9), 2) := by decide +kernel
theorem dX1_suitFor_31 : decode cX1_suitFor 31 = .ok (.if_icmp .eq 10, 3) := by decide +kernel
theorem dX1_suitFor_34 : decode cX1_suitFor 34 = .ok (.iload_n 3, 1) := by decide +kernel
theorem dX1_suitFor_35 : decode cX1_suitFor 35 = .ok (.iconst 1, 1) := by decide +kernel
theorem dX1_suitFor_36 : decode cX1_suitFor 36 = .ok (.iload 5, 2) := by decide +kernel
theorem dX1_suitFor_38 : decode cX1_suitFor 38 = .ok (.ishl, 1) := by decide +kernel
theorem dX1_suitFor_39 : decode cX1_suitFor 39 = .ok (.ior, 1) := by decide +kernel
theorem dX1_suitFor_40 : decode cX1_suitFor 40 = .ok (.istore_n 3, 1) := by decide +kernel
theorem dX1_suitFor_41 : decode cX1_suitFor 41 = .ok (.iinc 4 1, 3) := by decide +kernel
theorem dX1_suitFor_44 : decode cX1_suitFor 44 = .ok (.goto (-33), 3) := by decide +kernel
theorem dX1_suitFor_47 : decode cX1_suitFor 47 = .ok (.aload_n 0, 1) := by decide +kernel
theorem dX1_suitFor_48 : decode cX1_suitFor 48 = .ok (.aload_n 1, 1) := by decide +kernel
theorem dX1_suitFor_49 : decode cX1_suitFor 49 = .ok (.iload_n 2, 1) := by decide +kernel
theorem dX1_suitFor_50 : decode cX1_suitFor 50 = .ok (.iload_n 3, 1) := by decide +kernel
theorem dX1_suitFor_51 : decode cX1_suitFor 51 = .ok (.invokevirtual 39, 3) := by decide +kernel
theorem dX1_suitFor_54 : decode cX1_suitFor 54 = .ok (.ireturn, 1) := by decide +kernel
theorem dX1_bitsOfCan_0 : decode cX1_bitsOfCan 0 = .ok (.aload_n 0, 1) := by decide +kernel
theorem dX1_bitsOfCan_1 : decode cX1_bitsOfCan 1 = .ok (.iload_n 1, 1) := by decide +kernel
theorem dX1_bitsOfCan_2 : decode cX1_bitsOfCan 2 = .ok (.iconst 0, 1) := by decide +kernel
theorem dX1_bitsOfCan_3 : decode cX1_bitsOfCan 3 = .ok (.invokevirtual 42, 3) := by decide +kernel
theorem dX1_bitsOfCan_6 : decode cX1_bitsOfCan 6 = .ok (.ifCond .eq 12, 3) := by decide +kernel
theorem dX1_bitsOfCan_9 : decode cX1_bitsOfCan 9 = .ok (.iconst 1, 1) := by decide +kernel
theorem dX1_bitsOfCan_10 : decode cX1_bitsOfCan 10 = .ok (.aload_n 0, 1) := by decide +kernel
theorem dX1_bitsOfCan_11 : decode cX1_bitsOfCan 11 = .ok (.getfield 18, 3) := by decide +kernel
theorem dX1_bitsOfCan_14 : decode cX1_bitsOfCan 14 = .ok (.ishl, 1) := by decide +kernel
theorem dX1_bitsOfCan_15 : decode cX1_bitsOfCan 15 = .ok (.goto 4, 3) := by decide +kernel
theorem dX1_bitsOfCan_18 : decode cX1_bitsOfCan 18 = .ok (.iconst 0, 1) := by decide +kernel
theorem dX1_bitsOfCan_19 : decode cX1_bitsOfCan 19 = .ok (.istore_n 2, 1) := by decide +kernel
theorem dX1_bitsOfCan_20 : decode cX1_bitsOfCan 20 = .ok (.iconst 0, 1) := by decide +kernel
theorem dX1_bitsOfCan_21 : decode cX1_bitsOfCan 21 = .ok (.istore_n 3, 1) := by decide +kernel
theorem dX1_bitsOfCan_22 : decode cX1_bitsOfCan 22 = .ok (.iload_n 3, 1) := by decide +kernel
theorem dX1_bitsOfCan_23 : decode cX1_bitsOfCan 23 = .ok (.aload_n 0, 1) := by decide +kernel
theorem dX1_bitsOfCan_24 : decode cX1_bitsOfCan 24 = .ok (.getfield 18, 3) := by decide +kernel
theorem dX1_bitsOfCan_27 : decode cX1_bitsOfCan 27 = .ok (.if_icmp .ge 28, 3) := by decide +kernel
theorem dX1_bitsOfCan_30 : decode cX1_bitsOfCan 30 = .ok (.aload_n 0, 1) := by decide +kernel
theorem dX1_bitsOfCan_31 : decode cX1_bitsOfCan 31 = .ok (.iload_n 1, 1) := by decide +kernel
theorem dX1_bitsOfCan_32 : decode cX1_bitsOfCan 32 = .ok (.aload_n 0, 1) := by decide +kernel
theorem dX1_bitsOfCan_33 : decode cX1_bitsOfCan 33 = .ok (.iload_n 3, 1) := by decide +kernel
theorem dX1_bitsOfCan_34 : decode cX1_bitsOfCan 34 = .ok (.invokevirtual 46, 3) := by decide +kernel
theorem dX1_bitsOfCan_37 : decode cX1_bitsOfCan 37 = .ok (.invokevirtual 42, 3) := by decide +kernel
theorem dX1_bitsOfCan_40 : decode cX1_bitsOfCan 40 = .ok (.ifCond .eq 9, 3) := by decide +kernel
theorem dX1_bitsOfCan_43 : decode cX1_bitsOfCan 43 = .ok (.iload_n 2, 1) := by decide +kernel
theorem dX1_bitsOfCan_44 : decode cX1_bitsOfCan 44 = .ok (.iconst 1, 1) := by decide +kernel
theorem dX1_bitsOfCan_45 : decode cX1_bitsOfCan 45 = .ok (.iload_n 3, 1) := by decide +kernel
theorem dX1_bitsOfCan_46 : decode cX1_bitsOfCan 46 = .ok (.ishl, 1) := by decide +kernel
theorem dX1_bitsOfCan_47 : decode cX1_bitsOfCan 47 = .ok (.ior, 1) := by decide +kernel
theorem dX1_bitsOfCan_48 : decode cX1_bitsOfCan 48 = .ok (.istore_n 2, 1) := by decide +kernel
theorem dX1_bitsOfCan_49 : decode cX1_bitsOfCan 49 = .ok (.iinc 3 1, 3) := by decide +kernel
theorem dX1_bitsOfCan_52 : decode cX1_bitsOfCan 52 = .ok (.goto (-30), 3) := by decide +kernel
theorem dX1_bitsOfCan_55 : decode cX1_bitsOfCan 55 = .ok (.iload_n 2, 1) := by decide +kernel
theorem dX1_bitsOfCan_56 : decode cX1_bitsOfCan 56 = .ok (.ireturn, 1) := by decide +kernel
theorem dX1_mostOn_0 : decode cX1_mostOn 0 = .ok (.aload_n 0, 1) := by decide +kernel
theorem dX1_mostOn_1 : decode cX1_mostOn 1 = .ok (.iload_n 2, 1) := by decide +kernel
theorem dX1_mostOn_2 : decode cX1_mostOn 2 = .ok (.aload_n 1, 1) := by decide +kernel
theorem dX1_mostOn_3 : decode cX1_mostOn 3 = .ok (.getfield 18, 3) := by decide +kernel
theorem dX1_mostOn_6 : decode cX1_mostOn 6 = .ok (.iload_n 3, 1) := by decide +kernel
theorem dX1_mostOn_7 : decode cX1_mostOn 7 = .ok (.invokevirtual 50, 3) := by decide +kernel
theorem dX1_mostOn_10 : decode cX1_mostOn 10 = .ok (.istore 4, 2) := by decide +kernel
theorem dX1_mostOn_12 : decode cX1_mostOn 12 = .ok (.iconst 0, 1) := by decide +kernel
theorem dX1_mostOn_13 : decode cX1_mostOn 13 = .ok (.istore 5, 2) := by decide +kernel
theorem dX1_mostOn_15 : decode cX1_mostOn 15 = .ok (.iload 5, 2) := by decide +kernel
theorem dX1_mostOn_17 : decode cX1_mostOn 17 = .ok (.aload_n 1, 1) := by decide +kernel
theorem dX1_mostOn_18 : decode cX1_mostOn 18 = .ok (.getfield 18, 3) := by decide +kernel
theorem dX1_mostOn_21 : decode cX1_mostOn 21 = .ok (.if_icmp .ge 38, 3) := by decide +kernel
theorem dX1_mostOn_24 : decode cX1_mostOn 24 = .ok (.iload_n 3, 1) := by decide +kernel
theorem dX1_mostOn_25 : decode cX1_mostOn 25 = .ok (.iload 5, 2) := by decide +kernel
theorem dX1_mostOn_27 : decode cX1_mostOn 27 = .ok (.ishr, 1) := by decide +kernel
theorem dX1_mostOn_28 : decode cX1_mostOn 28 = .ok (.iconst 1, 1) := by decide +kernel
theorem dX1_mostOn_29 : decode cX1_mostOn 29 = .ok (.iand, 1) := by decide +kernel
theorem dX1_mostOn_30 : decode cX1_mostOn 30 = .ok (.ifCond .ne 23, 3) := by decide +kernel
theorem dX1_mostOn_33 : decode cX1_mostOn 33 = .ok (.iload 4, 2) := by decide +kernel
theorem dX1_mostOn_35 : decode cX1_mostOn 35 = .ok (.aload_n 0, 1) := by decide +kernel
theorem dX1_mostOn_36 : decode cX1_mostOn 36 = .ok (.iload_n 2, 1) := by decide +kernel
theorem dX1_mostOn_37 : decode cX1_mostOn 37 = .ok (.iload 5, 2) := by decide +kernel
theorem dX1_mostOn_39 : decode cX1_mostOn 39 = .ok (.iload_n 3, 1) := by decide +kernel
theorem dX1_mostOn_40 : decode cX1_mostOn 40 = .ok (.iconst 1, 1) := by decide +kernel
theorem dX1_mostOn_41 : decode cX1_mostOn 41 = .ok (.iload 5, 2) := by decide +kernel
theorem dX1_mostOn_43 : decode cX1_mostOn 43 = .ok (.ishl, 1) := by decide +kernel
theorem dX1_mostOn_44 : decode cX1_mostOn 44 = .ok (.ior, 1) := by decide +kernel
theorem dX1_mostOn_45 : decode cX1_mostOn 45 = .ok (.invokevirtual 50, 3) := by decide +kernel
theorem dX1_mostOn_48 : decode cX1_mostOn 48 = .ok (.invokestatic 54, 3) := by decide +kernel
theorem dX1_mostOn_51 : decode cX1_mostOn 51 = .ok (.istore 4, 2) := by decide +kernel
theorem dX1_mostOn_53 : decode cX1_mostOn 53 = .ok (.iinc 5 1, 3) := by decide +kernel
theorem dX1_mostOn_56 : decode cX1_mostOn 56 = .ok (.goto (-41), 3) := by decide +kernel
theorem dX1_mostOn_59 : decode cX1_mostOn 59 = .ok (.iload 4, 2) := by decide +kernel
theorem dX1_mostOn_61 : decode cX1_mostOn 61 = .ok (.ireturn, 1) := by decide +kernel
theorem dX1_mostWith_0 : decode cX1_mostWith 0 = .ok (.aload_n 0, 1) := by decide +kernel
theorem dX1_mostWith_1 : decode cX1_mostWith 1 = .ok (.getfield 15, 3) := by decide +kernel
theorem dX1_mostWith_4 : decode cX1_mostWith 4 = .ok (.iload_n 1, 1) := by decide +kernel
theorem dX1_mostWith_5 : decode cX1_mostWith 5 = .ok (.iaload, 1) := by decide +kernel
theorem dX1_mostWith_6 : decode cX1_mostWith 6 = .ok (.iload_n 2, 1) := by decide +kernel
theorem dX1_mostWith_7 : decode cX1_mostWith 7 = .ok (.ishr, 1) := by decide +kernel
theorem dX1_mostWith_8 : decode cX1_mostWith 8 = .ok (.iconst 1, 1) := by decide +kernel
theorem dX1_mostWith_9 : decode cX1_mostWith 9 = .ok (.iand, 1) := by decide +kernel
theorem dX1_mostWith_10 : decode cX1_mostWith 10 = .ok (.aload_n 0, 1) := by decide +kernel
theorem dX1_mostWith_11 : decode cX1_mostWith 11 = .ok (.getfield 11, 3) := by decide +kernel
theorem dX1_mostWith_14 : decode cX1_mostWith 14 = .ok (.iload_n 1, 1) := by decide +kernel
theorem dX1_mostWith_15 : decode cX1_mostWith 15 = .ok (.iconst 1, 1) := by decide +kernel
theorem dX1_mostWith_16 : decode cX1_mostWith 16 = .ok (.iadd, 1) := by decide +kernel
theorem dX1_mostWith_17 : decode cX1_mostWith 17 = .ok (.bipush 64, 2) := by decide +kernel
theorem dX1_mostWith_19 : decode cX1_mostWith 19 = .ok (.imul, 1) := by decide +kernel
theorem dX1_mostWith_20 : decode cX1_mostWith 20 = .ok (.iload_n 3, 1) := by decide +kernel
theorem dX1_mostWith_21 : decode cX1_mostWith 21 = .ok (.iadd, 1) := by decide +kernel
theorem dX1_mostWith_22 : decode cX1_mostWith 22 = .ok (.iaload, 1) := by decide +kernel
theorem dX1_mostWith_23 : decode cX1_mostWith 23 = .ok (.iadd, 1) := by decide +kernel
theorem dX1_mostWith_24 : decode cX1_mostWith 24 = .ok (.ireturn, 1) := by decide +kernel
theorem dX1_firstBest_0 : decode cX1_firstBest 0 = .ok (.aload_n 0, 1) := by decide +kernel
theorem dX1_firstBest_1 : decode cX1_firstBest 1 = .ok (.getfield 11, 3) := by decide +kernel
theorem dX1_firstBest_4 : decode cX1_firstBest 4 = .ok (.iload_n 2, 1) := by decide +kernel
theorem dX1_firstBest_5 : decode cX1_firstBest 5 = .ok (.bipush 64, 2) := by decide +kernel
theorem dX1_firstBest_7 : decode cX1_firstBest 7 = .ok (.imul, 1) := by decide +kernel
theorem dX1_firstBest_8 : decode cX1_firstBest 8 = .ok (.iload_n 3, 1) := by decide +kernel
theorem dX1_firstBest_9 : decode cX1_firstBest 9 = .ok (.iadd, 1) := by decide +kernel
theorem dX1_firstBest_10 : decode cX1_firstBest 10 = .ok (.iaload, 1) := by decide +kernel
theorem dX1_firstBest_11 : decode cX1_firstBest 11 = .ok (.istore 4, 2) := by decide +kernel
theorem dX1_firstBest_13 : decode cX1_firstBest 13 = .ok (.iconst 0, 1) := by decide +kernel
theorem dX1_firstBest_14 : decode cX1_firstBest 14 = .ok (.istore 5, 2) := by decide +kernel
theorem dX1_firstBest_16 : decode cX1_firstBest 16 = .ok (.iload 5, 2) := by decide +kernel
theorem dX1_firstBest_18 : decode cX1_firstBest 18 = .ok (.aload_n 1, 1) := by decide +kernel
theorem dX1_firstBest_19 : decode cX1_firstBest 19 = .ok (.getfield 18, 3) := by decide +kernel
theorem dX1_firstBest_22 : decode cX1_firstBest 22 = .ok (.if_icmp .ge 39, 3) := by decide +kernel
theorem dX1_firstBest_25 : decode cX1_firstBest 25 = .ok (.iload_n 3, 1) := by decide +kernel
theorem dX1_firstBest_26 : decode cX1_firstBest 26 = .ok (.iload 5, 2) := by decide +kernel
theorem dX1_firstBest_28 : decode cX1_firstBest 28 = .ok (.ishr, 1) := by decide +kernel
theorem dX1_firstBest_29 : decode cX1_firstBest 29 = .ok (.iconst 1, 1) := by decide +kernel
theorem dX1_firstBest_30 : decode cX1_firstBest 30 = .ok (.iand, 1) := by decide +kernel
theorem dX1_firstBest_31 : decode cX1_firstBest 31 = .ok (.ifCond .ne 24, 3) := by decide +kernel
theorem dX1_firstBest_34 : decode cX1_firstBest 34 = .ok (.aload_n 0, 1) := by decide +kernel
theorem dX1_firstBest_35 : decode cX1_firstBest 35 = .ok (.iload_n 2, 1) := by decide +kernel
theorem dX1_firstBest_36 : decode cX1_firstBest 36 = .ok (.iload 5, 2) := by decide +kernel
theorem dX1_firstBest_38 : decode cX1_firstBest 38 = .ok (.iload_n 3, 1) := by decide +kernel
theorem dX1_firstBest_39 : decode cX1_firstBest 39 = .ok (.iconst 1, 1) := by decide +kernel
theorem dX1_firstBest_40 : decode cX1_firstBest 40 = .ok (.iload 5, 2) := by decide +kernel
theorem dX1_firstBest_42 : decode cX1_firstBest 42 = .ok (.ishl, 1) := by decide +kernel
theorem dX1_firstBest_43 : decode cX1_firstBest 43 = .ok (.ior, 1) := by decide +kernel
theorem dX1_firstBest_44 : decode cX1_firstBest 44 = .ok (.invokevirtual 50, 3) := by decide +kernel
theorem dX1_firstBest_47 : decode cX1_firstBest 47 = .ok (.iload 4, 2) := by decide +kernel
theorem dX1_firstBest_49 : decode cX1_firstBest 49 = .ok (.if_icmp .ne 6, 3) := by decide +kernel
theorem dX1_firstBest_52 : decode cX1_firstBest 52 = .ok (.iload 5, 2) := by decide +kernel
theorem dX1_firstBest_54 : decode cX1_firstBest 54 = .ok (.ireturn, 1) := by decide +kernel
theorem dX1_firstBest_55 : decode cX1_firstBest 55 = .ok (.iinc 5 1, 3) := by decide +kernel
theorem dX1_firstBest_58 : decode cX1_firstBest 58 = .ok (.goto (-42), 3) := by decide +kernel
theorem dX1_firstBest_61 : decode cX1_firstBest 61 = .ok (.bipush (-9), 2) := by decide +kernel
theorem dX1_firstBest_63 : decode cX1_firstBest 63 = .ok (.ireturn, 1) := by decide +kernel
theorem dX2_init_0 : decode cX2_init 0 = .ok (.aload_n 0, 1) := by decide +kernel
theorem dX2_init_1 : decode cX2_init 1 = .ok (.invokespecial 3, 3) := by decide +kernel
theorem dX2_init_4 : decode cX2_init 4 = .ok (.aload_n 0, 1) := by decide +kernel
theorem dX2_init_5 : decode cX2_init 5 = .ok (.bipush 96, 2) := by decide +kernel
theorem dX2_init_7 : decode cX2_init 7 = .ok (.newarray .char, 2) := by decide +kernel
theorem dX2_init_9 : decode cX2_init 9 = .ok (.putfield 9, 3) := by decide +kernel
theorem dX2_init_12 : decode cX2_init 12 = .ok (.aload_n 0, 1) := by decide +kernel
theorem dX2_init_13 : decode cX2_init 13 = .ok (.iconst 0, 1) := by decide +kernel
theorem dX2_init_14 : decode cX2_init 14 = .ok (.putfield 15, 3) := by decide +kernel
theorem dX2_init_17 : decode cX2_init 17 = .ok (.return_, 1) := by decide +kernel
theorem dX2_add_0 : decode cX2_add 0 = .ok (.aload_n 0, 1) := by decide +kernel
theorem dX2_add_1 : decode cX2_add 1 = .ok (.getfield 9, 3) := by decide +kernel
theorem dX2_add_4 : decode cX2_add 4 = .ok (.aload_n 0, 1) := by decide +kernel
theorem dX2_add_5 : decode cX2_add 5 = .ok (.getfield 15, 3) := by decide +kernel
theorem dX2_add_8 : decode cX2_add 8 = .ok (.iload_n 1, 1) := by decide +kernel
theorem dX2_add_9 : decode cX2_add 9 = .ok (.i2c, 1) := by decide +kernel
theorem dX2_add_10 : decode cX2_add 10 = .ok (.castore, 1) := by decide +kernel
theorem dX2_add_11 : decode cX2_add 11 = .ok (.aload_n 0, 1) := by decide +kernel
theorem dX2_add_12 : decode cX2_add 12 = .ok (.dup, 1) := by decide +kernel
theorem dX2_add_13 : decode cX2_add 13 = .ok (.getfield 15, 3) := by decide +kernel
theorem dX2_add_16 : decode cX2_add 16 = .ok (.iconst 1, 1) := by decide +kernel
theorem dX2_add_17 : decode cX2_add 17 = .ok (.iadd, 1) := by decide +kernel
theorem dX2_add_18 : decode cX2_add 18 = .ok (.putfield 15, 3) := by decide +kernel
theorem dX2_add_21 : decode cX2_add 21 = .ok (.aload_n 0, 1) := by decide +kernel
theorem dX2_add_22 : decode cX2_add 22 = .ok (.getfield 15, 3) := by decide +kernel
theorem dX2_add_25 : decode cX2_add 25 = .ok (.ireturn, 1) := by decide +kernel
theorem dX2_wrongPlace_0 : decode cX2_wrongPlace 0 = .ok (.iconst 0, 1) := by decide +kernel
theorem dX2_wrongPlace_1 : decode cX2_wrongPlace 1 = .ok (.istore_n 1, 1) := by decide +kernel
theorem dX2_wrongPlace_2 : decode cX2_wrongPlace 2 = .ok (.iconst 0, 1) := by decide +kernel
theorem dX2_wrongPlace_3 : decode cX2_wrongPlace 3 = .ok (.istore_n 2, 1) := by decide +kernel
theorem dX2_wrongPlace_4 : decode cX2_wrongPlace 4 = .ok (.iload_n 2, 1) := by decide +kernel
theorem dX2_wrongPlace_5 : decode cX2_wrongPlace 5 = .ok (.aload_n 0, 1) := by decide +kernel
theorem dX2_wrongPlace_6 : decode cX2_wrongPlace 6 = .ok (.getfield 15, 3) := by decide +kernel
theorem dX2_wrongPlace_9 : decode cX2_wrongPlace 9 = .ok (.if_icmp .ge 35, 3) := by decide +kernel
theorem dX2_wrongPlace_12 : decode cX2_wrongPlace 12 = .ok (.aload_n 0, 1) := by decide +kernel
theorem dX2_wrongPlace_13 : decode cX2_wrongPlace 13 = .ok (.iload_n 1, 1) := by decide +kernel
theorem dX2_wrongPlace_14 : decode cX2_wrongPlace 14 = .ok (.iload_n 2, 1) := by decide +kernel
theorem dX2_wrongPlace_15 : decode cX2_wrongPlace 15 = .ok (.invokevirtual 19, 3) := by decide +kernel
theorem dX2_wrongPlace_18 : decode cX2_wrongPlace 18 = .ok (.ifCond .ne 5, 3) := by decide +kernel
theorem dX2_wrongPlace_21 : decode cX2_wrongPlace 21 = .ok (.iload_n 2, 1) := by decide +kernel
theorem dX2_wrongPlace_22 : decode cX2_wrongPlace 22 = .ok (.ireturn, 1) := by decide +kernel
theorem dX2_wrongPlace_23 : decode cX2_wrongPlace 23 = .ok (.aload_n 0, 1) := by decide +kernel
theorem dX2_wrongPlace_24 : decode cX2_wrongPlace 24 = .ok (.getfield 9, 3) := by decide +kernel
theorem dX2_wrongPlace_27 : decode cX2_wrongPlace 27 = .ok (.iload_n 2, 1) := by decide +kernel
theorem dX2_wrongPlace_28 : decode cX2_wrongPlace 28 = .ok (.caload, 1) := by decide +kernel
theorem dX2_wrongPlace_29 : decode cX2_wrongPlace 29 = .ok (.bipush 59, 2) := by decide +kernel
theorem dX2_wrongPlace_31 : decode cX2_wrongPlace 31 = .ok (.if_icmp .ne 7, 3) := by decide +kernel
theorem dX2_wrongPlace_34 : decode cX2_wrongPlace 34 = .ok (.iload_n 2, 1) := by decide +kernel
theorem dX2_wrongPlace_35 : decode cX2_wrongPlace 35 = .ok (.iconst 1, 1) := by decide +kernel
theorem dX2_wrongPlace_36 : decode cX2_wrongPlace 36 = .ok (.iadd, 1) := by decide +kernel
theorem dX2_wrongPlace_37 : decode cX2_wrongPlace 37 = .ok (.istore_n 1, 1) := by decide +kernel
theorem dX2_wrongPlace_38 : decode cX2_wrongPlace 38 = .ok (.iinc 2 1, 3) := by decide +kernel
theorem dX2_wrongPlace_41 : decode cX2_wrongPlace 41 = .ok (.goto (-37), 3) := by decide +kernel
theorem dX2_wrongPlace_44 : decode cX2_wrongPlace 44 = .ok (.aload_n 0, 1) := by decide +kernel
theorem dX2_wrongPlace_45 : decode cX2_wrongPlace 45 = .ok (.getfield 15, 3) := by decide +kernel
theorem dX2_wrongPlace_48 : decode cX2_wrongPlace 48 = .ok (.ifCond .eq 11, 3) := by decide +kernel
theorem dX2_wrongPlace_51 : decode cX2_wrongPlace 51 = .ok (.iload_n 1, 1) := by decide +kernel
theorem dX2_wrongPlace_52 : decode cX2_wrongPlace 52 = .ok (.aload_n 0, 1) := by decide +kernel
theorem dX2_wrongPlace_53 : decode cX2_wrongPlace 53 = .ok (.getfield 15, 3) := by decide +kernel
theorem dX2_wrongPlace_56 : decode cX2_wrongPlace 56 = .ok (.if_icmp .ge 10, 3) := by decide +kernel
theorem dX2_wrongPlace_59 : decode cX2_wrongPlace 59 = .ok (.aload_n 0, 1) := by decide +kernel
theorem dX2_wrongPlace_60 : decode cX2_wrongPlace 60 = .ok (.getfield 15, 3) := by decide +kernel
theorem dX2_wrongPlace_63 : decode cX2_wrongPlace 63 = .ok (.goto 5, 3) := by decide +kernel
theorem dX2_wrongPlace_66 : decode cX2_wrongPlace 66 = .ok (.bipush (-9), 2) := by decide +kernel
theorem dX2_wrongPlace_68 : decode cX2_wrongPlace 68 = .ok (.ireturn, 1) := by decide +kernel
theorem dX2_fits_0 : decode cX2_fits 0 = .ok (.aload_n 0, 1) := by decide +kernel
theorem dX2_fits_1 : decode cX2_fits 1 = .ok (.getfield 9, 3) := by decide +kernel
theorem dX2_fits_4 : decode cX2_fits 4 = .ok (.iload_n 1, 1) := by decide +kernel
theorem dX2_fits_5 : decode cX2_fits 5 = .ok (.caload, 1) := by decide +kernel
theorem dX2_fits_6 : decode cX2_fits 6 = .ok (.invokestatic 23, 3) := by decide +kernel
theorem dX2_fits_9 : decode cX2_fits 9 = .ok (.istore_n 3, 1) := by decide +kernel
theorem dX2_fits_10 : decode cX2_fits 10 = .ok (.iload_n 2, 1) := by decide +kernel
theorem dX2_fits_11 : decode cX2_fits 11 = .ok (.iload_n 1, 1) := by decide +kernel
theorem dX2_fits_12 : decode cX2_fits 12 = .ok (.if_icmp .ne 13, 3) := by decide +kernel
theorem dX2_fits_15 : decode cX2_fits 15 = .ok (.iload_n 3, 1) := by decide +kernel
theorem dX2_fits_16 : decode cX2_fits 16 = .ok (.ifCond .le 7, 3) := by decide +kernel
theorem dX2_fits_19 : decode cX2_fits 19 = .ok (.iconst 1, 1) := by decide +kernel
theorem dX2_fits_20 : decode cX2_fits 20 = .ok (.goto 4, 3) := by decide +kernel
theorem dX2_fits_23 : decode cX2_fits 23 = .ok (.iconst 0, 1) := by decide +kernel
theorem dX2_fits_24 : decode cX2_fits 24 = .ok (.ireturn, 1) := by decide +kernel
theorem dX2_fits_25 : decode cX2_fits 25 = .ok (.iload_n 2, 1) := by decide +kernel
theorem dX2_fits_26 : decode cX2_fits 26 = .ok (.iload_n 1, 1) := by decide +kernel
theorem dX2_fits_27 : decode cX2_fits 27 = .ok (.isub, 1) := by decide +kernel
theorem dX2_fits_28 : decode cX2_fits 28 = .ok (.iload_n 3, 1) := by decide +kernel
theorem dX2_fits_29 : decode cX2_fits 29 = .ok (.if_icmp .le 20, 3) := by decide +kernel
theorem dX2_fits_32 : decode cX2_fits 32 = .ok (.aload_n 0, 1) := by decide +kernel
theorem dX2_fits_33 : decode cX2_fits 33 = .ok (.getfield 9, 3) := by decide +kernel
theorem dX2_fits_36 : decode cX2_fits 36 = .ok (.iload_n 2, 1) := by decide +kernel
theorem dX2_fits_37 : decode cX2_fits 37 = .ok (.caload, 1) := by decide +kernel
theorem dX2_fits_38 : decode cX2_fits 38 = .ok (.bipush 59, 2) := by decide +kernel
theorem dX2_fits_40 : decode cX2_fits 40 = .ok (.if_icmp .ne 7, 3) := by decide +kernel
theorem dX2_fits_43 : decode cX2_fits 43 = .ok (.iconst 1, 1) := by decide +kernel
theorem dX2_fits_44 : decode cX2_fits 44 = .ok (.goto 4, 3) := by decide +kernel
theorem dX2_fits_47 : decode cX2_fits 47 = .ok (.iconst 0, 1) := by decide +kernel
theorem dX2_fits_48 : decode cX2_fits 48 = .ok (.ireturn, 1) := by decide +kernel
theorem dX2_fits_49 : decode cX2_fits 49 = .ok (.iload_n 2, 1) := by decide +kernel
theorem dX2_fits_50 : decode cX2_fits 50 = .ok (.iload_n 1, 1) := by decide +kernel
theorem dX2_fits_51 : decode cX2_fits 51 = .ok (.iconst 1, 1) := by decide +kernel
theorem dX2_fits_52 : decode cX2_fits 52 = .ok (.iadd, 1) := by decide +kernel
theorem dX2_fits_53 : decode cX2_fits 53 = .ok (.if_icmp .ne 34, 3) := by decide +kernel
theorem dX2_fits_56 : decode cX2_fits 56 = .ok (.aload_n 0, 1) := by decide +kernel
theorem dX2_fits_57 : decode cX2_fits 57 = .ok (.getfield 9, 3) := by decide +kernel
theorem dX2_fits_60 : decode cX2_fits 60 = .ok (.iload_n 1, 1) := by decide +kernel
theorem dX2_fits_61 : decode cX2_fits 61 = .ok (.caload, 1) := by decide +kernel
theorem dX2_fits_62 : decode cX2_fits 62 = .ok (.bipush 115, 2) := by decide +kernel
theorem dX2_fits_64 : decode cX2_fits 64 = .ok (.if_icmp .ne 23, 3) := by decide +kernel
theorem dX2_fits_67 : decode cX2_fits 67 = .ok (.ldc 27, 2) := by decide +kernel
theorem dX2_fits_69 : decode cX2_fits 69 = .ok (.aload_n 0, 1) := by decide +kernel
theorem dX2_fits_70 : decode cX2_fits 70 = .ok (.getfield 9, 3) := by decide +kernel
theorem dX2_fits_73 : decode cX2_fits 73 = .ok (.iload_n 2, 1) := by decide +kernel
theorem dX2_fits_74 : decode cX2_fits 74 = .ok (.caload, 1) := by decide +kernel
theorem dX2_fits_75 : decode cX2_fits 75 = .ok (.invokevirtual 29, 3) := by decide +kernel
theorem dX2_fits_78 : decode cX2_fits 78 = .ok (.ifCond .lt 7, 3) := by decide +kernel
theorem dX2_fits_81 : decode cX2_fits 81 = .ok (.iconst 1, 1) := by decide +kernel
theorem dX2_fits_82 : decode cX2_fits 82 = .ok (.goto 4, 3) := by decide +kernel
theorem dX2_fits_85 : decode cX2_fits 85 = .ok (.iconst 0, 1) := by decide +kernel
theorem dX2_fits_86 : decode cX2_fits 86 = .ok (.ireturn, 1) := by decide +kernel
theorem dX2_fits_87 : decode cX2_fits 87 = .ok (.aload_n 0, 1) := by decide +kernel
theorem dX2_fits_88 : decode cX2_fits 88 = .ok (.getfield 9, 3) := by decide +kernel
theorem dX2_fits_91 : decode cX2_fits 91 = .ok (.iload_n 2, 1) := by decide +kernel
theorem dX2_fits_92 : decode cX2_fits 92 = .ok (.caload, 1) := by decide +kernel
theorem dX2_fits_93 : decode cX2_fits 93 = .ok (.bipush 48, 2) := by decide +kernel
theorem dX2_fits_95 : decode cX2_fits 95 = .ok (.if_icmp .lt 18, 3) := by decide +kernel
theorem dX2_fits_98 : decode cX2_fits 98 = .ok (.aload_n 0, 1) := by decide +kernel
theorem dX2_fits_99 : decode cX2_fits 99 = .ok (.getfield 9, 3) := by decide +kernel
theorem dX2_fits_102 : decode cX2_fits 102 = .ok (.iload_n 2, 1) := by decide +kernel
theorem dX2_fits_103 : decode cX2_fits 103 = .ok (.caload, 1) := by decide +kernel
theorem dX2_fits_104 : decode cX2_fits 104 = .ok (.bipush 57, 2) := by decide +kernel
theorem dX2_fits_106 : decode cX2_fits 106 = .ok (.if_icmp .gt 7, 3) := by decide +kernel
theorem dX2_fits_109 : decode cX2_fits 109 = .ok (.iconst 1, 1) := by decide +kernel
theorem dX2_fits_110 : decode cX2_fits 110 = .ok (.goto 4, 3) := by decide +kernel
theorem dX2_fits_113 : decode cX2_fits 113 = .ok (.iconst 0, 1) := by decide +kernel
theorem dX2_fits_114 : decode cX2_fits 114 = .ok (.ireturn, 1) := by decide +kernel
theorem dX2_signsBehind_0 : decode cX2_signsBehind 0 = .ok (.iload_n 0, 1) := by decide +kernel
theorem dX2_signsBehind_1 : decode cX2_signsBehind 1 = .ok (.tableswitch 105 99 119 #[99, 99, 105, 103, 105, 105, 105, 105, 105, 105, 105, 105, 101, 105, 105, 99, 99, 105, 105, 105, 99], 99) := by decide +kernel
theorem dX2_signsBehind_100 : decode cX2_signsBehind 100 = .ok (.iconst 2, 1) := by decide +kernel
theorem dX2_signsBehind_101 : decode cX2_signsBehind 101 = .ok (.ireturn, 1) := by decide +kernel
theorem dX2_signsBehind_102 : decode cX2_signsBehind 102 = .ok (.iconst 1, 1) := by decide +kernel
theorem dX2_signsBehind_103 : decode cX2_signsBehind 103 = .ok (.ireturn, 1) := by decide +kernel
theorem dX2_signsBehind_104 : decode cX2_signsBehind 104 = .ok (.iconst 3, 1) := by decide +kernel
theorem dX2_signsBehind_105 : decode cX2_signsBehind 105 = .ok (.ireturn, 1) := by decide +kernel
theorem dX2_signsBehind_106 : decode cX2_signsBehind 106 = .ok (.iconst 0, 1) := by decide +kernel
theorem dX2_signsBehind_107 : decode cX2_signsBehind 107 = .ok (.ireturn, 1) := by decide +kernel
theorem dX2_lengthAt_0 : decode cX2_lengthAt 0 = .ok (.aload_n 0, 1) := by decide +kernel
theorem dX2_lengthAt_1 : decode cX2_lengthAt 1 = .ok (.getfield 9, 3) := by decide +kernel
theorem dX2_lengthAt_4 : decode cX2_lengthAt 4 = .ok (.iload_n 1, 1) := by decide +kernel
theorem dX2_lengthAt_5 : decode cX2_lengthAt 5 = .ok (.caload, 1) := by decide +kernel
theorem dX2_lengthAt_6 : decode cX2_lengthAt 6 = .ok (.invokestatic 23, 3) := by decide +kernel
theorem dX2_lengthAt_9 : decode cX2_lengthAt 9 = .ok (.iconst 2, 1) := by decide +kernel
theorem dX2_lengthAt_10 : decode cX2_lengthAt 10 = .ok (.iadd, 1) := by decide +kernel
theorem dX2_lengthAt_11 : decode cX2_lengthAt 11 = .ok (.ireturn, 1) := by decide +kernel
theorem dX2_takes_0 : decode cX2_takes 0 = .ok (.aload_n 0, 1) := by decide +kernel
theorem dX2_takes_1 : decode cX2_takes 1 = .ok (.getfield 9, 3) := by decide +kernel
theorem dX2_takes_4 : decode cX2_takes 4 = .ok (.iload_n 2, 1) := by decide +kernel
theorem dX2_takes_5 : decode cX2_takes 5 = .ok (.caload, 1) := by decide +kernel
theorem dX2_takes_6 : decode cX2_takes 6 = .ok (.istore_n 3, 1) := by decide +kernel
theorem dX2_takes_7 : decode cX2_takes 7 = .ok (.iload_n 3, 1) := by decide +kernel
theorem dX2_takes_8 : decode cX2_takes 8 = .ok (.lookupswitch 166 #[(99, 85), (102, 128), (111, 116), (114, 147), (115, 60), (119, 97)], 60) := by decide +kernel
theorem dX2_takes_68 : decode cX2_takes 68 = .ok (.aload_n 1, 1) := by decide +kernel
theorem dX2_takes_69 : decode cX2_takes 69 = .ok (.ldc 27, 2) := by decide +kernel
theorem dX2_takes_71 : decode cX2_takes 71 = .ok (.aload_n 0, 1) := by decide +kernel
theorem dX2_takes_72 : decode cX2_takes 72 = .ok (.getfield 9, 3) := by decide +kernel
theorem dX2_takes_75 : decode cX2_takes 75 = .ok (.iload_n 2, 1) := by decide +kernel
theorem dX2_takes_76 : decode cX2_takes 76 = .ok (.iconst 1, 1) := by decide +kernel
theorem dX2_takes_77 : decode cX2_takes 77 = .ok (.iadd, 1) := by decide +kernel
theorem dX2_takes_78 : decode cX2_takes 78 = .ok (.caload, 1) := by decide +kernel
theorem dX2_takes_79 : decode cX2_takes 79 = .ok (.invokevirtual 29, 3) := by decide +kernel
theorem dX2_takes_82 : decode cX2_takes 82 = .ok (.aload_n 0, 1) := by decide +kernel
theorem dX2_takes_83 : decode cX2_takes 83 = .ok (.iload_n 2, 1) := by decide +kernel
theorem dX2_takes_84 : decode cX2_takes 84 = .ok (.iconst 2, 1) := by decide +kernel
theorem dX2_takes_85 : decode cX2_takes 85 = .ok (.iadd, 1) := by decide +kernel
theorem dX2_takes_86 : decode cX2_takes 86 = .ok (.invokevirtual 34, 3) := by decide +kernel
theorem dX2_takes_89 : decode cX2_takes 89 = .ok (.invokevirtual 37, 3) := by decide +kernel
theorem dX2_takes_92 : decode cX2_takes 92 = .ok (.ireturn, 1) := by decide +kernel
theorem dX2_takes_93 : decode cX2_takes 93 = .ok (.aload_n 1, 1) := by decide +kernel
theorem dX2_takes_94 : decode cX2_takes 94 = .ok (.aload_n 0, 1) := by decide +kernel
theorem dX2_takes_95 : decode cX2_takes 95 = .ok (.iload_n 2, 1) := by decide +kernel
theorem dX2_takes_96 : decode cX2_takes 96 = .ok (.iconst 1, 1) := by decide +kernel
theorem dX2_takes_97 : decode cX2_takes 97 = .ok (.iadd, 1) := by decide +kernel
theorem dX2_takes_98 : decode cX2_takes 98 = .ok (.invokevirtual 42, 3) := by decide +kernel
theorem dX2_takes_101 : decode cX2_takes 101 = .ok (.invokevirtual 45, 3) := by decide +kernel
theorem dX2_takes_104 : decode cX2_takes 104 = .ok (.ireturn, 1) := by decide +kernel
theorem dX2_takes_105 : decode cX2_takes 105 = .ok (.aload_n 1, 1) := by decide +kernel
theorem dX2_takes_106 : decode cX2_takes 106 = .ok (.aload_n 0, 1) := by decide +kernel
theorem dX2_takes_107 : decode cX2_takes 107 = .ok (.iload_n 2, 1) := by decide +kernel
theorem dX2_takes_108 : decode cX2_takes 108 = .ok (.iconst 1, 1) := by decide +kernel
theorem dX2_takes_109 : decode cX2_takes 109 = .ok (.iadd, 1) := by decide +kernel
theorem dX2_takes_110 : decode cX2_takes 110 = .ok (.invokevirtual 34, 3) := by decide +kernel
theorem dX2_takes_113 : decode cX2_takes 113 = .ok (.aload_n 0, 1) := by decide +kernel
theorem dX2_takes_114 : decode cX2_takes 114 = .ok (.iload_n 2, 1) := by decide +kernel
theorem dX2_takes_115 : decode cX2_takes 115 = .ok (.iconst 2, 1) := by decide +kernel
theorem dX2_takes_116 : decode cX2_takes 116 = .ok (.iadd, 1) := by decide +kernel
theorem dX2_takes_117 : decode cX2_takes 117 = .ok (.invokevirtual 34, 3) := by decide +kernel
theorem dX2_takes_120 : decode cX2_takes 120 = .ok (.invokestatic 49, 3) := by decide +kernel
theorem dX2_takes_123 : decode cX2_takes 123 = .ok (.ireturn, 1) := by decide +kernel
theorem dX2_takes_124 : decode cX2_takes 124 = .ok (.aload_n 1, 1) := by decide +kernel
theorem dX2_takes_125 : decode cX2_takes 125 = .ok (.aload_n 0, 1) := by decide +kernel
theorem dX2_takes_126 : decode cX2_takes 126 = .ok (.iload_n 2, 1) := by decide +kernel
theorem dX2_takes_127 : decode cX2_takes 127 = .ok (.iconst 1, 1) := by decide +kernel
theorem dX2_takes_128 : decode cX2_takes 128 = .ok (.iadd, 1) := by decide +kernel
theorem dX2_takes_129 : decode cX2_takes 129 = .ok (.invokevirtual 34, 3) := by decide +kernel
theorem dX2_takes_132 : decode cX2_takes 132 = .ok (.invokestatic 53, 3) := by decide +kernel
theorem dX2_takes_135 : decode cX2_takes 135 = .ok (.ireturn, 1) := by decide +kernel
theorem dX2_takes_136 : decode cX2_takes 136 = .ok (.aload_n 1, 1) := by decide +kernel
theorem dX2_takes_137 : decode cX2_takes 137 = .ok (.aload_n 0, 1) := by decide +kernel
theorem dX2_takes_138 : decode cX2_takes 138 = .ok (.iload_n 2, 1) := by decide +kernel
theorem dX2_takes_139 : decode cX2_takes 139 = .ok (.iconst 1, 1) := by decide +kernel
theorem dX2_takes_140 : decode cX2_takes 140 = .ok (.iadd, 1) := by decide +kernel
theorem dX2_takes_141 : decode cX2_takes 141 = .ok (.invokevirtual 34, 3) := by decide +kernel
theorem dX2_takes_144 : decode cX2_takes 144 = .ok (.aload_n 0, 1) := by decide +kernel
theorem dX2_takes_145 : decode cX2_takes 145 = .ok (.iload_n 2, 1) := by decide +kernel
theorem dX2_takes_146 : decode cX2_takes 146 = .ok (.iconst 2, 1) := by decide +kernel
theorem dX2_takes_147 : decode cX2_takes 147 = .ok (.iadd, 1) := by decide +kernel
theorem dX2_takes_148 : decode cX2_takes 148 = .ok (.invokevirtual 42, 3) := by decide +kernel
theorem dX2_takes_151 : decode cX2_takes 151 = .ok (.invokestatic 57, 3) := by decide +kernel
theorem dX2_takes_154 : decode cX2_takes 154 = .ok (.ireturn, 1) := by decide +kernel
theorem dX2_takes_155 : decode cX2_takes 155 = .ok (.aload_n 1, 1) := by decide +kernel
theorem dX2_takes_156 : decode cX2_takes 156 = .ok (.aload_n 0, 1) := by decide +kernel
theorem dX2_takes_157 : decode cX2_takes 157 = .ok (.iload_n 2, 1) := by decide +kernel
theorem dX2_takes_158 : decode cX2_takes 158 = .ok (.iconst 1, 1) := by decide +kernel
theorem dX2_takes_159 : decode cX2_takes 159 = .ok (.iadd, 1) := by decide +kernel
theorem dX2_takes_160 : decode cX2_takes 160 = .ok (.invokevirtual 34, 3) := by decide +kernel
theorem dX2_takes_163 : decode cX2_takes 163 = .ok (.aload_n 0, 1) := by decide +kernel
theorem dX2_takes_164 : decode cX2_takes 164 = .ok (.iload_n 2, 1) := by decide +kernel
theorem dX2_takes_165 : decode cX2_takes 165 = .ok (.iconst 2, 1) := by decide +kernel
theorem dX2_takes_166 : decode cX2_takes 166 = .ok (.iadd, 1) := by decide +kernel
theorem dX2_takes_167 : decode cX2_takes 167 = .ok (.invokevirtual 34, 3) := by decide +kernel
theorem dX2_takes_170 : decode cX2_takes 170 = .ok (.invokestatic 60, 3) := by decide +kernel
theorem dX2_takes_173 : decode cX2_takes 173 = .ok (.ireturn, 1) := by decide +kernel
theorem dX2_takes_174 : decode cX2_takes 174 = .ok (.aload_n 0, 1) := by decide +kernel
theorem dX2_takes_175 : decode cX2_takes 175 = .ok (.iload_n 2, 1) := by decide +kernel
theorem dX2_takes_176 : decode cX2_takes 176 = .ok (.iconst 1, 1) := by decide +kernel
theorem dX2_takes_177 : decode cX2_takes 177 = .ok (.iadd, 1) := by decide +kernel
theorem dX2_takes_178 : decode cX2_takes 178 = .ok (.invokevirtual 42, 3) := by decide +kernel
theorem dX2_takes_181 : decode cX2_takes 181 = .ok (.istore 4, 2) := by decide +kernel
theorem dX2_takes_183 : decode cX2_takes 183 = .ok (.iload 4, 2) := by decide +kernel
theorem dX2_takes_185 : decode cX2_takes 185 = .ok (.iconst 1, 1) := by decide +kernel
theorem dX2_takes_186 : decode cX2_takes 186 = .ok (.if_icmp .lt 27, 3) := by decide +kernel
theorem dX2_takes_189 : decode cX2_takes 189 = .ok (.iload 4, 2) := by decide +kernel
theorem dX2_takes_191 : decode cX2_takes 191 = .ok (.bipush 60, 2) := by decide +kernel
theorem dX2_takes_193 : decode cX2_takes 193 = .ok (.if_icmp .gt 20, 3) := by decide +kernel
theorem dX2_takes_196 : decode cX2_takes 196 = .ok (.aload_n 1, 1) := by decide +kernel
theorem dX2_takes_197 : decode cX2_takes 197 = .ok (.getfield 63, 3) := by decide +kernel
theorem dX2_takes_200 : decode cX2_takes 200 = .ok (.iload 4, 2) := by decide +kernel
theorem dX2_takes_202 : decode cX2_takes 202 = .ok (.iadd, 1) := by decide +kernel
theorem dX2_takes_203 : decode cX2_takes 203 = .ok (.sipush 999, 3) := by decide +kernel
theorem dX2_takes_206 : decode cX2_takes 206 = .ok (.if_icmp .gt 7, 3) := by decide +kernel
theorem dX2_takes_209 : decode cX2_takes 209 = .ok (.iconst 1, 1) := by decide +kernel
theorem dX2_takes_210 : decode cX2_takes 210 = .ok (.goto 4, 3) := by decide +kernel
theorem dX2_takes_213 : decode cX2_takes 213 = .ok (.iconst 0, 1) := by decide +kernel
theorem dX2_takes_214 : decode cX2_takes 214 = .ok (.istore 5, 2) := by decide +kernel
theorem dX2_takes_216 : decode cX2_takes 216 = .ok (.aload_n 1, 1) := by decide +kernel
theorem dX2_takes_217 : decode cX2_takes 217 = .ok (.iload 5, 2) := by decide +kernel
theorem dX2_takes_219 : decode cX2_takes 219 = .ok (.ifCond .eq 8, 3) := by decide +kernel
theorem dX2_takes_222 : decode cX2_takes 222 = .ok (.iload 4, 2) := by decide +kernel
theorem dX2_takes_224 : decode cX2_takes 224 = .ok (.goto 4, 3) := by decide +kernel
theorem dX2_takes_227 : decode cX2_takes 227 = .ok (.iconst 0, 1) := by decide +kernel
theorem dX2_takes_228 : decode cX2_takes 228 = .ok (.invokevirtual 66, 3) := by decide +kernel
theorem dX2_takes_231 : decode cX2_takes 231 = .ok (.iload 5, 2) := by decide +kernel
theorem dX2_takes_233 : decode cX2_takes 233 = .ok (.ireturn, 1) := by decide +kernel
theorem dX2_digit_0 : decode cX2_digit 0 = .ok (.aload_n 0, 1) := by decide +kernel
theorem dX2_digit_1 : decode cX2_digit 1 = .ok (.getfield 9, 3) := by decide +kernel
theorem dX2_digit_4 : decode cX2_digit 4 = .ok (.iload_n 1, 1) := by decide +kernel
theorem dX2_digit_5 : decode cX2_digit 5 = .ok (.caload, 1) := by decide +kernel
theorem dX2_digit_6 : decode cX2_digit 6 = .ok (.bipush 48, 2) := by decide +kernel
theorem dX2_digit_8 : decode cX2_digit 8 = .ok (.isub, 1) := by decide +kernel
theorem dX2_digit_9 : decode cX2_digit 9 = .ok (.ireturn, 1) := by decide +kernel
theorem dX2_number_0 : decode cX2_number 0 = .ok (.bipush 10, 2) := by decide +kernel
theorem dX2_number_2 : decode cX2_number 2 = .ok (.aload_n 0, 1) := by decide +kernel
theorem dX2_number_3 : decode cX2_number 3 = .ok (.iload_n 1, 1) := by decide +kernel
theorem dX2_number_4 : decode cX2_number 4 = .ok (.invokevirtual 34, 3) := by decide +kernel
theorem dX2_number_7 : decode cX2_number 7 = .ok (.imul, 1) := by decide +kernel
theorem dX2_number_8 : decode cX2_number 8 = .ok (.aload_n 0, 1) := by decide +kernel
theorem dX2_number_9 : decode cX2_number 9 = .ok (.iload_n 1, 1) := by decide +kernel
theorem dX2_number_10 : decode cX2_number 10 = .ok (.iconst 1, 1) := by decide +kernel
theorem dX2_number_11 : decode cX2_number 11 = .ok (.iadd, 1) := by decide +kernel
theorem dX2_number_12 : decode cX2_number 12 = .ok (.invokevirtual 34, 3) := by decide +kernel
theorem dX2_number_15 : decode cX2_number 15 = .ok (.iadd, 1) := by decide +kernel
theorem dX2_number_16 : decode cX2_number 16 = .ok (.ireturn, 1) := by decide +kernel
theorem dX2_takesWearing_0 : decode cX2_takesWearing 0 = .ok (.iload_n 1, 1) := by decide +kernel
theorem dX2_takesWearing_1 : decode cX2_takesWearing 1 = .ok (.aload_n 0, 1) := by decide +kernel
theorem dX2_takesWearing_2 : decode cX2_takesWearing 2 = .ok (.getfield 70, 3) := by decide +kernel
theorem dX2_takesWearing_5 : decode cX2_takesWearing 5 = .ok (.if_icmp .ge 11, 3) := by decide +kernel
theorem dX2_takesWearing_8 : decode cX2_takesWearing 8 = .ok (.iload_n 2, 1) := by decide +kernel
theorem dX2_takesWearing_9 : decode cX2_takesWearing 9 = .ok (.aload_n 0, 1) := by decide +kernel
theorem dX2_takesWearing_10 : decode cX2_takesWearing 10 = .ok (.getfield 73, 3) := by decide +kernel
theorem dX2_takesWearing_13 : decode cX2_takesWearing 13 = .ok (.if_icmp .lt 5, 3) := by decide +kernel
theorem dX2_takesWearing_16 : decode cX2_takesWearing 16 = .ok (.iconst 0, 1) := by decide +kernel
theorem dX2_takesWearing_17 : decode cX2_takesWearing 17 = .ok (.ireturn, 1) := by decide +kernel
theorem dX2_takesWearing_18 : decode cX2_takesWearing 18 = .ok (.aload_n 0, 1) := by decide +kernel
theorem dX2_takesWearing_19 : decode cX2_takesWearing 19 = .ok (.iload_n 1, 1) := by decide +kernel
theorem dX2_takesWearing_20 : decode cX2_takesWearing 20 = .ok (.iload_n 2, 1) := by decide +kernel
theorem dX2_takesWearing_21 : decode cX2_takesWearing 21 = .ok (.invokevirtual 76, 3) := by decide +kernel
theorem dX2_takesWearing_24 : decode cX2_takesWearing 24 = .ok (.iconst 1, 1) := by decide +kernel
theorem dX2_takesWearing_25 : decode cX2_takesWearing 25 = .ok (.ireturn, 1) := by decide +kernel
theorem dX2_takesUndressing_0 : decode cX2_takesUndressing 0 = .ok (.iload_n 1, 1) := by decide +kernel
theorem dX2_takesUndressing_1 : decode cX2_takesUndressing 1 = .ok (.aload_n 0, 1) := by decide +kernel
theorem dX2_takesUndressing_2 : decode cX2_takesUndressing 2 = .ok (.getfield 70, 3) := by decide +kernel
theorem dX2_takesUndressing_5 : decode cX2_takesUndressing 5 = .ok (.if_icmp .lt 5, 3) := by decide +kernel
theorem dX2_takesUndressing_8 : decode cX2_takesUndressing 8 = .ok (.iconst 0, 1) := by decide +kernel
theorem dX2_takesUndressing_9 : decode cX2_takesUndressing 9 = .ok (.ireturn, 1) := by decide +kernel
theorem dX2_takesUndressing_10 : decode cX2_takesUndressing 10 = .ok (.aload_n 0, 1) := by decide +kernel
theorem dX2_takesUndressing_11 : decode cX2_takesUndressing 11 = .ok (.getfield 80, 3) := by decide +kernel
theorem dX2_takesUndressing_14 : decode cX2_takesUndressing 14 = .ok (.iload_n 1, 1) := by decide +kernel
theorem dX2_takesUndressing_15 : decode cX2_takesUndressing 15 = .ok (.bipush (-9), 2) := by decide +kernel
theorem dX2_takesUndressing_17 : decode cX2_takesUndressing 17 = .ok (.iastore, 1) := by decide +kernel
theorem dX2_takesUndressing_18 : decode cX2_takesUndressing 18 = .ok (.iconst 1, 1) := by decide +kernel
theorem dX2_takesUndressing_19 : decode cX2_takesUndressing 19 = .ok (.ireturn, 1) := by decide +kernel
theorem dX2_takesFear_0 : decode cX2_takesFear 0 = .ok (.iload_n 1, 1) := by decide +kernel
theorem dX2_takesFear_1 : decode cX2_takesFear 1 = .ok (.aload_n 0, 1) := by decide +kernel
theorem dX2_takesFear_2 : decode cX2_takesFear 2 = .ok (.getfield 70, 3) := by decide +kernel
theorem dX2_takesFear_5 : decode cX2_takesFear 5 = .ok (.if_icmp .ge 9, 3) := by decide +kernel
theorem dX2_takesFear_8 : decode cX2_takesFear 8 = .ok (.iload_n 2, 1) := by decide +kernel
theorem dX2_takesFear_9 : decode cX2_takesFear 9 = .ok (.bipush 20, 2) := by decide +kernel
theorem dX2_takesFear_11 : decode cX2_takesFear 11 = .ok (.if_icmp .le 5, 3) := by decide +kernel
theorem dX2_takesFear_14 : decode cX2_takesFear 14 = .ok (.iconst 0, 1) := by decide +kernel
theorem dX2_takesFear_15 : decode cX2_takesFear 15 = .ok (.ireturn, 1) := by decide +kernel
theorem dX2_takesFear_16 : decode cX2_takesFear 16 = .ok (.aload_n 0, 1) := by decide +kernel
theorem dX2_takesFear_17 : decode cX2_takesFear 17 = .ok (.getfield 84, 3) := by decide +kernel
theorem dX2_takesFear_20 : decode cX2_takesFear 20 = .ok (.iload_n 1, 1) := by decide +kernel
theorem dX2_takesFear_21 : decode cX2_takesFear 21 = .ok (.iload_n 2, 1) := by decide +kernel
theorem dX2_takesFear_22 : decode cX2_takesFear 22 = .ok (.iastore, 1) := by decide +kernel
theorem dX2_takesFear_23 : decode cX2_takesFear 23 = .ok (.iconst 1, 1) := by decide +kernel
theorem dX2_takesFear_24 : decode cX2_takesFear 24 = .ok (.ireturn, 1) := by decide +kernel
theorem dX2_takesRust_0 : decode cX2_takesRust 0 = .ok (.iload_n 1, 1) := by decide +kernel
theorem dX2_takesRust_1 : decode cX2_takesRust 1 = .ok (.aload_n 0, 1) := by decide +kernel
theorem dX2_takesRust_2 : decode cX2_takesRust 2 = .ok (.getfield 73, 3) := by decide +kernel
theorem dX2_takesRust_5 : decode cX2_takesRust 5 = .ok (.if_icmp .lt 5, 3) := by decide +kernel
theorem dX2_takesRust_8 : decode cX2_takesRust 8 = .ok (.iconst 0, 1) := by decide +kernel
theorem dX2_takesRust_9 : decode cX2_takesRust 9 = .ok (.ireturn, 1) := by decide +kernel
theorem dX2_takesRust_10 : decode cX2_takesRust 10 = .ok (.aload_n 0, 1) := by decide +kernel
theorem dX2_takesRust_11 : decode cX2_takesRust 11 = .ok (.getfield 87, 3) := by decide +kernel
theorem dX2_takesRust_14 : decode cX2_takesRust 14 = .ok (.iload_n 1, 1) := by decide +kernel
theorem dX2_takesRust_15 : decode cX2_takesRust 15 = .ok (.iload_n 2, 1) := by decide +kernel
theorem dX2_takesRust_16 : decode cX2_takesRust 16 = .ok (.iastore, 1) := by decide +kernel
theorem dX2_takesRust_17 : decode cX2_takesRust 17 = .ok (.iconst 1, 1) := by decide +kernel
theorem dX2_takesRust_18 : decode cX2_takesRust 18 = .ok (.ireturn, 1) := by decide +kernel
theorem dJ11_isValidCodePoint_9a6ad_0 : decode cJ11_isValidCodePoint_9a6ad 0 = .ok (.iload_n 0, 1) := by decide +kernel
theorem dJ11_isValidCodePoint_9a6ad_1 : decode cJ11_isValidCodePoint_9a6ad 1 = .ok (.bipush 16, 2) := by decide +kernel
theorem dJ11_isValidCodePoint_9a6ad_3 : decode cJ11_isValidCodePoint_9a6ad 3 = .ok (.iushr, 1) := by decide +kernel
theorem dJ11_isValidCodePoint_9a6ad_4 : decode cJ11_isValidCodePoint_9a6ad 4 = .ok (.istore_n 1, 1) := by decide +kernel
theorem dJ11_isValidCodePoint_9a6ad_5 : decode cJ11_isValidCodePoint_9a6ad 5 = .ok (.iload_n 1, 1) := by decide +kernel
theorem dJ11_isValidCodePoint_9a6ad_6 : decode cJ11_isValidCodePoint_9a6ad 6 = .ok (.bipush 17, 2) := by decide +kernel
theorem dJ11_isValidCodePoint_9a6ad_8 : decode cJ11_isValidCodePoint_9a6ad 8 = .ok (.if_icmp .ge 7, 3) := by decide +kernel
theorem dJ11_isValidCodePoint_9a6ad_11 : decode cJ11_isValidCodePoint_9a6ad 11 = .ok (.iconst 1, 1) := by decide +kernel
theorem dJ11_isValidCodePoint_9a6ad_12 : decode cJ11_isValidCodePoint_9a6ad 12 = .ok (.goto 4, 3) := by decide +kernel
theorem dJ11_isValidCodePoint_9a6ad_15 : decode cJ11_isValidCodePoint_9a6ad 15 = .ok (.iconst 0, 1) := by decide +kernel
theorem dJ11_isValidCodePoint_9a6ad_16 : decode cJ11_isValidCodePoint_9a6ad 16 = .ok (.ireturn, 1) := by decide +kernel
theorem dJ11_highSurrogate_5068e_0 : decode cJ11_highSurrogate_5068e 0 = .ok (.iload_n 0, 1) := by decide +kernel
theorem dJ11_highSurrogate_5068e_1 : decode cJ11_highSurrogate_5068e 1 = .ok (.bipush 10, 2) := by decide +kernel
theorem dJ11_highSurrogate_5068e_3 : decode cJ11_highSurrogate_5068e 3 = .ok (.iushr, 1) := by decide +kernel
theorem dJ11_highSurrogate_5068e_4 : decode cJ11_highSurrogate_5068e 4 = .ok (.ldc 110, 2) := by decide +kernel
theorem dJ11_highSurrogate_5068e_6 : decode cJ11_highSurrogate_5068e 6 = .ok (.iadd, 1) := by decide +kernel
theorem dJ11_highSurrogate_5068e_7 : decode cJ11_highSurrogate_5068e 7 = .ok (.i2c, 1) := by decide +kernel
theorem dJ11_highSurrogate_5068e_8 : decode cJ11_highSurrogate_5068e 8 = .ok (.ireturn, 1) := by decide +kernel
theorem dJ11_lowSurrogate_5068e_0 : decode cJ11_lowSurrogate_5068e 0 = .ok (.iload_n 0, 1) := by decide +kernel
theorem dJ11_lowSurrogate_5068e_1 : decode cJ11_lowSurrogate_5068e 1 = .ok (.sipush 1023, 3) := by decide +kernel
theorem dJ11_lowSurrogate_5068e_4 : decode cJ11_lowSurrogate_5068e 4 = .ok (.iand, 1) := by decide +kernel
theorem dJ11_lowSurrogate_5068e_5 : decode cJ11_lowSurrogate_5068e 5 = .ok (.ldc 76, 2) := by decide +kernel
theorem dJ11_lowSurrogate_5068e_7 : decode cJ11_lowSurrogate_5068e 7 = .ok (.iadd, 1) := by decide +kernel
theorem dJ11_lowSurrogate_5068e_8 : decode cJ11_lowSurrogate_5068e 8 = .ok (.i2c, 1) := by decide +kernel
theorem dJ11_lowSurrogate_5068e_9 : decode cJ11_lowSurrogate_5068e 9 = .ok (.ireturn, 1) := by decide +kernel
theorem dJ9_max_7cf53_0 : decode cJ9_max_7cf53 0 = .ok (.iload_n 0, 1) := by decide +kernel
theorem dJ9_max_7cf53_1 : decode cJ9_max_7cf53 1 = .ok (.iload_n 1, 1) := by decide +kernel
theorem dJ9_max_7cf53_2 : decode cJ9_max_7cf53 2 = .ok (.if_icmp .lt 7, 3) := by decide +kernel
theorem dJ9_max_7cf53_5 : decode cJ9_max_7cf53 5 = .ok (.iload_n 0, 1) := by decide +kernel
theorem dJ9_max_7cf53_6 : decode cJ9_max_7cf53 6 = .ok (.goto 4, 3) := by decide +kernel
theorem dJ9_max_7cf53_9 : decode cJ9_max_7cf53 9 = .ok (.iload_n 1, 1) := by decide +kernel
theorem dJ9_max_7cf53_10 : decode cJ9_max_7cf53 10 = .ok (.ireturn, 1) := by decide +kernel
theorem dJ9_min_7cf53_0 : decode cJ9_min_7cf53 0 = .ok (.iload_n 0, 1) := by decide +kernel
theorem dJ9_min_7cf53_1 : decode cJ9_min_7cf53 1 = .ok (.iload_n 1, 1) := by decide +kernel
theorem dJ9_min_7cf53_2 : decode cJ9_min_7cf53 2 = .ok (.if_icmp .gt 7, 3) := by decide +kernel
theorem dJ9_min_7cf53_5 : decode cJ9_min_7cf53 5 = .ok (.iload_n 0, 1) := by decide +kernel
theorem dJ9_min_7cf53_6 : decode cJ9_min_7cf53 6 = .ok (.goto 4, 3) := by decide +kernel
theorem dJ9_min_7cf53_9 : decode cJ9_min_7cf53 9 = .ok (.iload_n 1, 1) := by decide +kernel
theorem dJ9_min_7cf53_10 : decode cJ9_min_7cf53 10 = .ok (.ireturn, 1) := by decide +kernel
theorem dJ0_length_8abf5_0 : decode cJ0_length_8abf5 0 = .ok (.aload_n 0, 1) := by decide +kernel
theorem dJ0_length_8abf5_1 : decode cJ0_length_8abf5 1 = .ok (.getfield 9, 3) := by decide +kernel
theorem dJ0_length_8abf5_4 : decode cJ0_length_8abf5 4 = .ok (.arraylength, 1) := by decide +kernel
theorem dJ0_length_8abf5_5 : decode cJ0_length_8abf5 5 = .ok (.aload_n 0, 1) := by decide +kernel
theorem dJ0_length_8abf5_6 : decode cJ0_length_8abf5 6 = .ok (.invokevirtual 335, 3) := by decide +kernel
theorem dJ0_length_8abf5_9 : decode cJ0_length_8abf5 9 = .ok (.ishr, 1) := by decide +kernel
theorem dJ0_length_8abf5_10 : decode cJ0_length_8abf5 10 = .ok (.ireturn, 1) := by decide +kernel
theorem dJ0_indexOf_0f7a4_0 : decode cJ0_indexOf_0f7a4 0 = .ok (.aload_n 0, 1) := by decide +kernel
theorem dJ0_indexOf_0f7a4_1 : decode cJ0_indexOf_0f7a4 1 = .ok (.iload_n 1, 1) := by decide +kernel
theorem dJ0_indexOf_0f7a4_2 : decode cJ0_indexOf_0f7a4 2 = .ok (.iconst 0, 1) := by decide +kernel
theorem dJ0_indexOf_0f7a4_3 : decode cJ0_indexOf_0f7a4 3 = .ok (.invokevirtual 633, 3) := by decide +kernel
theorem dJ0_indexOf_0f7a4_6 : decode cJ0_indexOf_0f7a4 6 = .ok (.ireturn, 1) := by decide +kernel
theorem dJ0_indexOf_7cf53_0 : decode cJ0_indexOf_7cf53 0 = .ok (.aload_n 0, 1) := by decide +kernel
theorem dJ0_indexOf_7cf53_1 : decode cJ0_indexOf_7cf53 1 = .ok (.invokevirtual 492, 3) := by decide +kernel
theorem dJ0_indexOf_7cf53_4 : decode cJ0_indexOf_7cf53 4 = .ok (.ifCond .eq 19, 3) := by decide +kernel
theorem dJ0_indexOf_7cf53_7 : decode cJ0_indexOf_7cf53 7 = .ok (.aload_n 0, 1) := by decide +kernel
theorem dJ0_indexOf_7cf53_8 : decode cJ0_indexOf_7cf53 8 = .ok (.getfield 9, 3) := by decide +kernel
theorem dJ0_indexOf_7cf53_11 : decode cJ0_indexOf_7cf53 11 = .ok (.iload_n 1, 1) := by decide +kernel
theorem dJ0_indexOf_7cf53_12 : decode cJ0_indexOf_7cf53 12 = .ok (.iload_n 2, 1) := by decide +kernel
theorem dJ0_indexOf_7cf53_13 : decode cJ0_indexOf_7cf53 13 = .ok (.aload_n 0, 1) := by decide +kernel
theorem dJ0_indexOf_7cf53_14 : decode cJ0_indexOf_7cf53 14 = .ok (.invokevirtual 505, 3) := by decide +kernel
theorem dJ0_indexOf_7cf53_17 : decode cJ0_indexOf_7cf53 17 = .ok (.invokestatic 637, 3) := by decide +kernel
theorem dJ0_indexOf_7cf53_20 : decode cJ0_indexOf_7cf53 20 = .ok (.goto 16, 3) := by decide +kernel
theorem dJ0_indexOf_7cf53_23 : decode cJ0_indexOf_7cf53 23 = .ok (.aload_n 0, 1) := by decide +kernel
theorem dJ0_indexOf_7cf53_24 : decode cJ0_indexOf_7cf53 24 = .ok (.getfield 9, 3) := by decide +kernel
theorem dJ0_indexOf_7cf53_27 : decode cJ0_indexOf_7cf53 27 = .ok (.iload_n 1, 1) := by decide +kernel
theorem dJ0_indexOf_7cf53_28 : decode cJ0_indexOf_7cf53 28 = .ok (.iload_n 2, 1) := by decide +kernel
theorem dJ0_indexOf_7cf53_29 : decode cJ0_indexOf_7cf53 29 = .ok (.aload_n 0, 1) := by decide +kernel
theorem dJ0_indexOf_7cf53_30 : decode cJ0_indexOf_7cf53 30 = .ok (.invokevirtual 505, 3) := by decide +kernel
theorem dJ0_indexOf_7cf53_33 : decode cJ0_indexOf_7cf53 33 = .ok (.invokestatic 640, 3) := by decide +kernel
theorem dJ0_indexOf_7cf53_36 : decode cJ0_indexOf_7cf53 36 = .ok (.ireturn, 1) := by decide +kernel
theorem dJ0_coder_7d493_0 : decode cJ0_coder_7d493 0 = .ok (.getstatic 38, 3) := by decide +kernel
theorem dJ0_coder_7d493_3 : decode cJ0_coder_7d493 3 = .ok (.ifCond .eq 10, 3) := by decide +kernel
theorem dJ0_coder_7d493_6 : decode cJ0_coder_7d493 6 = .ok (.aload_n 0, 1) := by decide +kernel
theorem dJ0_coder_7d493_7 : decode cJ0_coder_7d493 7 = .ok (.getfield 15, 3) := by decide +kernel
theorem dJ0_coder_7d493_10 : decode cJ0_coder_7d493 10 = .ok (.goto 4, 3) := by decide +kernel
theorem dJ0_coder_7d493_13 : decode cJ0_coder_7d493 13 = .ok (.iconst 1, 1) := by decide +kernel
theorem dJ0_coder_7d493_14 : decode cJ0_coder_7d493 14 = .ok (.ireturn, 1) := by decide +kernel
theorem dJ0_isLatin1_aae02_0 : decode cJ0_isLatin1_aae02 0 = .ok (.getstatic 38, 3) := by decide +kernel
theorem dJ0_isLatin1_aae02_3 : decode cJ0_isLatin1_aae02 3 = .ok (.ifCond .eq 14, 3) := by decide +kernel
theorem dJ0_isLatin1_aae02_6 : decode cJ0_isLatin1_aae02 6 = .ok (.aload_n 0, 1) := by decide +kernel
theorem dJ0_isLatin1_aae02_7 : decode cJ0_isLatin1_aae02 7 = .ok (.getfield 15, 3) := by decide +kernel
theorem dJ0_isLatin1_aae02_10 : decode cJ0_isLatin1_aae02 10 = .ok (.ifCond .ne 7, 3) := by decide +kernel
theorem dJ0_isLatin1_aae02_13 : decode cJ0_isLatin1_aae02 13 = .ok (.iconst 1, 1) := by decide +kernel
theorem dJ0_isLatin1_aae02_14 : decode cJ0_isLatin1_aae02 14 = .ok (.goto 4, 3) := by decide +kernel
theorem dJ0_isLatin1_aae02_17 : decode cJ0_isLatin1_aae02 17 = .ok (.iconst 0, 1) := by decide +kernel
theorem dJ0_isLatin1_aae02_18 : decode cJ0_isLatin1_aae02 18 = .ok (.ireturn, 1) := by decide +kernel
theorem dJ0_checkBoundsBeginEnd_23922_0 : decode cJ0_checkBoundsBeginEnd_23922 0 = .ok (.iload_n 0, 1) := by decide +kernel
theorem dJ0_checkBoundsBeginEnd_23922_1 : decode cJ0_checkBoundsBeginEnd_23922 1 = .ok (.iload_n 1, 1) := by decide +kernel
theorem dJ0_checkBoundsBeginEnd_23922_2 : decode cJ0_checkBoundsBeginEnd_23922 2 = .ok (.iload_n 2, 1) := by decide +kernel
theorem dJ0_checkBoundsBeginEnd_23922_3 : decode cJ0_checkBoundsBeginEnd_23922 3 = .ok (.getstatic 1053, 3) := by decide +kernel
theorem dJ0_checkBoundsBeginEnd_23922_6 : decode cJ0_checkBoundsBeginEnd_23922 6 = .ok (.invokestatic 1062, 3) := by decide +kernel
theorem dJ0_checkBoundsBeginEnd_23922_9 : decode cJ0_checkBoundsBeginEnd_23922 9 = .ok (.pop, 1) := by decide +kernel
theorem dJ0_checkBoundsBeginEnd_23922_10 : decode cJ0_checkBoundsBeginEnd_23922 10 = .ok (.return_, 1) := by decide +kernel
theorem dJ1_canEncode_9a6ad_0 : decode cJ1_canEncode_9a6ad 0 = .ok (.iload_n 0, 1) := by decide +kernel
theorem dJ1_canEncode_9a6ad_1 : decode cJ1_canEncode_9a6ad 1 = .ok (.ifCond .lt 14, 3) := by decide +kernel
theorem dJ1_canEncode_9a6ad_4 : decode cJ1_canEncode_9a6ad 4 = .ok (.iload_n 0, 1) := by decide +kernel
theorem dJ1_canEncode_9a6ad_5 : decode cJ1_canEncode_9a6ad 5 = .ok (.sipush 255, 3) := by decide +kernel
theorem dJ1_canEncode_9a6ad_8 : decode cJ1_canEncode_9a6ad 8 = .ok (.if_icmp .gt 7, 3) := by decide +kernel
theorem dJ1_canEncode_9a6ad_11 : decode cJ1_canEncode_9a6ad 11 = .ok (.iconst 1, 1) := by decide +kernel
theorem dJ1_canEncode_9a6ad_12 : decode cJ1_canEncode_9a6ad 12 = .ok (.goto 4, 3) := by decide +kernel
theorem dJ1_canEncode_9a6ad_15 : decode cJ1_canEncode_9a6ad 15 = .ok (.iconst 0, 1) := by decide +kernel
theorem dJ1_canEncode_9a6ad_16 : decode cJ1_canEncode_9a6ad 16 = .ok (.ireturn, 1) := by decide +kernel
theorem dJ1_indexOf_4cfef_0 : decode cJ1_indexOf_4cfef 0 = .ok (.iload_n 1, 1) := by decide +kernel
theorem dJ1_indexOf_4cfef_1 : decode cJ1_indexOf_4cfef 1 = .ok (.invokestatic 88, 3) := by decide +kernel
theorem dJ1_indexOf_4cfef_4 : decode cJ1_indexOf_4cfef 4 = .ok (.ifCond .ne 5, 3) := by decide +kernel
theorem dJ1_indexOf_4cfef_7 : decode cJ1_indexOf_4cfef 7 = .ok (.iconst (-1), 1) := by decide +kernel
theorem dJ1_indexOf_4cfef_8 : decode cJ1_indexOf_4cfef 8 = .ok (.ireturn, 1) := by decide +kernel
theorem dJ1_indexOf_4cfef_9 : decode cJ1_indexOf_4cfef 9 = .ok (.iload_n 2, 1) := by decide +kernel
theorem dJ1_indexOf_4cfef_10 : decode cJ1_indexOf_4cfef 10 = .ok (.iconst 0, 1) := by decide +kernel
theorem dJ1_indexOf_4cfef_11 : decode cJ1_indexOf_4cfef 11 = .ok (.invokestatic 92, 3) := by decide +kernel
theorem dJ1_indexOf_4cfef_14 : decode cJ1_indexOf_4cfef 14 = .ok (.istore_n 2, 1) := by decide +kernel
theorem dJ1_indexOf_4cfef_15 : decode cJ1_indexOf_4cfef 15 = .ok (.iload_n 3, 1) := by decide +kernel
theorem dJ1_indexOf_4cfef_16 : decode cJ1_indexOf_4cfef 16 = .ok (.aload_n 0, 1) := by decide +kernel
theorem dJ1_indexOf_4cfef_17 : decode cJ1_indexOf_4cfef 17 = .ok (.arraylength, 1) := by decide +kernel
theorem dJ1_indexOf_4cfef_18 : decode cJ1_indexOf_4cfef 18 = .ok (.invokestatic 38, 3) := by decide +kernel
theorem dJ1_indexOf_4cfef_21 : decode cJ1_indexOf_4cfef 21 = .ok (.istore_n 3, 1) := by decide +kernel
theorem dJ1_indexOf_4cfef_22 : decode cJ1_indexOf_4cfef 22 = .ok (.iload_n 2, 1) := by decide +kernel
theorem dJ1_indexOf_4cfef_23 : decode cJ1_indexOf_4cfef 23 = .ok (.iload_n 3, 1) := by decide +kernel
theorem dJ1_indexOf_4cfef_24 : decode cJ1_indexOf_4cfef 24 = .ok (.if_icmp .lt 5, 3) := by decide +kernel
theorem dJ1_indexOf_4cfef_27 : decode cJ1_indexOf_4cfef 27 = .ok (.iconst (-1), 1) := by decide +kernel
theorem dJ1_indexOf_4cfef_28 : decode cJ1_indexOf_4cfef 28 = .ok (.ireturn, 1) := by decide +kernel
theorem dJ1_indexOf_4cfef_29 : decode cJ1_indexOf_4cfef 29 = .ok (.aload_n 0, 1) := by decide +kernel
theorem dJ1_indexOf_4cfef_30 : decode cJ1_indexOf_4cfef 30 = .ok (.iload_n 1, 1) := by decide +kernel
theorem dJ1_indexOf_4cfef_31 : decode cJ1_indexOf_4cfef 31 = .ok (.iload_n 2, 1) := by decide +kernel
theorem dJ1_indexOf_4cfef_32 : decode cJ1_indexOf_4cfef 32 = .ok (.iload_n 3, 1) := by decide +kernel
theorem dJ1_indexOf_4cfef_33 : decode cJ1_indexOf_4cfef 33 = .ok (.invokestatic 95, 3) := by decide +kernel
theorem dJ1_indexOf_4cfef_36 : decode cJ1_indexOf_4cfef 36 = .ok (.ireturn, 1) := by decide +kernel
theorem dJ1_indexOfChar_4cfef_0 : decode cJ1_indexOfChar_4cfef 0 = .ok (.iload_n 1, 1) := by decide +kernel
theorem dJ1_indexOfChar_4cfef_1 : decode cJ1_indexOfChar_4cfef 1 = .ok (.i2b, 1) := by decide +kernel
theorem dJ1_indexOfChar_4cfef_2 : decode cJ1_indexOfChar_4cfef 2 = .ok (.istore 4, 2) := by decide +kernel
theorem dJ1_indexOfChar_4cfef_4 : decode cJ1_indexOfChar_4cfef 4 = .ok (.iload_n 2, 1) := by decide +kernel
theorem dJ1_indexOfChar_4cfef_5 : decode cJ1_indexOfChar_4cfef 5 = .ok (.istore 5, 2) := by decide +kernel
theorem dJ1_indexOfChar_4cfef_7 : decode cJ1_indexOfChar_4cfef 7 = .ok (.iload 5, 2) := by decide +kernel
theorem dJ1_indexOfChar_4cfef_9 : decode cJ1_indexOfChar_4cfef 9 = .ok (.iload_n 3, 1) := by decide +kernel
theorem dJ1_indexOfChar_4cfef_10 : decode cJ1_indexOfChar_4cfef 10 = .ok (.if_icmp .ge 21, 3) := by decide +kernel
theorem dJ1_indexOfChar_4cfef_13 : decode cJ1_indexOfChar_4cfef 13 = .ok (.aload_n 0, 1) := by decide +kernel
theorem dJ1_indexOfChar_4cfef_14 : decode cJ1_indexOfChar_4cfef 14 = .ok (.iload 5, 2) := by decide +kernel
theorem dJ1_indexOfChar_4cfef_16 : decode cJ1_indexOfChar_4cfef 16 = .ok (.baload, 1) := by decide +kernel
theorem dJ1_indexOfChar_4cfef_17 : decode cJ1_indexOfChar_4cfef 17 = .ok (.iload 4, 2) := by decide +kernel
theorem dJ1_indexOfChar_4cfef_19 : decode cJ1_indexOfChar_4cfef 19 = .ok (.if_icmp .ne 6, 3) := by decide +kernel
theorem dJ1_indexOfChar_4cfef_22 : decode cJ1_indexOfChar_4cfef 22 = .ok (.iload 5, 2) := by decide +kernel
theorem dJ1_indexOfChar_4cfef_24 : decode cJ1_indexOfChar_4cfef 24 = .ok (.ireturn, 1) := by decide +kernel
theorem dJ1_indexOfChar_4cfef_25 : decode cJ1_indexOfChar_4cfef 25 = .ok (.iinc 5 1, 3) := by decide +kernel
theorem dJ1_indexOfChar_4cfef_28 : decode cJ1_indexOfChar_4cfef 28 = .ok (.goto (-21), 3) := by decide +kernel
theorem dJ1_indexOfChar_4cfef_31 : decode cJ1_indexOfChar_4cfef 31 = .ok (.iconst (-1), 1) := by decide +kernel
theorem dJ1_indexOfChar_4cfef_32 : decode cJ1_indexOfChar_4cfef 32 = .ok (.ireturn, 1) := by decide +kernel
theorem dJ2_getChar_3b067_0 : decode cJ2_getChar_3b067 0 = .ok (.getstatic 44, 3) := by decide +kernel
theorem dJ2_getChar_3b067_3 : decode cJ2_getChar_3b067 3 = .ok (.ifCond .ne 25, 3) := by decide +kernel
theorem dJ2_getChar_3b067_6 : decode cJ2_getChar_3b067 6 = .ok (.iload_n 1, 1) := by decide +kernel
theorem dJ2_getChar_3b067_7 : decode cJ2_getChar_3b067 7 = .ok (.ifCond .lt 11, 3) := by decide +kernel
theorem dJ2_getChar_3b067_10 : decode cJ2_getChar_3b067 10 = .ok (.iload_n 1, 1) := by decide +kernel
theorem dJ2_getChar_3b067_11 : decode cJ2_getChar_3b067 11 = .ok (.aload_n 0, 1) := by decide +kernel
theorem dJ2_getChar_3b067_12 : decode cJ2_getChar_3b067 12 = .ok (.invokestatic 48, 3) := by decide +kernel
theorem dJ2_getChar_3b067_15 : decode cJ2_getChar_3b067 15 = .ok (.if_icmp .lt 13, 3) := by decide +kernel
theorem dJ2_getChar_3b067_18 : decode cJ2_getChar_3b067 18 = .ok (.new 52, 3) := by decide +kernel
theorem dJ2_getChar_3b067_21 : decode cJ2_getChar_3b067 21 = .ok (.dup, 1) := by decide +kernel
theorem dJ2_getChar_3b067_22 : decode cJ2_getChar_3b067 22 = .ok (.ldc 54, 2) := by decide +kernel
theorem dJ2_getChar_3b067_24 : decode cJ2_getChar_3b067 24 = .ok (.invokespecial 56, 3) := by decide +kernel
theorem dJ2_getChar_3b067_27 : decode cJ2_getChar_3b067 27 = .ok (.athrow, 1) := by decide +kernel
theorem dJ2_getChar_3b067_28 : decode cJ2_getChar_3b067 28 = .ok (.iload_n 1, 1) := by decide +kernel
theorem dJ2_getChar_3b067_29 : decode cJ2_getChar_3b067 29 = .ok (.iconst 1, 1) := by decide +kernel
theorem dJ2_getChar_3b067_30 : decode cJ2_getChar_3b067 30 = .ok (.ishl, 1) := by decide +kernel
theorem dJ2_getChar_3b067_31 : decode cJ2_getChar_3b067 31 = .ok (.istore_n 1, 1) := by decide +kernel
theorem dJ2_getChar_3b067_32 : decode cJ2_getChar_3b067 32 = .ok (.aload_n 0, 1) := by decide +kernel
theorem dJ2_getChar_3b067_33 : decode cJ2_getChar_3b067 33 = .ok (.iload_n 1, 1) := by decide +kernel
theorem dJ2_getChar_3b067_34 : decode cJ2_getChar_3b067 34 = .ok (.iinc 1 1, 3) := by decide +kernel
theorem dJ2_getChar_3b067_37 : decode cJ2_getChar_3b067 37 = .ok (.baload, 1) := by decide +kernel
theorem dJ2_getChar_3b067_38 : decode cJ2_getChar_3b067 38 = .ok (.sipush 255, 3) := by decide +kernel
theorem dJ2_getChar_3b067_41 : decode cJ2_getChar_3b067 41 = .ok (.iand, 1) := by decide +kernel
theorem dJ2_getChar_3b067_42 : decode cJ2_getChar_3b067 42 = .ok (.getstatic 59, 3) := by decide +kernel
theorem dJ2_getChar_3b067_45 : decode cJ2_getChar_3b067 45 = .ok (.ishl, 1) := by decide +kernel
theorem dJ2_getChar_3b067_46 : decode cJ2_getChar_3b067 46 = .ok (.aload_n 0, 1) := by decide +kernel
theorem dJ2_getChar_3b067_47 : decode cJ2_getChar_3b067 47 = .ok (.iload_n 1, 1) := by decide +kernel
theorem dJ2_getChar_3b067_48 : decode cJ2_getChar_3b067 48 = .ok (.baload, 1) := by decide +kernel
theorem dJ2_getChar_3b067_49 : decode cJ2_getChar_3b067 49 = .ok (.sipush 255, 3) := by decide +kernel
theorem dJ2_getChar_3b067_52 : decode cJ2_getChar_3b067 52 = .ok (.iand, 1) := by decide +kernel
theorem dJ2_getChar_3b067_53 : decode cJ2_getChar_3b067 53 = .ok (.getstatic 63, 3) := by decide +kernel
theorem dJ2_getChar_3b067_56 : decode cJ2_getChar_3b067 56 = .ok (.ishl, 1) := by decide +kernel
theorem dJ2_getChar_3b067_57 : decode cJ2_getChar_3b067 57 = .ok (.ior, 1) := by decide +kernel
theorem dJ2_getChar_3b067_58 : decode cJ2_getChar_3b067 58 = .ok (.i2c, 1) := by decide +kernel
theorem dJ2_getChar_3b067_59 : decode cJ2_getChar_3b067 59 = .ok (.ireturn, 1) := by decide +kernel
theorem dJ2_length_9d52b_0 : decode cJ2_length_9d52b 0 = .ok (.aload_n 0, 1) := by decide +kernel
theorem dJ2_length_9d52b_1 : decode cJ2_length_9d52b 1 = .ok (.arraylength, 1) := by decide +kernel
theorem dJ2_length_9d52b_2 : decode cJ2_length_9d52b 2 = .ok (.iconst 1, 1) := by decide +kernel
theorem dJ2_length_9d52b_3 : decode cJ2_length_9d52b 3 = .ok (.ishr, 1) := by decide +kernel
theorem dJ2_length_9d52b_4 : decode cJ2_length_9d52b 4 = .ok (.ireturn, 1) := by decide +kernel
theorem dJ2_indexOf_4cfef_0 : decode cJ2_indexOf_4cfef 0 = .ok (.iload_n 2, 1) := by decide +kernel
theorem dJ2_indexOf_4cfef_1 : decode cJ2_indexOf_4cfef 1 = .ok (.iconst 0, 1) := by decide +kernel
theorem dJ2_indexOf_4cfef_2 : decode cJ2_indexOf_4cfef 2 = .ok (.invokestatic 224, 3) := by decide +kernel
theorem dJ2_indexOf_4cfef_5 : decode cJ2_indexOf_4cfef 5 = .ok (.istore_n 2, 1) := by decide +kernel
theorem dJ2_indexOf_4cfef_6 : decode cJ2_indexOf_4cfef 6 = .ok (.iload_n 3, 1) := by decide +kernel
theorem dJ2_indexOf_4cfef_7 : decode cJ2_indexOf_4cfef 7 = .ok (.aload_n 0, 1) := by decide +kernel
theorem dJ2_indexOf_4cfef_8 : decode cJ2_indexOf_4cfef 8 = .ok (.arraylength, 1) := by decide +kernel
theorem dJ2_indexOf_4cfef_9 : decode cJ2_indexOf_4cfef 9 = .ok (.iconst 1, 1) := by decide +kernel
theorem dJ2_indexOf_4cfef_10 : decode cJ2_indexOf_4cfef 10 = .ok (.ishr, 1) := by decide +kernel
theorem dJ2_indexOf_4cfef_11 : decode cJ2_indexOf_4cfef 11 = .ok (.invokestatic 183, 3) := by decide +kernel
theorem dJ2_indexOf_4cfef_14 : decode cJ2_indexOf_4cfef 14 = .ok (.istore_n 3, 1) := by decide +kernel
theorem dJ2_indexOf_4cfef_15 : decode cJ2_indexOf_4cfef 15 = .ok (.iload_n 2, 1) := by decide +kernel
theorem dJ2_indexOf_4cfef_16 : decode cJ2_indexOf_4cfef 16 = .ok (.iload_n 3, 1) := by decide +kernel
theorem dJ2_indexOf_4cfef_17 : decode cJ2_indexOf_4cfef 17 = .ok (.if_icmp .lt 5, 3) := by decide +kernel
theorem dJ2_indexOf_4cfef_20 : decode cJ2_indexOf_4cfef 20 = .ok (.iconst (-1), 1) := by decide +kernel
theorem dJ2_indexOf_4cfef_21 : decode cJ2_indexOf_4cfef 21 = .ok (.ireturn, 1) := by decide +kernel
theorem dJ2_indexOf_4cfef_22 : decode cJ2_indexOf_4cfef 22 = .ok (.iload_n 1, 1) := by decide +kernel
theorem dJ2_indexOf_4cfef_23 : decode cJ2_indexOf_4cfef 23 = .ok (.ldc 227, 2) := by decide +kernel
theorem dJ2_indexOf_4cfef_25 : decode cJ2_indexOf_4cfef 25 = .ok (.if_icmp .ge 11, 3) := by decide +kernel
theorem dJ2_indexOf_4cfef_28 : decode cJ2_indexOf_4cfef 28 = .ok (.aload_n 0, 1) := by decide +kernel
theorem dJ2_indexOf_4cfef_29 : decode cJ2_indexOf_4cfef 29 = .ok (.iload_n 1, 1) := by decide +kernel
theorem dJ2_indexOf_4cfef_30 : decode cJ2_indexOf_4cfef 30 = .ok (.iload_n 2, 1) := by decide +kernel
theorem dJ2_indexOf_4cfef_31 : decode cJ2_indexOf_4cfef 31 = .ok (.iload_n 3, 1) := by decide +kernel
theorem dJ2_indexOf_4cfef_32 : decode cJ2_indexOf_4cfef 32 = .ok (.invokestatic 228, 3) := by decide +kernel
theorem dJ2_indexOf_4cfef_35 : decode cJ2_indexOf_4cfef 35 = .ok (.ireturn, 1) := by decide +kernel
theorem dJ2_indexOf_4cfef_36 : decode cJ2_indexOf_4cfef 36 = .ok (.aload_n 0, 1) := by decide +kernel
theorem dJ2_indexOf_4cfef_37 : decode cJ2_indexOf_4cfef 37 = .ok (.iload_n 1, 1) := by decide +kernel
theorem dJ2_indexOf_4cfef_38 : decode cJ2_indexOf_4cfef 38 = .ok (.iload_n 2, 1) := by decide +kernel
theorem dJ2_indexOf_4cfef_39 : decode cJ2_indexOf_4cfef 39 = .ok (.iload_n 3, 1) := by decide +kernel
theorem dJ2_indexOf_4cfef_40 : decode cJ2_indexOf_4cfef 40 = .ok (.invokestatic 232, 3) := by decide +kernel
theorem dJ2_indexOf_4cfef_43 : decode cJ2_indexOf_4cfef 43 = .ok (.ireturn, 1) := by decide +kernel
theorem dJ2_indexOfChar_4cfef_0 : decode cJ2_indexOfChar_4cfef 0 = .ok (.iload_n 2, 1) := by decide +kernel
theorem dJ2_indexOfChar_4cfef_1 : decode cJ2_indexOfChar_4cfef 1 = .ok (.iload_n 3, 1) := by decide +kernel
theorem dJ2_indexOfChar_4cfef_2 : decode cJ2_indexOfChar_4cfef 2 = .ok (.aload_n 0, 1) := by decide +kernel
theorem dJ2_indexOfChar_4cfef_3 : decode cJ2_indexOfChar_4cfef 3 = .ok (.invokestatic 96, 3) := by decide +kernel
theorem dJ2_indexOfChar_4cfef_6 : decode cJ2_indexOfChar_4cfef 6 = .ok (.aload_n 0, 1) := by decide +kernel
theorem dJ2_indexOfChar_4cfef_7 : decode cJ2_indexOfChar_4cfef 7 = .ok (.iload_n 1, 1) := by decide +kernel
theorem dJ2_indexOfChar_4cfef_8 : decode cJ2_indexOfChar_4cfef 8 = .ok (.iload_n 2, 1) := by decide +kernel
theorem dJ2_indexOfChar_4cfef_9 : decode cJ2_indexOfChar_4cfef 9 = .ok (.iload_n 3, 1) := by decide +kernel
theorem dJ2_indexOfChar_4cfef_10 : decode cJ2_indexOfChar_4cfef 10 = .ok (.invokestatic 244, 3) := by decide +kernel
theorem dJ2_indexOfChar_4cfef_13 : decode cJ2_indexOfChar_4cfef 13 = .ok (.ireturn, 1) := by decide +kernel
theorem dJ2_indexOfCharUnsafe_4cfef_0 : decode cJ2_indexOfCharUnsafe_4cfef 0 = .ok (.iload_n 2, 1) := by decide +kernel
theorem dJ2_indexOfCharUnsafe_4cfef_1 : decode cJ2_indexOfCharUnsafe_4cfef 1 = .ok (.istore 4, 2) := by decide +kernel
theorem dJ2_indexOfCharUnsafe_4cfef_3 : decode cJ2_indexOfCharUnsafe_4cfef 3 = .ok (.iload 4, 2) := by decide +kernel
theorem dJ2_indexOfCharUnsafe_4cfef_5 : decode cJ2_indexOfCharUnsafe_4cfef 5 = .ok (.iload_n 3, 1) := by decide +kernel
theorem dJ2_indexOfCharUnsafe_4cfef_6 : decode cJ2_indexOfCharUnsafe_4cfef 6 = .ok (.if_icmp .ge 22, 3) := by decide +kernel
theorem dJ2_indexOfCharUnsafe_4cfef_9 : decode cJ2_indexOfCharUnsafe_4cfef 9 = .ok (.aload_n 0, 1) := by decide +kernel
theorem dJ2_indexOfCharUnsafe_4cfef_10 : decode cJ2_indexOfCharUnsafe_4cfef 10 = .ok (.iload 4, 2) := by decide +kernel
theorem dJ2_indexOfCharUnsafe_4cfef_12 : decode cJ2_indexOfCharUnsafe_4cfef 12 = .ok (.invokestatic 71, 3) := by decide +kernel
theorem dJ2_indexOfCharUnsafe_4cfef_15 : decode cJ2_indexOfCharUnsafe_4cfef 15 = .ok (.iload_n 1, 1) := by decide +kernel
theorem dJ2_indexOfCharUnsafe_4cfef_16 : decode cJ2_indexOfCharUnsafe_4cfef 16 = .ok (.if_icmp .ne 6, 3) := by decide +kernel
theorem dJ2_indexOfCharUnsafe_4cfef_19 : decode cJ2_indexOfCharUnsafe_4cfef 19 = .ok (.iload 4, 2) := by decide +kernel
theorem dJ2_indexOfCharUnsafe_4cfef_21 : decode cJ2_indexOfCharUnsafe_4cfef 21 = .ok (.ireturn, 1) := by decide +kernel
theorem dJ2_indexOfCharUnsafe_4cfef_22 : decode cJ2_indexOfCharUnsafe_4cfef 22 = .ok (.iinc 4 1, 3) := by decide +kernel
theorem dJ2_indexOfCharUnsafe_4cfef_25 : decode cJ2_indexOfCharUnsafe_4cfef 25 = .ok (.goto (-22), 3) := by decide +kernel
theorem dJ2_indexOfCharUnsafe_4cfef_28 : decode cJ2_indexOfCharUnsafe_4cfef 28 = .ok (.iconst (-1), 1) := by decide +kernel
theorem dJ2_indexOfCharUnsafe_4cfef_29 : decode cJ2_indexOfCharUnsafe_4cfef 29 = .ok (.ireturn, 1) := by decide +kernel
theorem dJ2_indexOfSupplementary_4cfef_0 : decode cJ2_indexOfSupplementary_4cfef 0 = .ok (.iload_n 1, 1) := by decide +kernel
theorem dJ2_indexOfSupplementary_4cfef_1 : decode cJ2_indexOfSupplementary_4cfef 1 = .ok (.invokestatic 164, 3) := by decide +kernel
theorem dJ2_indexOfSupplementary_4cfef_4 : decode cJ2_indexOfSupplementary_4cfef 4 = .ok (.ifCond .eq 65, 3) := by decide +kernel
theorem dJ2_indexOfSupplementary_4cfef_7 : decode cJ2_indexOfSupplementary_4cfef 7 = .ok (.iload_n 1, 1) := by decide +kernel
theorem dJ2_indexOfSupplementary_4cfef_8 : decode cJ2_indexOfSupplementary_4cfef 8 = .ok (.invokestatic 157, 3) := by decide +kernel
theorem dJ2_indexOfSupplementary_4cfef_11 : decode cJ2_indexOfSupplementary_4cfef 11 = .ok (.istore 4, 2) := by decide +kernel
theorem dJ2_indexOfSupplementary_4cfef_13 : decode cJ2_indexOfSupplementary_4cfef 13 = .ok (.iload_n 1, 1) := by decide +kernel
theorem dJ2_indexOfSupplementary_4cfef_14 : decode cJ2_indexOfSupplementary_4cfef 14 = .ok (.invokestatic 161, 3) := by decide +kernel
theorem dJ2_indexOfSupplementary_4cfef_17 : decode cJ2_indexOfSupplementary_4cfef 17 = .ok (.istore 5, 2) := by decide +kernel
theorem dJ2_indexOfSupplementary_4cfef_19 : decode cJ2_indexOfSupplementary_4cfef 19 = .ok (.iload_n 2, 1) := by decide +kernel
theorem dJ2_indexOfSupplementary_4cfef_20 : decode cJ2_indexOfSupplementary_4cfef 20 = .ok (.iload_n 3, 1) := by decide +kernel
theorem dJ2_indexOfSupplementary_4cfef_21 : decode cJ2_indexOfSupplementary_4cfef 21 = .ok (.aload_n 0, 1) := by decide +kernel
theorem dJ2_indexOfSupplementary_4cfef_22 : decode cJ2_indexOfSupplementary_4cfef 22 = .ok (.invokestatic 96, 3) := by decide +kernel
theorem dJ2_indexOfSupplementary_4cfef_25 : decode cJ2_indexOfSupplementary_4cfef 25 = .ok (.iload_n 2, 1) := by decide +kernel
theorem dJ2_indexOfSupplementary_4cfef_26 : decode cJ2_indexOfSupplementary_4cfef 26 = .ok (.istore 6, 2) := by decide +kernel
theorem dJ2_indexOfSupplementary_4cfef_28 : decode cJ2_indexOfSupplementary_4cfef 28 = .ok (.iload 6, 2) := by decide +kernel
theorem dJ2_indexOfSupplementary_4cfef_30 : decode cJ2_indexOfSupplementary_4cfef 30 = .ok (.iload_n 3, 1) := by decide +kernel
theorem dJ2_indexOfSupplementary_4cfef_31 : decode cJ2_indexOfSupplementary_4cfef 31 = .ok (.iconst 1, 1) := by decide +kernel
theorem dJ2_indexOfSupplementary_4cfef_32 : decode cJ2_indexOfSupplementary_4cfef 32 = .ok (.isub, 1) := by decide +kernel
theorem dJ2_indexOfSupplementary_4cfef_33 : decode cJ2_indexOfSupplementary_4cfef 33 = .ok (.if_icmp .ge 36, 3) := by decide +kernel
theorem dJ2_indexOfSupplementary_4cfef_36 : decode cJ2_indexOfSupplementary_4cfef 36 = .ok (.aload_n 0, 1) := by decide +kernel
theorem dJ2_indexOfSupplementary_4cfef_37 : decode cJ2_indexOfSupplementary_4cfef 37 = .ok (.iload 6, 2) := by decide +kernel
theorem dJ2_indexOfSupplementary_4cfef_39 : decode cJ2_indexOfSupplementary_4cfef 39 = .ok (.invokestatic 71, 3) := by decide +kernel
theorem dJ2_indexOfSupplementary_4cfef_42 : decode cJ2_indexOfSupplementary_4cfef 42 = .ok (.iload 4, 2) := by decide +kernel
theorem dJ2_indexOfSupplementary_4cfef_44 : decode cJ2_indexOfSupplementary_4cfef 44 = .ok (.if_icmp .ne 19, 3) := by decide +kernel
theorem dJ2_indexOfSupplementary_4cfef_47 : decode cJ2_indexOfSupplementary_4cfef 47 = .ok (.aload_n 0, 1) := by decide +kernel
theorem dJ2_indexOfSupplementary_4cfef_48 : decode cJ2_indexOfSupplementary_4cfef 48 = .ok (.iload 6, 2) := by decide +kernel
theorem dJ2_indexOfSupplementary_4cfef_50 : decode cJ2_indexOfSupplementary_4cfef 50 = .ok (.iconst 1, 1) := by decide +kernel
theorem dJ2_indexOfSupplementary_4cfef_51 : decode cJ2_indexOfSupplementary_4cfef 51 = .ok (.iadd, 1) := by decide +kernel
theorem dJ2_indexOfSupplementary_4cfef_52 : decode cJ2_indexOfSupplementary_4cfef 52 = .ok (.invokestatic 71, 3) := by decide +kernel
theorem dJ2_indexOfSupplementary_4cfef_55 : decode cJ2_indexOfSupplementary_4cfef 55 = .ok (.iload 5, 2) := by decide +kernel
theorem dJ2_indexOfSupplementary_4cfef_57 : decode cJ2_indexOfSupplementary_4cfef 57 = .ok (.if_icmp .ne 6, 3) := by decide +kernel
theorem dJ2_indexOfSupplementary_4cfef_60 : decode cJ2_indexOfSupplementary_4cfef 60 = .ok (.iload 6, 2) := by decide +kernel
theorem dJ2_indexOfSupplementary_4cfef_62 : decode cJ2_indexOfSupplementary_4cfef 62 = .ok (.ireturn, 1) := by decide +kernel
theorem dJ2_indexOfSupplementary_4cfef_63 : decode cJ2_indexOfSupplementary_4cfef 63 = .ok (.iinc 6 1, 3) := by decide +kernel
theorem dJ2_indexOfSupplementary_4cfef_66 : decode cJ2_indexOfSupplementary_4cfef 66 = .ok (.goto (-38), 3) := by decide +kernel
theorem dJ2_indexOfSupplementary_4cfef_69 : decode cJ2_indexOfSupplementary_4cfef 69 = .ok (.iconst (-1), 1) := by decide +kernel
theorem dJ2_indexOfSupplementary_4cfef_70 : decode cJ2_indexOfSupplementary_4cfef 70 = .ok (.ireturn, 1) := by decide +kernel
theorem dJ2_checkBoundsBeginEnd_d044e_0 : decode cJ2_checkBoundsBeginEnd_d044e 0 = .ok (.iload_n 0, 1) := by decide +kernel
theorem dJ2_checkBoundsBeginEnd_d044e_1 : decode cJ2_checkBoundsBeginEnd_d044e 1 = .ok (.iload_n 1, 1) := by decide +kernel
theorem dJ2_checkBoundsBeginEnd_d044e_2 : decode cJ2_checkBoundsBeginEnd_d044e 2 = .ok (.aload_n 2, 1) := by decide +kernel
theorem dJ2_checkBoundsBeginEnd_d044e_3 : decode cJ2_checkBoundsBeginEnd_d044e 3 = .ok (.invokestatic 48, 3) := by decide +kernel
theorem dJ2_checkBoundsBeginEnd_d044e_6 : decode cJ2_checkBoundsBeginEnd_d044e 6 = .ok (.invokestatic 241, 3) := by decide +kernel
theorem dJ2_checkBoundsBeginEnd_d044e_9 : decode cJ2_checkBoundsBeginEnd_d044e 9 = .ok (.return_, 1) := by decide +kernel
theorem dJ3_checkFromToIndex_8c36e_0 : decode cJ3_checkFromToIndex_8c36e 0 = .ok (.iload_n 0, 1) := by decide +kernel
theorem dJ3_checkFromToIndex_8c36e_1 : decode cJ3_checkFromToIndex_8c36e 1 = .ok (.ifCond .lt 13, 3) := by decide +kernel
theorem dJ3_checkFromToIndex_8c36e_4 : decode cJ3_checkFromToIndex_8c36e 4 = .ok (.iload_n 0, 1) := by decide +kernel
theorem dJ3_checkFromToIndex_8c36e_5 : decode cJ3_checkFromToIndex_8c36e 5 = .ok (.iload_n 1, 1) := by decide +kernel
theorem dJ3_checkFromToIndex_8c36e_6 : decode cJ3_checkFromToIndex_8c36e 6 = .ok (.if_icmp .gt 8, 3) := by decide +kernel
theorem dJ3_checkFromToIndex_8c36e_9 : decode cJ3_checkFromToIndex_8c36e 9 = .ok (.iload_n 1, 1) := by decide +kernel
theorem dJ3_checkFromToIndex_8c36e_10 : decode cJ3_checkFromToIndex_8c36e 10 = .ok (.iload_n 2, 1) := by decide +kernel
theorem dJ3_checkFromToIndex_8c36e_11 : decode cJ3_checkFromToIndex_8c36e 11 = .ok (.if_icmp .le 11, 3) := by decide +kernel
theorem dJ3_checkFromToIndex_8c36e_14 : decode cJ3_checkFromToIndex_8c36e 14 = .ok (.aload_n 3, 1) := by decide +kernel
theorem dJ3_checkFromToIndex_8c36e_15 : decode cJ3_checkFromToIndex_8c36e 15 = .ok (.iload_n 0, 1) := by decide +kernel
theorem dJ3_checkFromToIndex_8c36e_16 : decode cJ3_checkFromToIndex_8c36e 16 = .ok (.iload_n 1, 1) := by decide +kernel
theorem dJ3_checkFromToIndex_8c36e_17 : decode cJ3_checkFromToIndex_8c36e 17 = .ok (.iload_n 2, 1) := by decide +kernel
theorem dJ3_checkFromToIndex_8c36e_18 : decode cJ3_checkFromToIndex_8c36e 18 = .ok (.invokestatic 99, 3) := by decide +kernel
theorem dJ3_checkFromToIndex_8c36e_21 : decode cJ3_checkFromToIndex_8c36e 21 = .ok (.athrow, 1) := by decide +kernel
theorem dJ3_checkFromToIndex_8c36e_22 : decode cJ3_checkFromToIndex_8c36e 22 = .ok (.iload_n 0, 1) := by decide +kernel
theorem dJ3_checkFromToIndex_8c36e_23 : decode cJ3_checkFromToIndex_8c36e 23 = .ok (.ireturn, 1) := by decide +kernel
end
section
/-! ===== the machine as this system needs it: one world of 58 cells that never grows; their ints are one function ===== -/
abbrev gG : Type := Nat → Nat → Int32
def gup (g : gG) (k j : Nat) (x : Int32) : gG := fun a b => if a = k ∧ b = j then x else g a b
def gcp (g : gG) (k0 k1 n : Nat) : gG := fun a b => if a = k1 ∧ b < n then g k0 b else g a b
/-- a cell: an object (its class, a field is an int or the ref of a cell), or an array (0 ints, 1 chars, 2 arrays of ints, which are the next cells) -/
abbrev gS : Type := (Nat × List (Option Nat)) ⊕ (Nat × Nat)
def gshL : List gS := [.inl (3, [some 1, some 9, some 17, none, some 25, some 27, some 30, none, some 31, some 32, some 33, some 34]), .inl (0, [some 2, some 3, some 4, some 5, some 6, some 7, some 8, none, none, none, none]), .inr (0, 6), .inr (0, 6), .inr (0, 6), .inr (0, 5), .inr (0, 5), .inr (0, 5), .inr (0, 5), .inl (0, [some 10, some 11, some 12, some 13, some 14, some 15, some 16, none, none, none, none]), .inr (0, 6), .inr (0, 6), .inr (0, 6), .inr (0, 5), .inr (0, 5), .inr (0, 5), .inr (0, 5), .inl (0, [some 18, some 19, some 20, some 21, some 22, some 23, some 24, none, none, none, none]), .inr (0, 6), .inr (0, 6), .inr (0, 6), .inr (0, 5), .inr (0, 5), .inr (0, 5), .inr (0, 5), .inl (2, [some 26, none]), .inr (1, 96), .inl (1, [some 28, some 29]), .inr (0, 384), .inr (0, 5), .inr (0, 16), .inr (0, 7), .inr (0, 69), .inr (0, 4), .inr (0, 4), .inl (4, [some 36, some 37, some 38, some 39, some 40, some 41, some 42, some 43, none, none, none, none, some 44, some 45, some 46, some 47, none, none, none, some 48, none, none, none, some 49, none, none, none, none, some 56, some 57, none, none]), .inr (0, 7), .inr (0, 6), .inr (0, 6), .inr (0, 6), .inr (0, 5), .inr (0, 5), .inr (0, 5), .inr (0, 5), .inr (0, 96), .inr (0, 48), .inr (0, 48), .inr (0, 96), .inr (0, 126), .inr (2, 6), .inr (0, 64), .inr (0, 64), .inr (0, 64), .inr (0, 64), .inr (0, 64), .inr (0, 64), .inr (0, 8), .inr (0, 16)]
/-- the words of the tables that every method is given -/
def gw : List Cond := lw_tbl.filter goodWord
theorem gw_mem {w : Cond} (i : Nat) (h : lw_tbl[i]? = some w) (hg : goodWord w = true) : w ∈ gw := List.mem_filter.mpr ⟨List.mem_of_getElem? h, hg⟩
theorem gw_tbl {w : Cond} (h : w ∈ gw) : w ∈ lw_tbl := (List.mem_filter.mp h).1
theorem gw_good {w : Cond} (h : w ∈ gw) : (w.onTables && w.keeps) = true ∨ ∃ ty, w = .arrayClass ty := good_of_word (List.mem_filter.mp h).2
abbrev vwCl : List vw_C := [(RX0, TX0, 11), (RX1, TX1, 2), (RX2, TX2, 2), (RX3, TX3, 12), (RX4, TX4, 32)]
def gtv (ad : Nat → Nat) (v : Value) : Value := match v with
  | .ref k => .ref (ad k)
  | v => v
def gfo (ad : Nat → Nat) (g : gG) (k j : Nat) (o : Option Nat) : Value := match o with
  | none => .int (g k j)
  | some a => .ref (ad a)
def gce (ad : Nat → Nat) (cA : Nat → ClassId) (g : gG) (k : Nat) (s : gS) : va_E := match s with
  | .inl q => .inr (q.1, q.2.mapIdx (gfo ad g k))
  | .inr q => .inl (cA q.1, q.2, if q.1 = 2 then .inr (.inr (.inr (.inr fun i => if i < q.2 then some (ad (k + 1 + i)) else none))) else .inl (g k))
def gws (ad : Nat → Nat) (cA : Nat → ClassId) (g : gG) : va_W := gshL.mapIdx fun k s => (ad k, gce ad cA g k s)
def gtys (cA : Nat → ClassId) : List (ClassId × FieldType) := [(cA 0, .int), (cA 1, .char), (cA 2, .array .int)]
def gA (ad : Nat → Nat) : Nat → Prop := fun q => ∃ k, k < 58 ∧ q = ad k
def ginj (ad : Nat → Nat) : Prop := ∀ i j, i < 58 → j < 58 → ad i = ad j → i = j
theorem gsh_lt {k : Nat} {s : gS} (h : gshL[k]? = some s) : k < 58 := (List.getElem?_eq_some_iff.mp h).1
theorem gfo_eq {ad : Nat → Nat} {g g' : gG} {k : Nat} (h : g' k = g k) : gfo ad g' k = gfo ad g k := by
  funext j o
  cases o <;> simp [gfo, h]
theorem gce_eq {ad : Nat → Nat} {cA : Nat → ClassId} {g g' : gG} {k : Nat} {s : gS} (h : g' k = g k) : gce ad cA g' k s = gce ad cA g k s := by
  cases s <;> simp [gce, gfo_eq h, h]
theorem gws_at {ad : Nat → Nat} {cA : Nat → ClassId} {g : gG} {k : Nat} {s : gS} (h : gshL[k]? = some s) : (gws ad cA g)[k]? = some (ad k, gce ad cA g k s) := by
  unfold gws
  rw [List.getElem?_mapIdx, h]
  rfl
theorem gws_some {ad : Nat → Nat} {cA : Nat → ClassId} {g : gG} {k : Nat} {q : Nat × va_E} (h : (gws ad cA g)[k]? = some q) : k < 58 ∧ q.1 = ad k := by
  unfold gws at h
  rw [List.getElem?_mapIdx] at h
  cases hk : gshL[k]? with
  | none => rw [hk] at h; cases h
  | some s =>
    rw [hk] at h
    cases h
    exact ⟨gsh_lt hk, rfl⟩
theorem gws_set {ad : Nat → Nat} {cA : Nat → ClassId} {g g' : gG} {k : Nat} {s : gS} {e : va_E} (h : gshL[k]? = some s) (he : gce ad cA g' k s = e) (ho : ∀ i, i ≠ k → g' i = g i) : (gws ad cA g).set k (ad k, e) = gws ad cA g' := by
  apply List.ext_getElem?
  intro i
  rw [List.getElem?_set]
  by_cases hi : k = i
  · subst hi
    rw [if_pos rfl, gws_at h, he, if_pos]
    unfold gws
    rw [List.length_mapIdx]
    exact (List.getElem?_eq_some_iff.mp h).1
  · rw [if_neg hi]
    unfold gws
    rw [List.getElem?_mapIdx, List.getElem?_mapIdx]
    cases gshL[i]? with
    | none => rfl
    | some s => simp only [Option.map_some]; rw [gce_eq (ho i (Ne.symm hi))]
theorem gD {ad : Nat → Nat} {cA : Nat → ClassId} {g : gG} (h : ginj ad) : va_D (gA ad) (gws ad cA g) := by
  refine ⟨fun i j p q hp hq e => ?_, fun k q hq => ?_⟩
  · obtain ⟨h1, e1⟩ := gws_some hp
    obtain ⟨h2, e2⟩ := gws_some hq
    exact h i j h1 h2 (by rw [← e1, ← e2]; exact e)
  · obtain ⟨h1, e1⟩ := gws_some hq
    exact ⟨k, h1, e1⟩
theorem gtv_cat (ad : Nat → Nat) (v : Value) : (gtv ad v).category = v.category := by cases v <;> rfl
theorem gtv_cats (ad : Nat → Nat) (l : List Value) : ((l.map (gtv ad)).map fun v => v.category) = l.map fun v => v.category := by
  rw [List.map_map]
  exact List.map_congr_left fun v _ => gtv_cat ad v
/-! what nobody writes: four tables, a text -/
def gtab (q j : Nat) : Int32 := if q = 100 then [3, 2, 1, 6, 6, 0].getD j 0 else if q = 101 then [2, 2, 1, 4, 4, 2].getD j 0 else if q = 102 then [0, -2, 0, 0, 5, -2].getD j 0 else if q = 103 then [2, 1, 0, 3, 3, 1].getD j 0 else [112, 109, 103, 102, 98, 111].getD j 0
def gsn (q : Nat) : String := if q = 100 then "PRICE" else if q = 101 then "COVER_HALVES" else if q = 102 then "COVER_MORE" else "CHAFE"
def gnx (q : Nat) : Nat := if q = 100 then 90 else if q = 101 then 60 else if q = 102 then 63 else 66
def gROq (ad : Nat → Nat) (q : Nat) (U : State) (H : Heap) : Prop := va_Z "ArmourOfTheShy" (gsn q) "[I" (.ref (ad q)) (gA ad) U H ∧ va_T .int (ad q) 6 (fun j => .int (gtab q j)) (gA ad) U H ∧ va_Nw (.fieldLinkNest RX0 (gnx q) "ArmourOfTheShy" (gsn q) "[I" "ArmourOfTheShy") U
def gROs (ad : Nat → Nat) (U : State) (H : Heap) : Prop := vk_R RX2 27 "pmgfbo" (ad 104) U ∧ va_O "java/lang/String" (ad 104) (gA ad) U H ∧ va_OF "java/lang/String" "value" "[B" (.ref (ad 105)) (ad 104) (gA ad) U H ∧ va_OF "java/lang/String" "coder" "B" (.int 0) (ad 104) (gA ad) U H ∧ va_T .byte (ad 105) 6 (fun j => .int (gtab 105 j)) (gA ad) U H ∧ va_Z "java/lang/String" "COMPACT_STRINGS" "Z" (.int 1) (gA ad) U H
def gRO (ad : Nat → Nat) (U : State) (H : Heap) : Prop := (∀ q, 100 ≤ q → q < 104 → gROq ad q U H) ∧ gROs ad U H
theorem gRO.kept {ad : Nat → Nat} {U : State} {H H1 : Heap} (h : gRO ad U H) (hq : ∀ a : Nat, a < H.size → ¬ gA ad a → H1[a]? = H[a]?) : gRO ad U H1 := by
  obtain ⟨h1, s1, s2, s3, s4, s5, s6⟩ := h
  exact ⟨fun q a b => ⟨(h1 q a b).1.kept hq, (h1 q a b).2.1.kept hq, (h1 q a b).2.2⟩, s1, s2.kept hq, s3.kept hq, s4.kept hq, s5.kept hq, s6.kept hq⟩
theorem gRO.warm {ad : Nat → Nat} {s U : State} {H : Heap} (hW : s.WarmedH U.vm) (h : gRO ad s H) : gRO ad U H := by
  obtain ⟨h1, s1, s2, s3, s4, s5, s6⟩ := h
  exact ⟨fun q a b => ⟨(h1 q a b).1.moved hW.alike, (h1 q a b).2.1.moved hW.alike, va_Nw.warmF hW (h1 q a b).2.2⟩, s1.warm hW, s2.moved hW.alike, s3.moved hW.alike, s4.moved hW.alike, s5.moved hW.alike, s6.moved hW.alike⟩
theorem gRO.same {ad : Nat → Nat} {u U : State} {H : Heap} (hv : u.vm = U.vm) (h : gRO ad u H) : gRO ad U H := by
  have ha : u.vm.Alike U.vm := by rw [hv]; exact Vm.Alike.refl U.vm
  obtain ⟨h1, s1, s2, s3, s4, s5, s6⟩ := h
  exact ⟨fun q a b => ⟨(h1 q a b).1.moved ha, (h1 q a b).2.1.moved ha, va_Nw.same rfl hv (h1 q a b).2.2⟩, vk_R.same hv.symm s1, s2.moved ha, s3.moved ha, s4.moved ha, s5.moved ha, s6.moved ha⟩
/-! a method: its name, code, locals, what it returns, the frames and the locals' words that it needs below itself -/
abbrev gM : Type := MethodName × ByteArray × Nat × Option FieldType × Nat × Nat
def groom (fr lo : Nat) : Room := { frames := fr, cells := 0, slots := 0, locals := lo }
def gPre (D : va_G) (cA : Nat → ClassId) (ad : Nat → Nat) (g : gG) (U : State) : Prop := va_P D vwCl (gws ad cA g) U.heap ∧ va_K D vwCl (gtys cA) U ∧ ginj ad ∧ gRO ad U U.heap
def gPc (D : va_G) (cA : Nat → ClassId) (ad : Nat → Nat) (av : List Value) (g : gG) : Array Value → State → Prop := fun v U => v = (av.map (gtv ad)).toArray ∧ gPre D cA ad g U
def gQc (D : va_G) (cA : Nat → ClassId) (ad : Nat → Nat) (Q : Option Value → gG → Prop) : Array Value → State → Outcome → State → Prop := fun _ st oc t => (∃ (r : Option Value) (g' : gG), oc = .returned (r.map (gtv ad)) ∧ Q r g' ∧ va_P D vwCl (gws ad cA g') t.heap) ∧ va_F (gA ad) st t
/-- a method's contract: from the ints g, with the arguments av, it returns so that Q -/
def gC (M : gM) (av : List Value) (g : gG) (Q : Option Value → gG → Prop) : Prop := ∀ (l : Launch) (D : va_G) (cA : Nat → ClassId) (ad : Nat → Nat), Met l M.1 (.code M.1 M.2.1 M.2.2.1 M.2.2.2.1 :: gw) (groom M.2.2.2.2.1 M.2.2.2.2.2) (gPc D cA ad av g) (gQc D cA ad Q) 0 0 (gA ad)
theorem gPc_blind {D : va_G} {cA : Nat → ClassId} {ad : Nat → Nat} {av : List Value} {g : gG} : FrameBlind (gPc D cA ad av g) := by
  intro a U f mk ⟨h1, h2, h3, h4, h5⟩
  exact ⟨h1, h2, va_K.moved (u := U) (U := U.calling f mk a) (Vm.Alike.refl U.vm) h3, h4, gRO.same (u := U) (U := U.calling f mk a) rfl h5⟩
/-! locals: a list, .null where nothing is known -/
def glo (ad : Nat → Nat) (n : Nat) (ls : List Value) (la : Array Slot) : Prop := la.size = n ∧ lv_wf la ∧ ls.length = n ∧ ∀ (i : Nat) (v : Value), ls[i]? = some v → v ≠ .null → la[i]? = some (.val (gtv ad v))
def gclr (ls : List Value) (i : Nat) : List Value := match i with
  | 0 => ls
  | k + 1 => match ls[k]? with
    | some (.long _) => ls.set k .null
    | some (.double _) => ls.set k .null
    | _ => ls
def gst1 (ls : List Value) (i : Nat) (v : Value) : List Value := (gclr ls i).set i v
def gst2 (ls : List Value) (i : Nat) (v : Value) : List Value := ((gclr ls i).set i v).set (i + 1) .null
theorem gclr_len (ls : List Value) (i : Nat) : (gclr ls i).length = ls.length := by
  unfold gclr
  split
  · rfl
  · split <;> simp
theorem gclr_at {ls : List Value} {i j : Nat} {v : Value} (h : (gclr ls i)[j]? = some v) (hn : v ≠ .null) : ls[j]? = some v ∧ ¬ (j + 1 = i ∧ v.category = 2) := by
  unfold gclr at h
  split at h
  · exact ⟨h, fun q => by omega⟩
  · next k =>
    split at h
    · next x hx =>
      rw [List.getElem?_set] at h
      split at h
      · split at h
        · cases h; exact absurd rfl hn
        · cases h
      · next hne => exact ⟨h, fun q => hne (by omega)⟩
    · next x hx =>
      rw [List.getElem?_set] at h
      split at h
      · split at h
        · cases h; exact absurd rfl hn
        · cases h
      · next hne => exact ⟨h, fun q => hne (by omega)⟩
    · next h1 h2 =>
      refine ⟨h, fun ⟨q1, q2⟩ => ?_⟩
      have hj : j = k := by omega
      subst hj
      cases v with
      | long x => exact h1 x h
      | double x => exact h2 x h
      | _ => simp [Value.category] at q2
/-- the pairs that a list of locals tells -/
def gprs (ad : Nat → Nat) (ls : List Value) : List (Nat × Value) := (List.range ls.length).filterMap fun i => match ls[i]? with
  | some v => if v = .null then none else some (i, gtv ad v)
  | none => none
theorem gprs_mem {ad : Nat → Nat} {ls : List Value} {i : Nat} {v : Value} (h : ls[i]? = some v) (hn : v ≠ .null) : (i, gtv ad v) ∈ gprs ad ls := by
  unfold gprs
  refine List.mem_filterMap.mpr ⟨i, List.mem_range.mpr (List.getElem?_eq_some_iff.mp h).1, ?_⟩
  simp [h, hn]
theorem gprs_of {ad : Nat → Nat} {ls : List Value} {q : Nat × Value} (h : q ∈ gprs ad ls) : ∃ v, ls[q.1]? = some v ∧ v ≠ .null ∧ q.2 = gtv ad v := by
  unfold gprs at h
  obtain ⟨i, -, hi⟩ := List.mem_filterMap.mp h
  cases hl : ls[i]? with
  | none => rw [hl] at hi; cases hi
  | some v =>
    rw [hl] at hi
    by_cases hv : v = .null
    · simp [hv] at hi
    · simp only [hv, if_false] at hi
      cases hi
      exact ⟨v, hl, hv, rfl⟩
theorem glo.has {ad : Nat → Nat} {n : Nat} {ls : List Value} {la : Array Slot} (h : glo ad n ls la) : lv_has la n (gprs ad ls) :=
  ⟨h.1, h.2.1, fun q hq => by
    obtain ⟨v, h1, h2, h3⟩ := gprs_of hq
    rw [h3]
    exact h.2.2.2 _ _ h1 h2⟩
theorem glo.st1 {ad : Nat → Nat} {n i : Nat} {ls : List Value} {la : Array Slot} {v : Value} (h : glo ad n ls la) (hi : i < n) (hc : v.category = 1) :
    ∃ la', storeLocals la i (gtv ad v) = some la' ∧ glo ad n (gst1 ls i v) la' := by
  obtain ⟨la', e, h'⟩ := lv_store1 (v := gtv ad v) h.has hi (by rw [gtv_cat]; exact hc)
  refine ⟨la', e, h'.1, h'.2.1, by simp [gst1, gclr_len, h.2.2.1], fun j w hj hn => ?_⟩
  unfold gst1 at hj
  rw [List.getElem?_set] at hj
  split at hj
  · next hij =>
    split at hj
    · cases hj
      subst hij
      exact h'.2.2 _ List.mem_cons_self
    · cases hj
  · next hij =>
    obtain ⟨h1, h2⟩ := gclr_at hj hn
    refine h'.2.2 (j, gtv ad w) (List.mem_cons_of_mem _ (List.mem_filter.mpr ⟨gprs_mem h1 hn, ?_⟩))
    have e1 : (j == i) = false := by simp; omega
    rw [show ((j, gtv ad w).1 == i) = false from e1]
    by_cases hq : j + 1 = i
    · have : ¬ w.category = 2 := fun q => h2 ⟨hq, q⟩
      simp [gtv_cat, this]
    · simp [hq]
theorem glo.st2 {ad : Nat → Nat} {n i : Nat} {ls : List Value} {la : Array Slot} {v : Value} (h : glo ad n ls la) (hi : i + 1 < n) (hc : v.category = 2) :
    ∃ la', storeLocals la i (gtv ad v) = some la' ∧ glo ad n (gst2 ls i v) la' := by
  obtain ⟨la', e, h'⟩ := lv_store2 (v := gtv ad v) h.has hi (by rw [gtv_cat]; exact hc)
  refine ⟨la', e, h'.1, h'.2.1, by simp [gst2, gclr_len, h.2.2.1], fun j w hj hn => ?_⟩
  unfold gst2 at hj
  rw [List.getElem?_set] at hj
  split at hj
  · split at hj
    · cases hj; exact absurd rfl hn
    · cases hj
  · next hij1 =>
    rw [List.getElem?_set] at hj
    split at hj
    · next hij =>
      split at hj
      · cases hj
        subst hij
        exact h'.2.2 _ List.mem_cons_self
      · cases hj
    · next hij =>
      obtain ⟨h1, h2⟩ := gclr_at hj hn
      refine h'.2.2 (j, gtv ad w) (List.mem_cons_of_mem _ (List.mem_filter.mpr ⟨gprs_mem h1 hn, ?_⟩))
      have e1 : (j == i) = false := by simp; omega
      have e2 : (j == i + 1) = false := by simp; omega
      rw [show ((j, gtv ad w).1 == i) = false from e1, show ((j, gtv ad w).1 == i + 1) = false from e2]
      by_cases hq : j + 1 = i
      · have : ¬ w.category = 2 := fun q => h2 ⟨hq, q⟩
        simp [gtv_cat, this]
      · simp [hq]
/-- the locals with which a method begins -/
def gargs (av : List Value) : List Value := av.flatMap fun v => if v.category = 2 then [v, .null] else [v]
def gent (av : List Value) (n : Nat) : List Value := gargs av ++ List.replicate (n - (gargs av).length) .null
theorem gargs_in (ad : Nat → Nat) : ∀ (av : List Value) (k i : Nat) (v : Value), (gargs av)[i]? = some v → v ≠ .null → (k + i, gtv ad v) ∈ lv_args k (av.map (gtv ad))
  | [], k, i, v, h, hn => by simp [gargs] at h
  | a :: av, k, i, v, h, hn => by
    show (k + i, gtv ad v) ∈ (k, gtv ad a) :: lv_args (if (gtv ad a).category = 2 then k + 2 else k + 1) (av.map (gtv ad))
    have hg : gargs (a :: av) = (if a.category = 2 then [a, .null] else [a]) ++ gargs av := by simp [gargs]
    rw [hg] at h
    rw [gtv_cat]
    by_cases hc : a.category = 2
    · rw [if_pos hc] at h ⊢
      match i, h with
      | 0, h => cases h; exact List.mem_cons_self
      | 1, h => cases h; exact absurd rfl hn
      | i + 2, h =>
        have := gargs_in ad av (k + 2) i v h hn
        rw [show k + (i + 2) = k + 2 + i by omega]
        exact List.mem_cons_of_mem _ this
    · rw [if_neg hc] at h ⊢
      match i, h with
      | 0, h => cases h; exact List.mem_cons_self
      | i + 1, h =>
        have := gargs_in ad av (k + 1) i v h hn
        rw [show k + (i + 1) = k + 1 + i by omega]
        exact List.mem_cons_of_mem _ this
theorem gargs_len (ad : Nat → Nat) : ∀ av : List Value, (lg_sl (av.map (gtv ad))).length = (gargs av).length
  | [] => rfl
  | a :: av => by
    have ih := gargs_len ad av
    have h1 : gargs (a :: av) = (if a.category = 2 then [a, .null] else [a]) ++ gargs av := by simp [gargs]
    have h2 : lg_sl ((a :: av).map (gtv ad)) = (if (gtv ad a).category = 2 then [.val (gtv ad a), .second] else [.val (gtv ad a)]) ++ lg_sl (av.map (gtv ad)) := by simp [lg_sl]
    rw [h1, h2, gtv_cat, List.length_append, List.length_append, ih]
    by_cases hc : a.category = 2 <;> simp [hc]
theorem glo_entry (ad : Nat → Nat) (av : List Value) {n : Nat} (h : (gargs av).length ≤ n) : glo ad n (gent av n) ((lg_sl (av.map (gtv ad)) ++ List.replicate (n - (lg_sl (av.map (gtv ad))).length) Slot.unset).toArray) := by
  obtain ⟨h1, h2, h3⟩ := lv_entry (av.map (gtv ad)) (n := n) (by rw [gargs_len]; exact h)
  refine ⟨h1, h2, by simp [gent]; omega, fun i v hi hn => ?_⟩
  unfold gent at hi
  rw [List.getElem?_append] at hi
  split at hi
  · have := gargs_in ad av 0 i v hi hn
    rw [Nat.zero_add] at this
    exact h3 _ this
  · rw [List.getElem?_replicate] at hi
    split at hi
    · cases hi; exact absurd rfl hn
    · cases hi
end
