section
-- ===== PART A: goes FIRST, ahead of the names: the tables' words, and 'selects' of the private methods out of them =====
/-- a private method of a class that the tables say can be made, by its rows of tables_1 -/
def lw_okq (q : MethodName × Nat) : Prop := (q.1.cls ≠ "java/lang/invoke/MethodHandle" ∧ q.1.cls ≠ "java/lang/invoke/VarHandle") ∧ Cond.instantiable q.1.cls q.2 ∈ tables_1 ∧ Cond.privateMethod q.1 ∈ tables_1 ∧ Cond.instanceMethod q.1 ∈ tables_1
theorem lw_p0 : lw_okq (⟨"ArmourOfTheShy", "refuse", "(I)I"⟩, 12) := ⟨⟨by decide +kernel, by decide +kernel⟩, List.mem_of_getElem? (i := 14) (by decide +kernel), List.mem_of_getElem? (i := 154) (by decide +kernel), List.mem_of_getElem? (i := 155) (by decide +kernel)⟩
theorem lw_p1 : lw_okq (⟨"ArmourOfTheShy$Letters", "fits", "(II)Z"⟩, 2) := ⟨⟨by decide +kernel, by decide +kernel⟩, List.mem_of_getElem? (i := 82) (by decide +kernel), List.mem_of_getElem? (i := 170) (by decide +kernel), List.mem_of_getElem? (i := 171) (by decide +kernel)⟩
theorem lw_p2 : lw_okq (⟨"ArmourOfTheShy", "think", "()V"⟩, 12) := ⟨⟨by decide +kernel, by decide +kernel⟩, List.mem_of_getElem? (i := 14) (by decide +kernel), List.mem_of_getElem? (i := 264) (by decide +kernel), List.mem_of_getElem? (i := 265) (by decide +kernel)⟩
theorem lw_p3 : lw_okq (⟨"ArmourOfTheShy$Letters", "digit", "(I)I"⟩, 2) := ⟨⟨by decide +kernel, by decide +kernel⟩, List.mem_of_getElem? (i := 82) (by decide +kernel), List.mem_of_getElem? (i := 279) (by decide +kernel), List.mem_of_getElem? (i := 280) (by decide +kernel)⟩
theorem lw_p4 : lw_okq (⟨"ArmourOfTheShy$Letters", "number", "(I)I"⟩, 2) := ⟨⟨by decide +kernel, by decide +kernel⟩, List.mem_of_getElem? (i := 82) (by decide +kernel), List.mem_of_getElem? (i := 287) (by decide +kernel), List.mem_of_getElem? (i := 288) (by decide +kernel)⟩
theorem lw_p5 : lw_okq (⟨"ArmourOfTheShy", "anySuit", "(I)I"⟩, 12) := ⟨⟨by decide +kernel, by decide +kernel⟩, List.mem_of_getElem? (i := 14) (by decide +kernel), List.mem_of_getElem? (i := 370) (by decide +kernel), List.mem_of_getElem? (i := 371) (by decide +kernel)⟩
theorem lw_p6 : lw_okq (⟨"ArmourOfTheShy", "anyCaller", "(I)I"⟩, 12) := ⟨⟨by decide +kernel, by decide +kernel⟩, List.mem_of_getElem? (i := 14) (by decide +kernel), List.mem_of_getElem? (i := 391) (by decide +kernel), List.mem_of_getElem? (i := 392) (by decide +kernel)⟩
theorem lw_p7 : lw_okq (⟨"ArmourOfTheShy", "inSuit", "(I)I"⟩, 12) := ⟨⟨by decide +kernel, by decide +kernel⟩, List.mem_of_getElem? (i := 14) (by decide +kernel), List.mem_of_getElem? (i := 415) (by decide +kernel), List.mem_of_getElem? (i := 416) (by decide +kernel)⟩
theorem lw_p8 : lw_okq (⟨"ArmourOfTheShy", "firstToPropose", "()I"⟩, 12) := ⟨⟨by decide +kernel, by decide +kernel⟩, List.mem_of_getElem? (i := 14) (by decide +kernel), List.mem_of_getElem? (i := 460) (by decide +kernel), List.mem_of_getElem? (i := 461) (by decide +kernel)⟩
theorem lw_p9 : lw_okq (⟨"ArmourOfTheShy", "allSaidBehind", "(I)I"⟩, 12) := ⟨⟨by decide +kernel, by decide +kernel⟩, List.mem_of_getElem? (i := 14) (by decide +kernel), List.mem_of_getElem? (i := 472) (by decide +kernel), List.mem_of_getElem? (i := 473) (by decide +kernel)⟩
theorem lw_p10 : lw_okq (⟨"ArmourOfTheShy$Dresser", "mostOn", "(LArmourOfTheShy$City;II)I"⟩, 2) := ⟨⟨by decide +kernel, by decide +kernel⟩, List.mem_of_getElem? (i := 97) (by decide +kernel), List.mem_of_getElem? (i := 492) (by decide +kernel), List.mem_of_getElem? (i := 493) (by decide +kernel)⟩
theorem lw_p11 : lw_okq (⟨"ArmourOfTheShy$Dresser", "mostWith", "(III)I"⟩, 2) := ⟨⟨by decide +kernel, by decide +kernel⟩, List.mem_of_getElem? (i := 97) (by decide +kernel), List.mem_of_getElem? (i := 496) (by decide +kernel), List.mem_of_getElem? (i := 497) (by decide +kernel)⟩
theorem lw_p12 : lw_okq (⟨"ArmourOfTheShy$Dresser", "firstBest", "(LArmourOfTheShy$City;II)I"⟩, 2) := ⟨⟨by decide +kernel, by decide +kernel⟩, List.mem_of_getElem? (i := 97) (by decide +kernel), List.mem_of_getElem? (i := 506) (by decide +kernel), List.mem_of_getElem? (i := 507) (by decide +kernel)⟩
theorem lw_p13 : lw_okq (⟨"ArmourOfTheShy", "suitsAhead", "(I)I"⟩, 12) := ⟨⟨by decide +kernel, by decide +kernel⟩, List.mem_of_getElem? (i := 14) (by decide +kernel), List.mem_of_getElem? (i := 543) (by decide +kernel), List.mem_of_getElem? (i := 544) (by decide +kernel)⟩
theorem lw_p14 : lw_okq (⟨"ArmourOfTheShy", "thinkPair", "(IIII)V"⟩, 12) := ⟨⟨by decide +kernel, by decide +kernel⟩, List.mem_of_getElem? (i := 14) (by decide +kernel), List.mem_of_getElem? (i := 561) (by decide +kernel), List.mem_of_getElem? (i := 562) (by decide +kernel)⟩
theorem lw_p15 : lw_okq (⟨"ArmourOfTheShy", "wish", "(II)I"⟩, 12) := ⟨⟨by decide +kernel, by decide +kernel⟩, List.mem_of_getElem? (i := 14) (by decide +kernel), List.mem_of_getElem? (i := 565) (by decide +kernel), List.mem_of_getElem? (i := 566) (by decide +kernel)⟩
def lw_privs_1 : List (MethodName × Nat) := [(⟨"ArmourOfTheShy", "refuse", "(I)I"⟩, 12), (⟨"ArmourOfTheShy$Letters", "fits", "(II)Z"⟩, 2), (⟨"ArmourOfTheShy", "think", "()V"⟩, 12), (⟨"ArmourOfTheShy$Letters", "digit", "(I)I"⟩, 2), (⟨"ArmourOfTheShy$Letters", "number", "(I)I"⟩, 2), (⟨"ArmourOfTheShy", "anySuit", "(I)I"⟩, 12), (⟨"ArmourOfTheShy", "anyCaller", "(I)I"⟩, 12), (⟨"ArmourOfTheShy", "inSuit", "(I)I"⟩, 12), (⟨"ArmourOfTheShy", "firstToPropose", "()I"⟩, 12), (⟨"ArmourOfTheShy", "allSaidBehind", "(I)I"⟩, 12), (⟨"ArmourOfTheShy$Dresser", "mostOn", "(LArmourOfTheShy$City;II)I"⟩, 2), (⟨"ArmourOfTheShy$Dresser", "mostWith", "(III)I"⟩, 2), (⟨"ArmourOfTheShy$Dresser", "firstBest", "(LArmourOfTheShy$City;II)I"⟩, 2), (⟨"ArmourOfTheShy", "suitsAhead", "(I)I"⟩, 12), (⟨"ArmourOfTheShy", "thinkPair", "(IIII)V"⟩, 12), (⟨"ArmourOfTheShy", "wish", "(II)I"⟩, 12)]
theorem lw_r1 : ∀ q ∈ lw_privs_1, lw_okq q := List.forall_mem_cons.mpr ⟨lw_p0, List.forall_mem_cons.mpr ⟨lw_p1, List.forall_mem_cons.mpr ⟨lw_p2, List.forall_mem_cons.mpr ⟨lw_p3, List.forall_mem_cons.mpr ⟨lw_p4, List.forall_mem_cons.mpr ⟨lw_p5, List.forall_mem_cons.mpr ⟨lw_p6, List.forall_mem_cons.mpr ⟨lw_p7, List.forall_mem_cons.mpr ⟨lw_p8, List.forall_mem_cons.mpr ⟨lw_p9, List.forall_mem_cons.mpr ⟨lw_p10, List.forall_mem_cons.mpr ⟨lw_p11, List.forall_mem_cons.mpr ⟨lw_p12, List.forall_mem_cons.mpr ⟨lw_p13, List.forall_mem_cons.mpr ⟨lw_p14, List.forall_mem_cons.mpr ⟨lw_p15, fun _ h => absurd h List.not_mem_nil⟩⟩⟩⟩⟩⟩⟩⟩⟩⟩⟩⟩⟩⟩⟩⟩
theorem lw_p16 : lw_okq (⟨"ArmourOfTheShy", "saidInRain", "(III)I"⟩, 12) := ⟨⟨by decide +kernel, by decide +kernel⟩, List.mem_of_getElem? (i := 14) (by decide +kernel), List.mem_of_getElem? (i := 577) (by decide +kernel), List.mem_of_getElem? (i := 578) (by decide +kernel)⟩
theorem lw_p17 : lw_okq (⟨"ArmourOfTheShy", "saysTheRow", "(I)Z"⟩, 12) := ⟨⟨by decide +kernel, by decide +kernel⟩, List.mem_of_getElem? (i := 14) (by decide +kernel), List.mem_of_getElem? (i := 603) (by decide +kernel), List.mem_of_getElem? (i := 604) (by decide +kernel)⟩
theorem lw_p18 : lw_okq (⟨"ArmourOfTheShyModel", "no", "(I)I"⟩, 32) := ⟨⟨by decide +kernel, by decide +kernel⟩, List.mem_of_getElem? (i := 642) (by decide +kernel), List.mem_of_getElem? (i := 754) (by decide +kernel), List.mem_of_getElem? (i := 755) (by decide +kernel)⟩
theorem lw_p19 : lw_okq (⟨"ArmourOfTheShyModel", "statement", "()Z"⟩, 32) := ⟨⟨by decide +kernel, by decide +kernel⟩, List.mem_of_getElem? (i := 642) (by decide +kernel), List.mem_of_getElem? (i := 762) (by decide +kernel), List.mem_of_getElem? (i := 763) (by decide +kernel)⟩
theorem lw_p20 : lw_okq (⟨"ArmourOfTheShyModel", "letterNow", "()I"⟩, 32) := ⟨⟨by decide +kernel, by decide +kernel⟩, List.mem_of_getElem? (i := 642) (by decide +kernel), List.mem_of_getElem? (i := 766) (by decide +kernel), List.mem_of_getElem? (i := 767) (by decide +kernel)⟩
theorem lw_p21 : lw_okq (⟨"ArmourOfTheShyModel", "readsAll", "(II)Z"⟩, 32) := ⟨⟨by decide +kernel, by decide +kernel⟩, List.mem_of_getElem? (i := 642) (by decide +kernel), List.mem_of_getElem? (i := 770) (by decide +kernel), List.mem_of_getElem? (i := 771) (by decide +kernel)⟩
theorem lw_p22 : lw_okq (⟨"ArmourOfTheShyModel", "readsSuit", "(I)Z"⟩, 32) := ⟨⟨by decide +kernel, by decide +kernel⟩, List.mem_of_getElem? (i := 642) (by decide +kernel), List.mem_of_getElem? (i := 774) (by decide +kernel), List.mem_of_getElem? (i := 775) (by decide +kernel)⟩
theorem lw_p23 : lw_okq (⟨"ArmourOfTheShyModel", "readsDigits", "(II)Z"⟩, 32) := ⟨⟨by decide +kernel, by decide +kernel⟩, List.mem_of_getElem? (i := 642) (by decide +kernel), List.mem_of_getElem? (i := 781) (by decide +kernel), List.mem_of_getElem? (i := 782) (by decide +kernel)⟩
theorem lw_p24 : lw_okq (⟨"ArmourOfTheShyModel", "passesAll", "(IZ)V"⟩, 32) := ⟨⟨by decide +kernel, by decide +kernel⟩, List.mem_of_getElem? (i := 642) (by decide +kernel), List.mem_of_getElem? (i := 788) (by decide +kernel), List.mem_of_getElem? (i := 789) (by decide +kernel)⟩
theorem lw_p25 : lw_okq (⟨"ArmourOfTheShyModel", "passes", "([I)V"⟩, 32) := ⟨⟨by decide +kernel, by decide +kernel⟩, List.mem_of_getElem? (i := 642) (by decide +kernel), List.mem_of_getElem? (i := 792) (by decide +kernel), List.mem_of_getElem? (i := 793) (by decide +kernel)⟩
theorem lw_p26 : lw_okq (⟨"ArmourOfTheShyModel", "passOne", "(I)I"⟩, 32) := ⟨⟨by decide +kernel, by decide +kernel⟩, List.mem_of_getElem? (i := 642) (by decide +kernel), List.mem_of_getElem? (i := 796) (by decide +kernel), List.mem_of_getElem? (i := 797) (by decide +kernel)⟩
theorem lw_p27 : lw_okq (⟨"ArmourOfTheShyModel", "comes", "(I)Z"⟩, 32) := ⟨⟨by decide +kernel, by decide +kernel⟩, List.mem_of_getElem? (i := 642) (by decide +kernel), List.mem_of_getElem? (i := 800) (by decide +kernel), List.mem_of_getElem? (i := 801) (by decide +kernel)⟩
theorem lw_p28 : lw_okq (⟨"ArmourOfTheShyModel", "comesSuit", "(II)Z"⟩, 32) := ⟨⟨by decide +kernel, by decide +kernel⟩, List.mem_of_getElem? (i := 642) (by decide +kernel), List.mem_of_getElem? (i := 804) (by decide +kernel), List.mem_of_getElem? (i := 805) (by decide +kernel)⟩
theorem lw_p29 : lw_okq (⟨"ArmourOfTheShyModel", "comesCaller", "(I)Z"⟩, 32) := ⟨⟨by decide +kernel, by decide +kernel⟩, List.mem_of_getElem? (i := 642) (by decide +kernel), List.mem_of_getElem? (i := 808) (by decide +kernel), List.mem_of_getElem? (i := 809) (by decide +kernel)⟩
theorem lw_p30 : lw_okq (⟨"ArmourOfTheShyModel", "comesDays", "(I)Z"⟩, 32) := ⟨⟨by decide +kernel, by decide +kernel⟩, List.mem_of_getElem? (i := 642) (by decide +kernel), List.mem_of_getElem? (i := 812) (by decide +kernel), List.mem_of_getElem? (i := 813) (by decide +kernel)⟩
theorem lw_p31 : lw_okq (⟨"ArmourOfTheShyModel", "goes", "(I)V"⟩, 32) := ⟨⟨by decide +kernel, by decide +kernel⟩, List.mem_of_getElem? (i := 642) (by decide +kernel), List.mem_of_getElem? (i := 816) (by decide +kernel), List.mem_of_getElem? (i := 817) (by decide +kernel)⟩
def lw_privs_2 : List (MethodName × Nat) := [(⟨"ArmourOfTheShy", "saidInRain", "(III)I"⟩, 12), (⟨"ArmourOfTheShy", "saysTheRow", "(I)Z"⟩, 12), (⟨"ArmourOfTheShyModel", "no", "(I)I"⟩, 32), (⟨"ArmourOfTheShyModel", "statement", "()Z"⟩, 32), (⟨"ArmourOfTheShyModel", "letterNow", "()I"⟩, 32), (⟨"ArmourOfTheShyModel", "readsAll", "(II)Z"⟩, 32), (⟨"ArmourOfTheShyModel", "readsSuit", "(I)Z"⟩, 32), (⟨"ArmourOfTheShyModel", "readsDigits", "(II)Z"⟩, 32), (⟨"ArmourOfTheShyModel", "passesAll", "(IZ)V"⟩, 32), (⟨"ArmourOfTheShyModel", "passes", "([I)V"⟩, 32), (⟨"ArmourOfTheShyModel", "passOne", "(I)I"⟩, 32), (⟨"ArmourOfTheShyModel", "comes", "(I)Z"⟩, 32), (⟨"ArmourOfTheShyModel", "comesSuit", "(II)Z"⟩, 32), (⟨"ArmourOfTheShyModel", "comesCaller", "(I)Z"⟩, 32), (⟨"ArmourOfTheShyModel", "comesDays", "(I)Z"⟩, 32), (⟨"ArmourOfTheShyModel", "goes", "(I)V"⟩, 32)]
theorem lw_r2 : ∀ q ∈ lw_privs_2, lw_okq q := List.forall_mem_cons.mpr ⟨lw_p16, List.forall_mem_cons.mpr ⟨lw_p17, List.forall_mem_cons.mpr ⟨lw_p18, List.forall_mem_cons.mpr ⟨lw_p19, List.forall_mem_cons.mpr ⟨lw_p20, List.forall_mem_cons.mpr ⟨lw_p21, List.forall_mem_cons.mpr ⟨lw_p22, List.forall_mem_cons.mpr ⟨lw_p23, List.forall_mem_cons.mpr ⟨lw_p24, List.forall_mem_cons.mpr ⟨lw_p25, List.forall_mem_cons.mpr ⟨lw_p26, List.forall_mem_cons.mpr ⟨lw_p27, List.forall_mem_cons.mpr ⟨lw_p28, List.forall_mem_cons.mpr ⟨lw_p29, List.forall_mem_cons.mpr ⟨lw_p30, List.forall_mem_cons.mpr ⟨lw_p31, fun _ h => absurd h List.not_mem_nil⟩⟩⟩⟩⟩⟩⟩⟩⟩⟩⟩⟩⟩⟩⟩⟩
theorem lw_p32 : lw_okq (⟨"ArmourOfTheShyModel", "goesDay", "()V"⟩, 32) := ⟨⟨by decide +kernel, by decide +kernel⟩, List.mem_of_getElem? (i := 642) (by decide +kernel), List.mem_of_getElem? (i := 820) (by decide +kernel), List.mem_of_getElem? (i := 821) (by decide +kernel)⟩
theorem lw_p33 : lw_okq (⟨"ArmourOfTheShyModel", "goesCaller", "(I)V"⟩, 32) := ⟨⟨by decide +kernel, by decide +kernel⟩, List.mem_of_getElem? (i := 642) (by decide +kernel), List.mem_of_getElem? (i := 824) (by decide +kernel), List.mem_of_getElem? (i := 825) (by decide +kernel)⟩
theorem lw_p34 : lw_okq (⟨"ArmourOfTheShyModel", "costs", "(I)I"⟩, 32) := ⟨⟨by decide +kernel, by decide +kernel⟩, List.mem_of_getElem? (i := 642) (by decide +kernel), List.mem_of_getElem? (i := 831) (by decide +kernel), List.mem_of_getElem? (i := 832) (by decide +kernel)⟩
theorem lw_p35 : lw_okq (⟨"ArmourOfTheShyModel", "canSay", "(I)Z"⟩, 32) := ⟨⟨by decide +kernel, by decide +kernel⟩, List.mem_of_getElem? (i := 642) (by decide +kernel), List.mem_of_getElem? (i := 835) (by decide +kernel), List.mem_of_getElem? (i := 836) (by decide +kernel)⟩
theorem lw_p36 : lw_okq (⟨"ArmourOfTheShyModel", "covers", "(I)I"⟩, 32) := ⟨⟨by decide +kernel, by decide +kernel⟩, List.mem_of_getElem? (i := 642) (by decide +kernel), List.mem_of_getElem? (i := 839) (by decide +kernel), List.mem_of_getElem? (i := 840) (by decide +kernel)⟩
theorem lw_p37 : lw_okq (⟨"ArmourOfTheShyModel", "isEnough", "(II)Z"⟩, 32) := ⟨⟨by decide +kernel, by decide +kernel⟩, List.mem_of_getElem? (i := 642) (by decide +kernel), List.mem_of_getElem? (i := 843) (by decide +kernel), List.mem_of_getElem? (i := 844) (by decide +kernel)⟩
theorem lw_p38 : lw_okq (⟨"ArmourOfTheShyModel", "courageIn", "(II)I"⟩, 32) := ⟨⟨by decide +kernel, by decide +kernel⟩, List.mem_of_getElem? (i := 642) (by decide +kernel), List.mem_of_getElem? (i := 847) (by decide +kernel), List.mem_of_getElem? (i := 848) (by decide +kernel)⟩
theorem lw_p39 : lw_okq (⟨"ArmourOfTheShyModel", "chafes", "(II)I"⟩, 32) := ⟨⟨by decide +kernel, by decide +kernel⟩, List.mem_of_getElem? (i := 642) (by decide +kernel), List.mem_of_getElem? (i := 851) (by decide +kernel), List.mem_of_getElem? (i := 852) (by decide +kernel)⟩
theorem lw_p40 : lw_okq (⟨"ArmourOfTheShyModel", "wearerOf", "(I)I"⟩, 32) := ⟨⟨by decide +kernel, by decide +kernel⟩, List.mem_of_getElem? (i := 642) (by decide +kernel), List.mem_of_getElem? (i := 855) (by decide +kernel), List.mem_of_getElem? (i := 856) (by decide +kernel)⟩
theorem lw_p41 : lw_okq (⟨"ArmourOfTheShyModel", "comesOf", "(III)Z"⟩, 32) := ⟨⟨by decide +kernel, by decide +kernel⟩, List.mem_of_getElem? (i := 642) (by decide +kernel), List.mem_of_getElem? (i := 859) (by decide +kernel), List.mem_of_getElem? (i := 860) (by decide +kernel)⟩
theorem lw_p42 : lw_okq (⟨"ArmourOfTheShyModel", "isSuit", "(I)Z"⟩, 32) := ⟨⟨by decide +kernel, by decide +kernel⟩, List.mem_of_getElem? (i := 642) (by decide +kernel), List.mem_of_getElem? (i := 863) (by decide +kernel), List.mem_of_getElem? (i := 864) (by decide +kernel)⟩
theorem lw_p43 : lw_okq (⟨"ArmourOfTheShyModel", "isCaller", "(I)Z"⟩, 32) := ⟨⟨by decide +kernel, by decide +kernel⟩, List.mem_of_getElem? (i := 642) (by decide +kernel), List.mem_of_getElem? (i := 867) (by decide +kernel), List.mem_of_getElem? (i := 868) (by decide +kernel)⟩
theorem lw_p44 : lw_okq (⟨"ArmourOfTheShyModel", "putsOn", "(II)V"⟩, 32) := ⟨⟨by decide +kernel, by decide +kernel⟩, List.mem_of_getElem? (i := 642) (by decide +kernel), List.mem_of_getElem? (i := 871) (by decide +kernel), List.mem_of_getElem? (i := 872) (by decide +kernel)⟩
theorem lw_p45 : lw_okq (⟨"ArmourOfTheShyModel", "lacks", "(I)I"⟩, 32) := ⟨⟨by decide +kernel, by decide +kernel⟩, List.mem_of_getElem? (i := 642) (by decide +kernel), List.mem_of_getElem? (i := 891) (by decide +kernel), List.mem_of_getElem? (i := 892) (by decide +kernel)⟩
theorem lw_p46 : lw_okq (⟨"ArmourOfTheShyModel", "courageOf", "(I)I"⟩, 32) := ⟨⟨by decide +kernel, by decide +kernel⟩, List.mem_of_getElem? (i := 642) (by decide +kernel), List.mem_of_getElem? (i := 895) (by decide +kernel), List.mem_of_getElem? (i := 896) (by decide +kernel)⟩
theorem lw_p47 : lw_okq (⟨"ArmourOfTheShyModel", "lower", "(I)I"⟩, 32) := ⟨⟨by decide +kernel, by decide +kernel⟩, List.mem_of_getElem? (i := 642) (by decide +kernel), List.mem_of_getElem? (i := 903) (by decide +kernel), List.mem_of_getElem? (i := 904) (by decide +kernel)⟩
def lw_privs_3 : List (MethodName × Nat) := [(⟨"ArmourOfTheShyModel", "goesDay", "()V"⟩, 32), (⟨"ArmourOfTheShyModel", "goesCaller", "(I)V"⟩, 32), (⟨"ArmourOfTheShyModel", "costs", "(I)I"⟩, 32), (⟨"ArmourOfTheShyModel", "canSay", "(I)Z"⟩, 32), (⟨"ArmourOfTheShyModel", "covers", "(I)I"⟩, 32), (⟨"ArmourOfTheShyModel", "isEnough", "(II)Z"⟩, 32), (⟨"ArmourOfTheShyModel", "courageIn", "(II)I"⟩, 32), (⟨"ArmourOfTheShyModel", "chafes", "(II)I"⟩, 32), (⟨"ArmourOfTheShyModel", "wearerOf", "(I)I"⟩, 32), (⟨"ArmourOfTheShyModel", "comesOf", "(III)Z"⟩, 32), (⟨"ArmourOfTheShyModel", "isSuit", "(I)Z"⟩, 32), (⟨"ArmourOfTheShyModel", "isCaller", "(I)Z"⟩, 32), (⟨"ArmourOfTheShyModel", "putsOn", "(II)V"⟩, 32), (⟨"ArmourOfTheShyModel", "lacks", "(I)I"⟩, 32), (⟨"ArmourOfTheShyModel", "courageOf", "(I)I"⟩, 32), (⟨"ArmourOfTheShyModel", "lower", "(I)I"⟩, 32)]
theorem lw_r3 : ∀ q ∈ lw_privs_3, lw_okq q := List.forall_mem_cons.mpr ⟨lw_p32, List.forall_mem_cons.mpr ⟨lw_p33, List.forall_mem_cons.mpr ⟨lw_p34, List.forall_mem_cons.mpr ⟨lw_p35, List.forall_mem_cons.mpr ⟨lw_p36, List.forall_mem_cons.mpr ⟨lw_p37, List.forall_mem_cons.mpr ⟨lw_p38, List.forall_mem_cons.mpr ⟨lw_p39, List.forall_mem_cons.mpr ⟨lw_p40, List.forall_mem_cons.mpr ⟨lw_p41, List.forall_mem_cons.mpr ⟨lw_p42, List.forall_mem_cons.mpr ⟨lw_p43, List.forall_mem_cons.mpr ⟨lw_p44, List.forall_mem_cons.mpr ⟨lw_p45, List.forall_mem_cons.mpr ⟨lw_p46, List.forall_mem_cons.mpr ⟨lw_p47, fun _ h => absurd h List.not_mem_nil⟩⟩⟩⟩⟩⟩⟩⟩⟩⟩⟩⟩⟩⟩⟩⟩
theorem lw_p48 : lw_okq (⟨"ArmourOfTheShyModel", "allOf", "([I)I"⟩, 32) := ⟨⟨by decide +kernel, by decide +kernel⟩, List.mem_of_getElem? (i := 642) (by decide +kernel), List.mem_of_getElem? (i := 939) (by decide +kernel), List.mem_of_getElem? (i := 940) (by decide +kernel)⟩
theorem lw_p49 : lw_okq (⟨"ArmourOfTheShyModel", "thinks", "()V"⟩, 32) := ⟨⟨by decide +kernel, by decide +kernel⟩, List.mem_of_getElem? (i := 642) (by decide +kernel), List.mem_of_getElem? (i := 950) (by decide +kernel), List.mem_of_getElem? (i := 951) (by decide +kernel)⟩
theorem lw_p50 : lw_okq (⟨"ArmourOfTheShyModel", "forgets", "()V"⟩, 32) := ⟨⟨by decide +kernel, by decide +kernel⟩, List.mem_of_getElem? (i := 642) (by decide +kernel), List.mem_of_getElem? (i := 954) (by decide +kernel), List.mem_of_getElem? (i := 955) (by decide +kernel)⟩
theorem lw_p51 : lw_okq (⟨"ArmourOfTheShyModel", "firstToPropose", "()I"⟩, 32) := ⟨⟨by decide +kernel, by decide +kernel⟩, List.mem_of_getElem? (i := 642) (by decide +kernel), List.mem_of_getElem? (i := 970) (by decide +kernel), List.mem_of_getElem? (i := 971) (by decide +kernel)⟩
theorem lw_p52 : lw_okq (⟨"ArmourOfTheShyModel", "proposesWhen", "(I)I"⟩, 32) := ⟨⟨by decide +kernel, by decide +kernel⟩, List.mem_of_getElem? (i := 642) (by decide +kernel), List.mem_of_getElem? (i := 974) (by decide +kernel), List.mem_of_getElem? (i := 975) (by decide +kernel)⟩
theorem lw_p53 : lw_okq (⟨"ArmourOfTheShyModel", "saidIn", "(I)I"⟩, 32) := ⟨⟨by decide +kernel, by decide +kernel⟩, List.mem_of_getElem? (i := 642) (by decide +kernel), List.mem_of_getElem? (i := 986) (by decide +kernel), List.mem_of_getElem? (i := 987) (by decide +kernel)⟩
theorem lw_p54 : lw_okq (⟨"ArmourOfTheShyModel", "findDressed", "()V"⟩, 32) := ⟨⟨by decide +kernel, by decide +kernel⟩, List.mem_of_getElem? (i := 642) (by decide +kernel), List.mem_of_getElem? (i := 994) (by decide +kernel), List.mem_of_getElem? (i := 995) (by decide +kernel)⟩
theorem lw_p55 : lw_okq (⟨"ArmourOfTheShyModel", "worthIn", "(II)I"⟩, 32) := ⟨⟨by decide +kernel, by decide +kernel⟩, List.mem_of_getElem? (i := 642) (by decide +kernel), List.mem_of_getElem? (i := 998) (by decide +kernel), List.mem_of_getElem? (i := 999) (by decide +kernel)⟩
theorem lw_p56 : lw_okq (⟨"ArmourOfTheShyModel", "dressedIn", "(II)I"⟩, 32) := ⟨⟨by decide +kernel, by decide +kernel⟩, List.mem_of_getElem? (i := 642) (by decide +kernel), List.mem_of_getElem? (i := 1005) (by decide +kernel), List.mem_of_getElem? (i := 1006) (by decide +kernel)⟩
theorem lw_p57 : lw_okq (⟨"ArmourOfTheShyModel", "findSuit", "(II)V"⟩, 32) := ⟨⟨by decide +kernel, by decide +kernel⟩, List.mem_of_getElem? (i := 642) (by decide +kernel), List.mem_of_getElem? (i := 1013) (by decide +kernel), List.mem_of_getElem? (i := 1014) (by decide +kernel)⟩
theorem lw_p58 : lw_okq (⟨"ArmourOfTheShyModel", "dressedOnes", "()I"⟩, 32) := ⟨⟨by decide +kernel, by decide +kernel⟩, List.mem_of_getElem? (i := 642) (by decide +kernel), List.mem_of_getElem? (i := 1025) (by decide +kernel), List.mem_of_getElem? (i := 1026) (by decide +kernel)⟩
theorem lw_p59 : lw_okq (⟨"ArmourOfTheShyModel", "proposedBy", "(II)I"⟩, 32) := ⟨⟨by decide +kernel, by decide +kernel⟩, List.mem_of_getElem? (i := 642) (by decide +kernel), List.mem_of_getElem? (i := 1029) (by decide +kernel), List.mem_of_getElem? (i := 1030) (by decide +kernel)⟩
theorem lw_p60 : lw_okq (⟨"ArmourOfTheShyModel", "findSpare", "(I)V"⟩, 32) := ⟨⟨by decide +kernel, by decide +kernel⟩, List.mem_of_getElem? (i := 642) (by decide +kernel), List.mem_of_getElem? (i := 1040) (by decide +kernel), List.mem_of_getElem? (i := 1041) (by decide +kernel)⟩
theorem lw_p61 : lw_okq (⟨"ArmourOfTheShyModel", "aheadOf", "(I)I"⟩, 32) := ⟨⟨by decide +kernel, by decide +kernel⟩, List.mem_of_getElem? (i := 642) (by decide +kernel), List.mem_of_getElem? (i := 1060) (by decide +kernel), List.mem_of_getElem? (i := 1061) (by decide +kernel)⟩
theorem lw_p62 : lw_okq (⟨"ArmourOfTheShyModel", "findGets", "(III)V"⟩, 32) := ⟨⟨by decide +kernel, by decide +kernel⟩, List.mem_of_getElem? (i := 642) (by decide +kernel), List.mem_of_getElem? (i := 1076) (by decide +kernel), List.mem_of_getElem? (i := 1077) (by decide +kernel)⟩
theorem lw_p63 : lw_okq (⟨"ArmourOfTheShyModel", "lowestOf", "(I)J"⟩, 32) := ⟨⟨by decide +kernel, by decide +kernel⟩, List.mem_of_getElem? (i := 642) (by decide +kernel), List.mem_of_getElem? (i := 1084) (by decide +kernel), List.mem_of_getElem? (i := 1085) (by decide +kernel)⟩
def lw_privs_4 : List (MethodName × Nat) := [(⟨"ArmourOfTheShyModel", "allOf", "([I)I"⟩, 32), (⟨"ArmourOfTheShyModel", "thinks", "()V"⟩, 32), (⟨"ArmourOfTheShyModel", "forgets", "()V"⟩, 32), (⟨"ArmourOfTheShyModel", "firstToPropose", "()I"⟩, 32), (⟨"ArmourOfTheShyModel", "proposesWhen", "(I)I"⟩, 32), (⟨"ArmourOfTheShyModel", "saidIn", "(I)I"⟩, 32), (⟨"ArmourOfTheShyModel", "findDressed", "()V"⟩, 32), (⟨"ArmourOfTheShyModel", "worthIn", "(II)I"⟩, 32), (⟨"ArmourOfTheShyModel", "dressedIn", "(II)I"⟩, 32), (⟨"ArmourOfTheShyModel", "findSuit", "(II)V"⟩, 32), (⟨"ArmourOfTheShyModel", "dressedOnes", "()I"⟩, 32), (⟨"ArmourOfTheShyModel", "proposedBy", "(II)I"⟩, 32), (⟨"ArmourOfTheShyModel", "findSpare", "(I)V"⟩, 32), (⟨"ArmourOfTheShyModel", "aheadOf", "(I)I"⟩, 32), (⟨"ArmourOfTheShyModel", "findGets", "(III)V"⟩, 32), (⟨"ArmourOfTheShyModel", "lowestOf", "(I)J"⟩, 32)]
theorem lw_r4 : ∀ q ∈ lw_privs_4, lw_okq q := List.forall_mem_cons.mpr ⟨lw_p48, List.forall_mem_cons.mpr ⟨lw_p49, List.forall_mem_cons.mpr ⟨lw_p50, List.forall_mem_cons.mpr ⟨lw_p51, List.forall_mem_cons.mpr ⟨lw_p52, List.forall_mem_cons.mpr ⟨lw_p53, List.forall_mem_cons.mpr ⟨lw_p54, List.forall_mem_cons.mpr ⟨lw_p55, List.forall_mem_cons.mpr ⟨lw_p56, List.forall_mem_cons.mpr ⟨lw_p57, List.forall_mem_cons.mpr ⟨lw_p58, List.forall_mem_cons.mpr ⟨lw_p59, List.forall_mem_cons.mpr ⟨lw_p60, List.forall_mem_cons.mpr ⟨lw_p61, List.forall_mem_cons.mpr ⟨lw_p62, List.forall_mem_cons.mpr ⟨lw_p63, fun _ h => absurd h List.not_mem_nil⟩⟩⟩⟩⟩⟩⟩⟩⟩⟩⟩⟩⟩⟩⟩⟩
theorem lw_p64 : lw_okq (⟨"ArmourOfTheShyModel", "rains", "()V"⟩, 32) := ⟨⟨by decide +kernel, by decide +kernel⟩, List.mem_of_getElem? (i := 642) (by decide +kernel), List.mem_of_getElem? (i := 1089) (by decide +kernel), List.mem_of_getElem? (i := 1090) (by decide +kernel)⟩
theorem lw_p65 : lw_okq (⟨"ArmourOfTheShyModel", "bitsFor", "([IIII)I"⟩, 32) := ⟨⟨by decide +kernel, by decide +kernel⟩, List.mem_of_getElem? (i := 642) (by decide +kernel), List.mem_of_getElem? (i := 1107) (by decide +kernel), List.mem_of_getElem? (i := 1108) (by decide +kernel)⟩
theorem lw_p66 : lw_okq (⟨"ArmourOfTheShyModel", "isSo", "(I)Z"⟩, 32) := ⟨⟨by decide +kernel, by decide +kernel⟩, List.mem_of_getElem? (i := 642) (by decide +kernel), List.mem_of_getElem? (i := 1111) (by decide +kernel), List.mem_of_getElem? (i := 1112) (by decide +kernel)⟩
theorem lw_p67 : lw_okq (⟨"ArmourOfTheShyModel", "draw", "(I)I"⟩, 32) := ⟨⟨by decide +kernel, by decide +kernel⟩, List.mem_of_getElem? (i := 642) (by decide +kernel), List.mem_of_getElem? (i := 1131) (by decide +kernel), List.mem_of_getElem? (i := 1132) (by decide +kernel)⟩
def lw_privs_5 : List (MethodName × Nat) := [(⟨"ArmourOfTheShyModel", "rains", "()V"⟩, 32), (⟨"ArmourOfTheShyModel", "bitsFor", "([IIII)I"⟩, 32), (⟨"ArmourOfTheShyModel", "isSo", "(I)Z"⟩, 32), (⟨"ArmourOfTheShyModel", "draw", "(I)I"⟩, 32)]
theorem lw_r5 : ∀ q ∈ lw_privs_5, lw_okq q := List.forall_mem_cons.mpr ⟨lw_p64, List.forall_mem_cons.mpr ⟨lw_p65, List.forall_mem_cons.mpr ⟨lw_p66, List.forall_mem_cons.mpr ⟨lw_p67, fun _ h => absurd h List.not_mem_nil⟩⟩⟩⟩
def lw_privs : List (MethodName × Nat) := lw_privs_1 ++ (lw_privs_2 ++ (lw_privs_3 ++ (lw_privs_4 ++ (lw_privs_5))))
def lw_tbl : List Cond := k2_sels lw_privs ++ tables_1
theorem lw_privs_ok : ∀ q ∈ lw_privs, lw_okq q := by
  show ∀ q ∈ lw_privs_1 ++ (lw_privs_2 ++ (lw_privs_3 ++ (lw_privs_4 ++ (lw_privs_5)))), lw_okq q
  exact List.forall_mem_append.mpr ⟨lw_r1, List.forall_mem_append.mpr ⟨lw_r2, List.forall_mem_append.mpr ⟨lw_r3, List.forall_mem_append.mpr ⟨lw_r4, lw_r5⟩⟩⟩⟩
-- ===== end of PART A; then your names; then what follows =====
/-! ===== BEGIN words of one list among another's, by their places ===== -/
theorem goodIn_r {big : List Cond} (ws : List Cond) (ps : List Nat) (hp : ws = ps.filterMap (fun i => big[i]?)) (h : ws.all goodWord = true) : GoodIn big ws := by
  intro w hw
  have h1 := List.all_eq_true.mp h w hw
  rw [hp] at hw
  obtain ⟨i, -, hi⟩ := List.mem_filterMap.mp hw
  have hm : w ∈ big := by first | exact List.mem_of_getElem? hi | exact List.getElem?_mem hi
  exact ⟨hm, good_of_word h1⟩
theorem goodIn_app {big a b : List Cond} (ha : GoodIn big a) (hb : GoodIn big b) : GoodIn big (a ++ b) := fun w h => (List.mem_append.mp h).elim (ha w) (hb w)
theorem goodIn_ca {big a b : List Cond} {c : Cond} (ha : GoodIn big (c :: a)) (hb : GoodIn big b) : GoodIn big (c :: (a ++ b)) := fun w h => (List.mem_cons.mp h).elim (fun e => ha w (List.mem_cons.mpr (Or.inl e))) (fun h => (List.mem_append.mp h).elim (fun h => ha w (List.mem_cons.mpr (Or.inr h))) (hb w))
theorem goodIn_sub {big ws : List Cond} (hm : ∀ w ∈ ws, w ∈ big) (h : ws.all goodWord = true) : GoodIn big ws := fun w hw => ⟨hm w hw, good_of_word (List.all_eq_true.mp h w hw)⟩
/-! ===== END ===== -/

/-! ===== BEGIN printed: names, fields, word lists, decode rows ===== -/
def RX0 : String := "ArmourOfTheShy$City"
def TX0 : u_T := fun k => match k with
  | 0 => ("ArmourOfTheShy$City", "kind", "[I", true)
  | 1 => ("ArmourOfTheShy$City", "figure", "[I", true)
  | 2 => ("ArmourOfTheShy$City", "rust", "[I", true)
  | 3 => ("ArmourOfTheShy$City", "fear", "[I", true)
  | 4 => ("ArmourOfTheShy$City", "sore", "[I", true)
  | 5 => ("ArmourOfTheShy$City", "said", "[I", true)
  | 6 => ("ArmourOfTheShy$City", "suitOf", "[I", true)
  | 7 => ("ArmourOfTheShy$City", "suits", "I", false)
  | 8 => ("ArmourOfTheShy$City", "callers", "I", false)
  | 9 => ("ArmourOfTheShy$City", "paid", "I", false)
  | _ => ("ArmourOfTheShy$City", "day", "I", false)
def tyX0 : Nat → FieldType := fun k => match k with
  | 0 => .array .int
  | 1 => .array .int
  | 2 => .array .int
  | 3 => .array .int
  | 4 => .array .int
  | 5 => .array .int
  | 6 => .array .int
  | 7 => .int
  | 8 => .int
  | 9 => .int
  | _ => .int
abbrev wsX00 : List Cond := u_ws RX0 TX0 11
theorem nmX0 : ∀ a, a < 11 → ∀ b, b < 11 → a ≠ b → (TX0 a).2.1 ≠ (TX0 b).2.1 := by decide +kernel
theorem tyX0_ok : ∀ k, k < 11 → parseFieldDescriptor (TX0 k).2.2.1 = some (tyX0 k) := by decide +kernel
abbrev cX0_init : ByteArray := prog_2_method_1_code
def yX0_init : MethodName := ⟨RX0, "<init>", "()V"⟩
abbrev cX0_copyFrom : ByteArray := prog_2_method_2_code
def yX0_copyFrom : MethodName := ⟨RX0, "copyFrom", "(LArmourOfTheShy$City;)V"⟩
abbrev cX0_addSuit : ByteArray := prog_2_method_3_code
def yX0_addSuit : MethodName := ⟨RX0, "addSuit", "(II)Z"⟩
abbrev cX0_addCaller : ByteArray := prog_2_method_4_code
def yX0_addCaller : MethodName := ⟨RX0, "addCaller", "(I)Z"⟩
abbrev cX0_putIn : ByteArray := prog_2_method_5_code
def yX0_putIn : MethodName := ⟨RX0, "putIn", "(II)V"⟩
abbrev cX0_wearer : ByteArray := prog_2_method_6_code
def yX0_wearer : MethodName := ⟨RX0, "wearer", "(I)I"⟩
abbrev cX0_covers : ByteArray := prog_2_method_7_code
def yX0_covers : MethodName := ⟨RX0, "covers", "(I)I"⟩
abbrev cX0_coversWith : ByteArray := prog_2_method_8_code
def yX0_coversWith : MethodName := ⟨RX0, "coversWith", "(II)I"⟩
abbrev cX0_chafe : ByteArray := prog_2_method_9_code
def yX0_chafe : MethodName := ⟨RX0, "chafe", "(II)I"⟩
abbrev cX0_bravery : ByteArray := prog_2_method_10_code
def yX0_bravery : MethodName := ⟨RX0, "bravery", "(I)I"⟩
abbrev cX0_braveryCovered : ByteArray := prog_2_method_11_code
def yX0_braveryCovered : MethodName := ⟨RX0, "braveryCovered", "(II)I"⟩
abbrev cX0_can : ByteArray := prog_2_method_12_code
def yX0_can : MethodName := ⟨RX0, "can", "(I)Z"⟩
abbrev cX0_canCovered : ByteArray := prog_2_method_13_code
def yX0_canCovered : MethodName := ⟨RX0, "canCovered", "(II)Z"⟩
abbrev cX0_needs : ByteArray := prog_2_method_14_code
def yX0_needs : MethodName := ⟨RX0, "needs", "(I)I"⟩
abbrev cX0_lacks : ByteArray := prog_2_method_15_code
def yX0_lacks : MethodName := ⟨RX0, "lacks", "(I)I"⟩
abbrev cX0_passDays : ByteArray := prog_2_method_16_code
def yX0_passDays : MethodName := ⟨RX0, "passDays", "(I)V"⟩
abbrev cX0_passDayOf : ByteArray := prog_2_method_17_code
def yX0_passDayOf : MethodName := ⟨RX0, "passDayOf", "(I)V"⟩
abbrev cX0_liveDay : ByteArray := prog_2_method_18_code
def yX0_liveDay : MethodName := ⟨RX0, "liveDay", "(I)V"⟩
abbrev cX0_rustUnworn : ByteArray := prog_2_method_19_code
def yX0_rustUnworn : MethodName := ⟨RX0, "rustUnworn", "()V"⟩
abbrev cX0_rainOnAll : ByteArray := prog_2_method_20_code
def yX0_rainOnAll : MethodName := ⟨RX0, "rainOnAll", "()V"⟩
abbrev cX0_allSaid : ByteArray := prog_2_method_21_code
def yX0_allSaid : MethodName := ⟨RX0, "allSaid", "()I"⟩
abbrev cX0_allFear : ByteArray := prog_2_method_22_code
def yX0_allFear : MethodName := ⟨RX0, "allFear", "()I"⟩
def RX1 : String := "ArmourOfTheShy$Dresser"
def TX1 : u_T := fun k => match k with
  | 0 => ("ArmourOfTheShy$Dresser", "best", "[I", true)
  | _ => ("ArmourOfTheShy$Dresser", "canIn", "[I", true)
def tyX1 : Nat → FieldType := fun k => match k with
  | 0 => .array .int
  | _ => .array .int
abbrev wsX10 : List Cond := u_ws RX1 TX1 2
theorem nmX1 : ∀ a, a < 2 → ∀ b, b < 2 → a ≠ b → (TX1 a).2.1 ≠ (TX1 b).2.1 := by decide +kernel
theorem tyX1_ok : ∀ k, k < 2 → parseFieldDescriptor (TX1 k).2.2.1 = some (tyX1 k) := by decide +kernel
abbrev cX1_init : ByteArray := prog_3_method_1_code
def yX1_init : MethodName := ⟨RX1, "<init>", "()V"⟩
abbrev cX1_most : ByteArray := prog_3_method_2_code
def yX1_most : MethodName := ⟨RX1, "most", "(LArmourOfTheShy$City;)I"⟩
abbrev cX1_suitFor : ByteArray := prog_3_method_3_code
def yX1_suitFor : MethodName := ⟨RX1, "suitFor", "(LArmourOfTheShy$City;I)I"⟩
abbrev cX1_bitsOfCan : ByteArray := prog_3_method_4_code
def yX1_bitsOfCan : MethodName := ⟨RX1, "bitsOfCan", "(LArmourOfTheShy$City;I)I"⟩
abbrev cX1_mostOn : ByteArray := prog_3_method_5_code
def yX1_mostOn : MethodName := ⟨RX1, "mostOn", "(LArmourOfTheShy$City;II)I"⟩
abbrev cX1_mostWith : ByteArray := prog_3_method_6_code
def yX1_mostWith : MethodName := ⟨RX1, "mostWith", "(III)I"⟩
abbrev cX1_firstBest : ByteArray := prog_3_method_7_code
def yX1_firstBest : MethodName := ⟨RX1, "firstBest", "(LArmourOfTheShy$City;II)I"⟩
def RX2 : String := "ArmourOfTheShy$Letters"
def TX2 : u_T := fun k => match k with
  | 0 => ("ArmourOfTheShy$Letters", "signs", "[C", true)
  | _ => ("ArmourOfTheShy$Letters", "count", "I", false)
def tyX2 : Nat → FieldType := fun k => match k with
  | 0 => .array .char
  | _ => .int
abbrev wsX20 : List Cond := u_ws RX2 TX2 2
theorem nmX2 : ∀ a, a < 2 → ∀ b, b < 2 → a ≠ b → (TX2 a).2.1 ≠ (TX2 b).2.1 := by decide +kernel
theorem tyX2_ok : ∀ k, k < 2 → parseFieldDescriptor (TX2 k).2.2.1 = some (tyX2 k) := by decide +kernel
abbrev cX2_init : ByteArray := prog_4_method_1_code
def yX2_init : MethodName := ⟨RX2, "<init>", "()V"⟩
abbrev cX2_add : ByteArray := prog_4_method_2_code
def yX2_add : MethodName := ⟨RX2, "add", "(I)I"⟩
abbrev cX2_wrongPlace : ByteArray := prog_4_method_3_code
def yX2_wrongPlace : MethodName := ⟨RX2, "wrongPlace", "()I"⟩
abbrev cX2_fits : ByteArray := prog_4_method_4_code
def yX2_fits : MethodName := ⟨RX2, "fits", "(II)Z"⟩
abbrev cX2_signsBehind : ByteArray := prog_4_method_5_code
def yX2_signsBehind : MethodName := ⟨RX2, "signsBehind", "(I)I"⟩
abbrev cX2_lengthAt : ByteArray := prog_4_method_6_code
def yX2_lengthAt : MethodName := ⟨RX2, "lengthAt", "(I)I"⟩
abbrev cX2_takes : ByteArray := prog_4_method_7_code
def yX2_takes : MethodName := ⟨RX2, "takes", "(LArmourOfTheShy$City;I)Z"⟩
abbrev cX2_digit : ByteArray := prog_4_method_8_code
def yX2_digit : MethodName := ⟨RX2, "digit", "(I)I"⟩
abbrev cX2_number : ByteArray := prog_4_method_9_code
def yX2_number : MethodName := ⟨RX2, "number", "(I)I"⟩
abbrev cX2_takesWearing : ByteArray := prog_4_method_10_code
def yX2_takesWearing : MethodName := ⟨RX2, "takesWearing", "(LArmourOfTheShy$City;II)Z"⟩
abbrev cX2_takesUndressing : ByteArray := prog_4_method_11_code
def yX2_takesUndressing : MethodName := ⟨RX2, "takesUndressing", "(LArmourOfTheShy$City;I)Z"⟩
abbrev cX2_takesFear : ByteArray := prog_4_method_12_code
def yX2_takesFear : MethodName := ⟨RX2, "takesFear", "(LArmourOfTheShy$City;II)Z"⟩
abbrev cX2_takesRust : ByteArray := prog_4_method_13_code
def yX2_takesRust : MethodName := ⟨RX2, "takesRust", "(LArmourOfTheShy$City;II)Z"⟩
def RX3 : String := "ArmourOfTheShy"
def TX3 : u_T := fun k => match k with
  | 0 => ("ArmourOfTheShy", "now", "LArmourOfTheShy$City;", true)
  | 1 => ("ArmourOfTheShy", "thought", "LArmourOfTheShy$City;", true)
  | 2 => ("ArmourOfTheShy", "kept", "LArmourOfTheShy$City;", true)
  | 3 => ("ArmourOfTheShy", "isKept", "Z", false)
  | 4 => ("ArmourOfTheShy", "letters", "LArmourOfTheShy$Letters;", true)
  | 5 => ("ArmourOfTheShy", "dresser", "LArmourOfTheShy$Dresser;", true)
  | 6 => ("ArmourOfTheShy", "told", "[I", true)
  | 7 => ("ArmourOfTheShy", "toldCount", "I", false)
  | 8 => ("ArmourOfTheShy", "refusals", "[I", true)
  | 9 => ("ArmourOfTheShy", "totals", "[I", true)
  | 10 => ("ArmourOfTheShy", "firstWish", "[I", true)
  | _ => ("ArmourOfTheShy", "otherWish", "[I", true)
def tyX3 : Nat → FieldType := fun k => match k with
  | 0 => .object "ArmourOfTheShy$City"
  | 1 => .object "ArmourOfTheShy$City"
  | 2 => .object "ArmourOfTheShy$City"
  | 3 => .boolean
  | 4 => .object "ArmourOfTheShy$Letters"
  | 5 => .object "ArmourOfTheShy$Dresser"
  | 6 => .array .int
  | 7 => .int
  | 8 => .array .int
  | 9 => .array .int
  | 10 => .array .int
  | _ => .array .int
abbrev wsX30 : List Cond := u_ws RX3 TX3 12
theorem nmX3 : ∀ a, a < 12 → ∀ b, b < 12 → a ≠ b → (TX3 a).2.1 ≠ (TX3 b).2.1 := by decide +kernel
theorem tyX3_ok : ∀ k, k < 12 → parseFieldDescriptor (TX3 k).2.2.1 = some (tyX3 k) := by decide +kernel
abbrev cX3_init : ByteArray := prog_1_method_1_code
def yX3_init : MethodName := ⟨RX3, "<init>", "()V"⟩
abbrev cX3_letter : ByteArray := prog_1_method_2_code
def yX3_letter : MethodName := ⟨RX3, "letter", "(I)I"⟩
abbrev cX3_city : ByteArray := prog_1_method_3_code
def yX3_city : MethodName := ⟨RX3, "city", "()I"⟩
abbrev cX3_suit : ByteArray := prog_1_method_4_code
def yX3_suit : MethodName := ⟨RX3, "suit", "(II)I"⟩
abbrev cX3_caller : ByteArray := prog_1_method_5_code
def yX3_caller : MethodName := ⟨RX3, "caller", "(II)I"⟩
abbrev cX3_courage : ByteArray := prog_1_method_6_code
def yX3_courage : MethodName := ⟨RX3, "courage", "(I)I"⟩
abbrev cX3_wears : ByteArray := prog_1_method_7_code
def yX3_wears : MethodName := ⟨RX3, "wears", "(II)I"⟩
abbrev cX3_takesOff : ByteArray := prog_1_method_8_code
def yX3_takesOff : MethodName := ⟨RX3, "takesOff", "(I)I"⟩
abbrev cX3_fears : ByteArray := prog_1_method_9_code
def yX3_fears : MethodName := ⟨RX3, "fears", "(II)I"⟩
abbrev cX3_rusts : ByteArray := prog_1_method_10_code
def yX3_rusts : MethodName := ⟨RX3, "rusts", "(II)I"⟩
abbrev cX3_soothes : ByteArray := prog_1_method_11_code
def yX3_soothes : MethodName := ⟨RX3, "soothes", "(II)I"⟩
abbrev cX3_turn : ByteArray := prog_1_method_12_code
def yX3_turn : MethodName := ⟨RX3, "turn", "(III)I"⟩
abbrev cX3_days : ByteArray := prog_1_method_13_code
def yX3_days : MethodName := ⟨RX3, "days", "(I)I"⟩
abbrev cX3_callerThen : ByteArray := prog_1_method_14_code
def yX3_callerThen : MethodName := ⟨RX3, "callerThen", "(III)I"⟩
abbrev cX3_suitThen : ByteArray := prog_1_method_15_code
def yX3_suitThen : MethodName := ⟨RX3, "suitThen", "(II)I"⟩
abbrev cX3_cost : ByteArray := prog_1_method_16_code
def yX3_cost : MethodName := ⟨RX3, "cost", "(I)I"⟩
abbrev cX3_proposes : ByteArray := prog_1_method_17_code
def yX3_proposes : MethodName := ⟨RX3, "proposes", "(I)I"⟩
abbrev cX3_out : ByteArray := prog_1_method_18_code
def yX3_out : MethodName := ⟨RX3, "out", "(I)I"⟩
abbrev cX3_still : ByteArray := prog_1_method_19_code
def yX3_still : MethodName := ⟨RX3, "still", "()I"⟩
abbrev cX3_dress : ByteArray := prog_1_method_20_code
def yX3_dress : MethodName := ⟨RX3, "dress", "(I)I"⟩
abbrev cX3_suitBest : ByteArray := prog_1_method_21_code
def yX3_suitBest : MethodName := ⟨RX3, "suitBest", "(III)I"⟩
abbrev cX3_change : ByteArray := prog_1_method_22_code
def yX3_change : MethodName := ⟨RX3, "change", "(I)I"⟩
abbrev cX3_fewest : ByteArray := prog_1_method_23_code
def yX3_fewest : MethodName := ⟨RX3, "fewest", "(I)I"⟩
abbrev cX3_spare : ByteArray := prog_1_method_24_code
def yX3_spare : MethodName := ⟨RX3, "spare", "(II)I"⟩
abbrev cX3_cheer : ByteArray := prog_1_method_25_code
def yX3_cheer : MethodName := ⟨RX3, "cheer", "(I)I"⟩
abbrev cX3_boldest : ByteArray := prog_1_method_26_code
def yX3_boldest : MethodName := ⟨RX3, "boldest", "(I)I"⟩
abbrev cX3_left : ByteArray := prog_1_method_27_code
def yX3_left : MethodName := ⟨RX3, "left", "()I"⟩
abbrev cX3_order : ByteArray := prog_1_method_28_code
def yX3_order : MethodName := ⟨RX3, "order", "(I)I"⟩
abbrev cX3_heard : ByteArray := prog_1_method_29_code
def yX3_heard : MethodName := ⟨RX3, "heard", "(I)I"⟩
abbrev cX3_rusted : ByteArray := prog_1_method_30_code
def yX3_rusted : MethodName := ⟨RX3, "rusted", "(I)I"⟩
abbrev cX3_two : ByteArray := prog_1_method_31_code
def yX3_two : MethodName := ⟨RX3, "two", "(III)I"⟩
abbrev cX3_rain : ByteArray := prog_1_method_32_code
def yX3_rain : MethodName := ⟨RX3, "rain", "(IIIII)J"⟩
abbrev cX3_mean : ByteArray := prog_1_method_33_code
def yX3_mean : MethodName := ⟨RX3, "mean", "(I)J"⟩
abbrev cX3_whatIs : ByteArray := prog_1_method_34_code
def yX3_whatIs : MethodName := ⟨RX3, "whatIs", "(II)I"⟩
abbrev cX3_row : ByteArray := prog_1_method_35_code
def yX3_row : MethodName := ⟨RX3, "row", "(I)I"⟩
abbrev cX3_judge : ByteArray := prog_1_method_36_code
def yX3_judge : MethodName := ⟨RX3, "judge", "()I"⟩
abbrev cX3_clear : ByteArray := prog_1_method_37_code
def yX3_clear : MethodName := ⟨RX3, "clear", "()I"⟩
abbrev cX3_lots : ByteArray := prog_1_method_38_code
def yX3_lots : MethodName := ⟨RX3, "lots", "(III)I"⟩
abbrev cX3_image : ByteArray := prog_1_method_39_code
def yX3_image : MethodName := ⟨RX3, "image", "()I"⟩
abbrev cX3_on : ByteArray := prog_1_method_40_code
def yX3_on : MethodName := ⟨RX3, "on", "()I"⟩
abbrev cX3_count : ByteArray := prog_1_method_41_code
def yX3_count : MethodName := ⟨RX3, "count", "(I)I"⟩
abbrev cX3_refuse : ByteArray := prog_1_method_42_code
def yX3_refuse : MethodName := ⟨RX3, "refuse", "(I)I"⟩
abbrev cX3_firstOf : ByteArray := prog_1_method_43_code
def yX3_firstOf : MethodName := ⟨RX3, "firstOf", "(III)I"⟩
abbrev cX3_range : ByteArray := prog_1_method_44_code
def yX3_range : MethodName := ⟨RX3, "range", "(III)I"⟩
abbrev cX3_anyOf : ByteArray := prog_1_method_45_code
def yX3_anyOf : MethodName := ⟨RX3, "anyOf", "(II)I"⟩
abbrev cX3_anySuit : ByteArray := prog_1_method_46_code
def yX3_anySuit : MethodName := ⟨RX3, "anySuit", "(I)I"⟩
abbrev cX3_anyCaller : ByteArray := prog_1_method_47_code
def yX3_anyCaller : MethodName := ⟨RX3, "anyCaller", "(I)I"⟩
abbrev cX3_inSuit : ByteArray := prog_1_method_48_code
def yX3_inSuit : MethodName := ⟨RX3, "inSuit", "(I)I"⟩
abbrev cX3_rainRange : ByteArray := prog_1_method_49_code
def yX3_rainRange : MethodName := ⟨RX3, "rainRange", "(III)I"⟩
abbrev cX3_think : ByteArray := prog_1_method_50_code
def yX3_think : MethodName := ⟨RX3, "think", "()V"⟩
abbrev cX3_allSaidBehind : ByteArray := prog_1_method_51_code
def yX3_allSaidBehind : MethodName := ⟨RX3, "allSaidBehind", "(I)I"⟩
abbrev cX3_firstToPropose : ByteArray := prog_1_method_52_code
def yX3_firstToPropose : MethodName := ⟨RX3, "firstToPropose", "()I"⟩
abbrev cX3_suitsAhead : ByteArray := prog_1_method_53_code
def yX3_suitsAhead : MethodName := ⟨RX3, "suitsAhead", "(I)I"⟩
abbrev cX3_thinkPair : ByteArray := prog_1_method_54_code
def yX3_thinkPair : MethodName := ⟨RX3, "thinkPair", "(IIII)V"⟩
abbrev cX3_wish : ByteArray := prog_1_method_55_code
def yX3_wish : MethodName := ⟨RX3, "wish", "(II)I"⟩
abbrev cX3_saidInRain : ByteArray := prog_1_method_56_code
def yX3_saidInRain : MethodName := ⟨RX3, "saidInRain", "(III)I"⟩
abbrev cX3_waysOfRain : ByteArray := prog_1_method_57_code
def yX3_waysOfRain : MethodName := ⟨RX3, "waysOfRain", "(III)J"⟩
abbrev cX3_partOf : ByteArray := prog_1_method_58_code
def yX3_partOf : MethodName := ⟨RX3, "partOf", "(JJI)J"⟩
abbrev cX3_saysTheRow : ByteArray := prog_1_method_59_code
def yX3_saysTheRow : MethodName := ⟨RX3, "saysTheRow", "(I)Z"⟩
def RX4 : String := "ArmourOfTheShyModel"
def TX4 : u_T := fun k => match k with
  | 0 => ("ArmourOfTheShyModel", "refused", "[I", true)
  | 1 => ("ArmourOfTheShyModel", "kind", "[I", true)
  | 2 => ("ArmourOfTheShyModel", "figure", "[I", true)
  | 3 => ("ArmourOfTheShyModel", "rust", "[I", true)
  | 4 => ("ArmourOfTheShyModel", "fear", "[I", true)
  | 5 => ("ArmourOfTheShyModel", "sore", "[I", true)
  | 6 => ("ArmourOfTheShyModel", "said", "[I", true)
  | 7 => ("ArmourOfTheShyModel", "worn", "[I", true)
  | 8 => ("ArmourOfTheShyModel", "suits", "I", false)
  | 9 => ("ArmourOfTheShyModel", "callers", "I", false)
  | 10 => ("ArmourOfTheShyModel", "paid", "I", false)
  | 11 => ("ArmourOfTheShyModel", "day", "I", false)
  | 12 => ("ArmourOfTheShyModel", "tape", "[I", true)
  | 13 => ("ArmourOfTheShyModel", "letter", "[I", true)
  | 14 => ("ArmourOfTheShyModel", "letterAt", "[I", true)
  | 15 => ("ArmourOfTheShyModel", "told", "[I", true)
  | 16 => ("ArmourOfTheShyModel", "taped", "I", false)
  | 17 => ("ArmourOfTheShyModel", "at", "I", false)
  | 18 => ("ArmourOfTheShyModel", "statements", "I", false)
  | 19 => ("ArmourOfTheShyModel", "kept", "[I", true)
  | 20 => ("ArmourOfTheShyModel", "hasImage", "Z", false)
  | 21 => ("ArmourOfTheShyModel", "isKeeping", "Z", false)
  | 22 => ("ArmourOfTheShyModel", "cursor", "I", false)
  | 23 => ("ArmourOfTheShyModel", "dressed", "[[I", true)
  | 24 => ("ArmourOfTheShyModel", "bestSuit", "I", false)
  | 25 => ("ArmourOfTheShyModel", "bestSaid", "I", false)
  | 26 => ("ArmourOfTheShyModel", "spareOne", "I", false)
  | 27 => ("ArmourOfTheShyModel", "spareSaid", "I", false)
  | 28 => ("ArmourOfTheShyModel", "gets", "[I", true)
  | 29 => ("ArmourOfTheShyModel", "row", "[I", true)
  | 30 => ("ArmourOfTheShyModel", "rowMany", "I", false)
  | _ => ("ArmourOfTheShyModel", "lots", "I", false)
def tyX4 : Nat → FieldType := fun k => match k with
  | 0 => .array .int
  | 1 => .array .int
  | 2 => .array .int
  | 3 => .array .int
  | 4 => .array .int
  | 5 => .array .int
  | 6 => .array .int
  | 7 => .array .int
  | 8 => .int
  | 9 => .int
  | 10 => .int
  | 11 => .int
  | 12 => .array .int
  | 13 => .array .int
  | 14 => .array .int
  | 15 => .array .int
  | 16 => .int
  | 17 => .int
  | 18 => .int
  | 19 => .array .int
  | 20 => .boolean
  | 21 => .boolean
  | 22 => .int
  | 23 => .array (.array .int)
  | 24 => .int
  | 25 => .int
  | 26 => .int
  | 27 => .int
  | 28 => .array .int
  | 29 => .array .int
  | 30 => .int
  | _ => .int
abbrev wsX40 : List Cond := u_ws RX4 TX4 32
theorem nmX4 : ∀ a, a < 32 → ∀ b, b < 32 → a ≠ b → (TX4 a).2.1 ≠ (TX4 b).2.1 := by decide +kernel
theorem tyX4_ok : ∀ k, k < 32 → parseFieldDescriptor (TX4 k).2.2.1 = some (tyX4 k) := by decide +kernel
abbrev cX4_init : ByteArray := prog_6_method_1_code
def yX4_init : MethodName := ⟨RX4, "<init>", "()V"⟩
abbrev cX4_no : ByteArray := prog_6_method_2_code
def yX4_no : MethodName := ⟨RX4, "no", "(I)I"⟩
abbrev cX4_lower : ByteArray := prog_6_method_3_code
def yX4_lower : MethodName := ⟨RX4, "lower", "(I)I"⟩
abbrev cX4_lowestOf : ByteArray := prog_6_method_4_code
def yX4_lowestOf : MethodName := ⟨RX4, "lowestOf", "(I)J"⟩
abbrev cX4_isIn : ByteArray := prog_6_method_5_code
def yX4_isIn : MethodName := ⟨RX4, "isIn", "(III)Z"⟩
abbrev cX4_bound : ByteArray := prog_6_method_6_code
def yX4_bound : MethodName := ⟨RX4, "bound", "(III)I"⟩
abbrev cX4_held : ByteArray := prog_6_method_7_code
def yX4_held : MethodName := ⟨RX4, "held", "(II)I"⟩
abbrev cX4_has : ByteArray := prog_6_method_8_code
def yX4_has : MethodName := ⟨RX4, "has", "(II)Z"⟩
abbrev cX4_bits : ByteArray := prog_6_method_9_code
def yX4_bits : MethodName := ⟨RX4, "bits", "(I)I"⟩
abbrev cX4_isSuit : ByteArray := prog_6_method_10_code
def yX4_isSuit : MethodName := ⟨RX4, "isSuit", "(I)Z"⟩
abbrev cX4_isCaller : ByteArray := prog_6_method_11_code
def yX4_isCaller : MethodName := ⟨RX4, "isCaller", "(I)Z"⟩
abbrev cX4_letter : ByteArray := prog_6_method_12_code
def yX4_letter : MethodName := ⟨RX4, "letter", "(I)I"⟩
abbrev cX4_letterNow : ByteArray := prog_6_method_13_code
def yX4_letterNow : MethodName := ⟨RX4, "letterNow", "()I"⟩
abbrev cX4_readsDigits : ByteArray := prog_6_method_14_code
def yX4_readsDigits : MethodName := ⟨RX4, "readsDigits", "(II)Z"⟩
abbrev cX4_kindOf : ByteArray := prog_6_method_15_code
def yX4_kindOf : MethodName := ⟨RX4, "kindOf", "(I)I"⟩
abbrev cX4_readsSuit : ByteArray := prog_6_method_16_code
def yX4_readsSuit : MethodName := ⟨RX4, "readsSuit", "(I)Z"⟩
abbrev cX4_readsAll : ByteArray := prog_6_method_17_code
def yX4_readsAll : MethodName := ⟨RX4, "readsAll", "(II)Z"⟩
abbrev cX4_statement : ByteArray := prog_6_method_18_code
def yX4_statement : MethodName := ⟨RX4, "statement", "()Z"⟩
abbrev cX4_comesSuit : ByteArray := prog_6_method_19_code
def yX4_comesSuit : MethodName := ⟨RX4, "comesSuit", "(II)Z"⟩
abbrev cX4_comesCaller : ByteArray := prog_6_method_20_code
def yX4_comesCaller : MethodName := ⟨RX4, "comesCaller", "(I)Z"⟩
abbrev cX4_comesOf : ByteArray := prog_6_method_21_code
def yX4_comesOf : MethodName := ⟨RX4, "comesOf", "(III)Z"⟩
abbrev cX4_comesDays : ByteArray := prog_6_method_22_code
def yX4_comesDays : MethodName := ⟨RX4, "comesDays", "(I)Z"⟩
abbrev cX4_comes : ByteArray := prog_6_method_23_code
def yX4_comes : MethodName := ⟨RX4, "comes", "(I)Z"⟩
abbrev cX4_city : ByteArray := prog_6_method_24_code
def yX4_city : MethodName := ⟨RX4, "city", "()I"⟩
abbrev cX4_passes : ByteArray := prog_6_method_25_code
def yX4_passes : MethodName := ⟨RX4, "passes", "([I)V"⟩
abbrev cX4_passOne : ByteArray := prog_6_method_26_code
def yX4_passOne : MethodName := ⟨RX4, "passOne", "(I)I"⟩
abbrev cX4_passesAll : ByteArray := prog_6_method_27_code
def yX4_passesAll : MethodName := ⟨RX4, "passesAll", "(IZ)V"⟩
abbrev cX4_thinks : ByteArray := prog_6_method_28_code
def yX4_thinks : MethodName := ⟨RX4, "thinks", "()V"⟩
abbrev cX4_forgets : ByteArray := prog_6_method_29_code
def yX4_forgets : MethodName := ⟨RX4, "forgets", "()V"⟩
abbrev cX4_image : ByteArray := prog_6_method_30_code
def yX4_image : MethodName := ⟨RX4, "image", "()I"⟩
abbrev cX4_on : ByteArray := prog_6_method_31_code
def yX4_on : MethodName := ⟨RX4, "on", "()I"⟩
abbrev cX4_covers : ByteArray := prog_6_method_32_code
def yX4_covers : MethodName := ⟨RX4, "covers", "(I)I"⟩
abbrev cX4_chafes : ByteArray := prog_6_method_33_code
def yX4_chafes : MethodName := ⟨RX4, "chafes", "(II)I"⟩
abbrev cX4_costs : ByteArray := prog_6_method_34_code
def yX4_costs : MethodName := ⟨RX4, "costs", "(I)I"⟩
abbrev cX4_wearerOf : ByteArray := prog_6_method_35_code
def yX4_wearerOf : MethodName := ⟨RX4, "wearerOf", "(I)I"⟩
abbrev cX4_putsOn : ByteArray := prog_6_method_36_code
def yX4_putsOn : MethodName := ⟨RX4, "putsOn", "(II)V"⟩
abbrev cX4_courageIn : ByteArray := prog_6_method_37_code
def yX4_courageIn : MethodName := ⟨RX4, "courageIn", "(II)I"⟩
abbrev cX4_courageOf : ByteArray := prog_6_method_38_code
def yX4_courageOf : MethodName := ⟨RX4, "courageOf", "(I)I"⟩
abbrev cX4_isEnough : ByteArray := prog_6_method_39_code
def yX4_isEnough : MethodName := ⟨RX4, "isEnough", "(II)Z"⟩
abbrev cX4_canSay : ByteArray := prog_6_method_40_code
def yX4_canSay : MethodName := ⟨RX4, "canSay", "(I)Z"⟩
abbrev cX4_lacks : ByteArray := prog_6_method_41_code
def yX4_lacks : MethodName := ⟨RX4, "lacks", "(I)I"⟩
abbrev cX4_goesCaller : ByteArray := prog_6_method_42_code
def yX4_goesCaller : MethodName := ⟨RX4, "goesCaller", "(I)V"⟩
abbrev cX4_goesDay : ByteArray := prog_6_method_43_code
def yX4_goesDay : MethodName := ⟨RX4, "goesDay", "()V"⟩
abbrev cX4_goes : ByteArray := prog_6_method_44_code
def yX4_goes : MethodName := ⟨RX4, "goes", "(I)V"⟩
abbrev cX4_allOf : ByteArray := prog_6_method_45_code
def yX4_allOf : MethodName := ⟨RX4, "allOf", "([I)I"⟩
abbrev cX4_suit : ByteArray := prog_6_method_46_code
def yX4_suit : MethodName := ⟨RX4, "suit", "(II)I"⟩
abbrev cX4_caller : ByteArray := prog_6_method_47_code
def yX4_caller : MethodName := ⟨RX4, "caller", "(II)I"⟩
abbrev cX4_courage : ByteArray := prog_6_method_48_code
def yX4_courage : MethodName := ⟨RX4, "courage", "(I)I"⟩
abbrev cX4_suitOf : ByteArray := prog_6_method_49_code
def yX4_suitOf : MethodName := ⟨RX4, "suitOf", "(I)I"⟩
abbrev cX4_wears : ByteArray := prog_6_method_50_code
def yX4_wears : MethodName := ⟨RX4, "wears", "(II)I"⟩
abbrev cX4_takesOff : ByteArray := prog_6_method_51_code
def yX4_takesOff : MethodName := ⟨RX4, "takesOff", "(I)I"⟩
abbrev cX4_fears : ByteArray := prog_6_method_52_code
def yX4_fears : MethodName := ⟨RX4, "fears", "(II)I"⟩
abbrev cX4_rusts : ByteArray := prog_6_method_53_code
def yX4_rusts : MethodName := ⟨RX4, "rusts", "(II)I"⟩
abbrev cX4_soothes : ByteArray := prog_6_method_54_code
def yX4_soothes : MethodName := ⟨RX4, "soothes", "(II)I"⟩
abbrev cX4_turn : ByteArray := prog_6_method_55_code
def yX4_turn : MethodName := ⟨RX4, "turn", "(III)I"⟩
abbrev cX4_days : ByteArray := prog_6_method_56_code
def yX4_days : MethodName := ⟨RX4, "days", "(I)I"⟩
abbrev cX4_notDays : ByteArray := prog_6_method_57_code
def yX4_notDays : MethodName := ⟨RX4, "notDays", "(I)I"⟩
abbrev cX4_callerThen : ByteArray := prog_6_method_58_code
def yX4_callerThen : MethodName := ⟨RX4, "callerThen", "(III)I"⟩
abbrev cX4_suitThen : ByteArray := prog_6_method_59_code
def yX4_suitThen : MethodName := ⟨RX4, "suitThen", "(II)I"⟩
abbrev cX4_cost : ByteArray := prog_6_method_60_code
def yX4_cost : MethodName := ⟨RX4, "cost", "(I)I"⟩
abbrev cX4_proposesWhen : ByteArray := prog_6_method_61_code
def yX4_proposesWhen : MethodName := ⟨RX4, "proposesWhen", "(I)I"⟩
abbrev cX4_firstToPropose : ByteArray := prog_6_method_62_code
def yX4_firstToPropose : MethodName := ⟨RX4, "firstToPropose", "()I"⟩
abbrev cX4_proposes : ByteArray := prog_6_method_63_code
def yX4_proposes : MethodName := ⟨RX4, "proposes", "(I)I"⟩
abbrev cX4_out : ByteArray := prog_6_method_64_code
def yX4_out : MethodName := ⟨RX4, "out", "(I)I"⟩
abbrev cX4_saidIn : ByteArray := prog_6_method_65_code
def yX4_saidIn : MethodName := ⟨RX4, "saidIn", "(I)I"⟩
abbrev cX4_still : ByteArray := prog_6_method_66_code
def yX4_still : MethodName := ⟨RX4, "still", "()I"⟩
abbrev cX4_worthIn : ByteArray := prog_6_method_67_code
def yX4_worthIn : MethodName := ⟨RX4, "worthIn", "(II)I"⟩
abbrev cX4_findDressed : ByteArray := prog_6_method_68_code
def yX4_findDressed : MethodName := ⟨RX4, "findDressed", "()V"⟩
abbrev cX4_dressedIn : ByteArray := prog_6_method_69_code
def yX4_dressedIn : MethodName := ⟨RX4, "dressedIn", "(II)I"⟩
abbrev cX4_dress : ByteArray := prog_6_method_70_code
def yX4_dress : MethodName := ⟨RX4, "dress", "(I)I"⟩
abbrev cX4_findSuit : ByteArray := prog_6_method_71_code
def yX4_findSuit : MethodName := ⟨RX4, "findSuit", "(II)V"⟩
abbrev cX4_suitBest : ByteArray := prog_6_method_72_code
def yX4_suitBest : MethodName := ⟨RX4, "suitBest", "(III)I"⟩
abbrev cX4_change : ByteArray := prog_6_method_73_code
def yX4_change : MethodName := ⟨RX4, "change", "(I)I"⟩
abbrev cX4_proposedBy : ByteArray := prog_6_method_74_code
def yX4_proposedBy : MethodName := ⟨RX4, "proposedBy", "(II)I"⟩
abbrev cX4_dressedOnes : ByteArray := prog_6_method_75_code
def yX4_dressedOnes : MethodName := ⟨RX4, "dressedOnes", "()I"⟩
abbrev cX4_fewest : ByteArray := prog_6_method_76_code
def yX4_fewest : MethodName := ⟨RX4, "fewest", "(I)I"⟩
abbrev cX4_findSpare : ByteArray := prog_6_method_77_code
def yX4_findSpare : MethodName := ⟨RX4, "findSpare", "(I)V"⟩
abbrev cX4_spare : ByteArray := prog_6_method_78_code
def yX4_spare : MethodName := ⟨RX4, "spare", "(II)I"⟩
abbrev cX4_cheer : ByteArray := prog_6_method_79_code
def yX4_cheer : MethodName := ⟨RX4, "cheer", "(I)I"⟩
abbrev cX4_boldest : ByteArray := prog_6_method_80_code
def yX4_boldest : MethodName := ⟨RX4, "boldest", "(I)I"⟩
abbrev cX4_left : ByteArray := prog_6_method_81_code
def yX4_left : MethodName := ⟨RX4, "left", "()I"⟩
abbrev cX4_aheadOf : ByteArray := prog_6_method_82_code
def yX4_aheadOf : MethodName := ⟨RX4, "aheadOf", "(I)I"⟩
abbrev cX4_order : ByteArray := prog_6_method_83_code
def yX4_order : MethodName := ⟨RX4, "order", "(I)I"⟩
abbrev cX4_heard : ByteArray := prog_6_method_84_code
def yX4_heard : MethodName := ⟨RX4, "heard", "(I)I"⟩
abbrev cX4_rusted : ByteArray := prog_6_method_85_code
def yX4_rusted : MethodName := ⟨RX4, "rusted", "(I)I"⟩
abbrev cX4_findGets : ByteArray := prog_6_method_86_code
def yX4_findGets : MethodName := ⟨RX4, "findGets", "(III)V"⟩
abbrev cX4_two : ByteArray := prog_6_method_87_code
def yX4_two : MethodName := ⟨RX4, "two", "(III)I"⟩
abbrev cX4_divisor : ByteArray := prog_6_method_88_code
def yX4_divisor : MethodName := ⟨RX4, "divisor", "(JJ)J"⟩
abbrev cX4_partOf : ByteArray := prog_6_method_89_code
def yX4_partOf : MethodName := ⟨RX4, "partOf", "(JJI)J"⟩
abbrev cX4_rains : ByteArray := prog_6_method_90_code
def yX4_rains : MethodName := ⟨RX4, "rains", "()V"⟩
abbrev cX4_rain : ByteArray := prog_6_method_91_code
def yX4_rain : MethodName := ⟨RX4, "rain", "(IIIII)J"⟩
abbrev cX4_mean : ByteArray := prog_6_method_92_code
def yX4_mean : MethodName := ⟨RX4, "mean", "(I)J"⟩
abbrev cX4_isSo : ByteArray := prog_6_method_93_code
def yX4_isSo : MethodName := ⟨RX4, "isSo", "(I)Z"⟩
abbrev cX4_bitsFor : ByteArray := prog_6_method_94_code
def yX4_bitsFor : MethodName := ⟨RX4, "bitsFor", "([IIII)I"⟩
abbrev cX4_whatIs : ByteArray := prog_6_method_95_code
def yX4_whatIs : MethodName := ⟨RX4, "whatIs", "(II)I"⟩
abbrev cX4_row : ByteArray := prog_6_method_96_code
def yX4_row : MethodName := ⟨RX4, "row", "(I)I"⟩
abbrev cX4_judge : ByteArray := prog_6_method_97_code
def yX4_judge : MethodName := ⟨RX4, "judge", "()I"⟩
abbrev cX4_clear : ByteArray := prog_6_method_98_code
def yX4_clear : MethodName := ⟨RX4, "clear", "()I"⟩
abbrev cX4_draw : ByteArray := prog_6_method_99_code
def yX4_draw : MethodName := ⟨RX4, "draw", "(I)I"⟩
abbrev cX4_lots : ByteArray := prog_6_method_100_code
def yX4_lots : MethodName := ⟨RX4, "lots", "(III)I"⟩
abbrev cX4_count : ByteArray := prog_6_method_101_code
def yX4_count : MethodName := ⟨RX4, "count", "(I)I"⟩
def RJ11 : String := "java/lang/Character"
def TJ11 : u_T := fun k => match k with
  | _ => ("", "", "", false)
def tyJ11 : Nat → FieldType := fun k => match k with
  | _ => .int
abbrev wsJ110 : List Cond := u_ws RJ11 TJ11 0
theorem nmJ11 : ∀ a, a < 0 → ∀ b, b < 0 → a ≠ b → (TJ11 a).2.1 ≠ (TJ11 b).2.1 := by decide +kernel
theorem tyJ11_ok : ∀ k, k < 0 → parseFieldDescriptor (TJ11 k).2.2.1 = some (tyJ11 k) := by decide +kernel
abbrev cJ11_isValidCodePoint_9a6ad : ByteArray := prog_7_method_11_code
def yJ11_isValidCodePoint_9a6ad : MethodName := ⟨RJ11, "isValidCodePoint", "(I)Z"⟩
abbrev cJ11_highSurrogate_5068e : ByteArray := prog_7_method_28_code
def yJ11_highSurrogate_5068e : MethodName := ⟨RJ11, "highSurrogate", "(I)C"⟩
abbrev cJ11_lowSurrogate_5068e : ByteArray := prog_7_method_29_code
def yJ11_lowSurrogate_5068e : MethodName := ⟨RJ11, "lowSurrogate", "(I)C"⟩
def RJ9 : String := "java/lang/Math"
def TJ9 : u_T := fun k => match k with
  | _ => ("", "", "", false)
def tyJ9 : Nat → FieldType := fun k => match k with
  | _ => .int
abbrev wsJ90 : List Cond := u_ws RJ9 TJ9 0
theorem nmJ9 : ∀ a, a < 0 → ∀ b, b < 0 → a ≠ b → (TJ9 a).2.1 ≠ (TJ9 b).2.1 := by decide +kernel
theorem tyJ9_ok : ∀ k, k < 0 → parseFieldDescriptor (TJ9 k).2.2.1 = some (tyJ9 k) := by decide +kernel
abbrev cJ9_max_7cf53 : ByteArray := prog_8_method_65_code
def yJ9_max_7cf53 : MethodName := ⟨RJ9, "max", "(II)I"⟩
abbrev cJ9_min_7cf53 : ByteArray := prog_8_method_69_code
def yJ9_min_7cf53 : MethodName := ⟨RJ9, "min", "(II)I"⟩
def RJ0 : String := "java/lang/String"
def TJ0 : u_T := fun k => match k with
  | _ => ("", "", "", false)
def tyJ0 : Nat → FieldType := fun k => match k with
  | _ => .int
abbrev wsJ00 : List Cond := u_ws RJ0 TJ0 0
theorem nmJ0 : ∀ a, a < 0 → ∀ b, b < 0 → a ≠ b → (TJ0 a).2.1 ≠ (TJ0 b).2.1 := by decide +kernel
theorem tyJ0_ok : ∀ k, k < 0 → parseFieldDescriptor (TJ0 k).2.2.1 = some (tyJ0 k) := by decide +kernel
abbrev cJ0_length_8abf5 : ByteArray := prog_9_method_54_code
def yJ0_length_8abf5 : MethodName := ⟨RJ0, "length", "()I"⟩
abbrev cJ0_indexOf_0f7a4 : ByteArray := prog_9_method_79_code
def yJ0_indexOf_0f7a4 : MethodName := ⟨RJ0, "indexOf", "(I)I"⟩
abbrev cJ0_indexOf_7cf53 : ByteArray := prog_9_method_80_code
def yJ0_indexOf_7cf53 : MethodName := ⟨RJ0, "indexOf", "(II)I"⟩
abbrev cJ0_coder_7d493 : ByteArray := prog_9_method_152_code
def yJ0_coder_7d493 : MethodName := ⟨RJ0, "coder", "()B"⟩
abbrev cJ0_isLatin1_aae02 : ByteArray := prog_9_method_154_code
def yJ0_isLatin1_aae02 : MethodName := ⟨RJ0, "isLatin1", "()Z"⟩
abbrev cJ0_checkBoundsBeginEnd_23922 : ByteArray := prog_9_method_158_code
def yJ0_checkBoundsBeginEnd_23922 : MethodName := ⟨RJ0, "checkBoundsBeginEnd", "(III)V"⟩
def RJ1 : String := "java/lang/StringLatin1"
def TJ1 : u_T := fun k => match k with
  | _ => ("", "", "", false)
def tyJ1 : Nat → FieldType := fun k => match k with
  | _ => .int
abbrev wsJ10 : List Cond := u_ws RJ1 TJ1 0
theorem nmJ1 : ∀ a, a < 0 → ∀ b, b < 0 → a ≠ b → (TJ1 a).2.1 ≠ (TJ1 b).2.1 := by decide +kernel
theorem tyJ1_ok : ∀ k, k < 0 → parseFieldDescriptor (TJ1 k).2.2.1 = some (tyJ1 k) := by decide +kernel
abbrev cJ1_canEncode_9a6ad : ByteArray := prog_10_method_4_code
def yJ1_canEncode_9a6ad : MethodName := ⟨RJ1, "canEncode", "(I)Z"⟩
abbrev cJ1_indexOf_4cfef : ByteArray := prog_10_method_22_code
def yJ1_indexOf_4cfef : MethodName := ⟨RJ1, "indexOf", "([BIII)I"⟩
abbrev cJ1_indexOfChar_4cfef : ByteArray := prog_10_method_23_code
def yJ1_indexOfChar_4cfef : MethodName := ⟨RJ1, "indexOfChar", "([BIII)I"⟩
def RJ2 : String := "java/lang/StringUTF16"
def TJ2 : u_T := fun k => match k with
  | _ => ("", "", "", false)
def tyJ2 : Nat → FieldType := fun k => match k with
  | _ => .int
abbrev wsJ20 : List Cond := u_ws RJ2 TJ2 0
theorem nmJ2 : ∀ a, a < 0 → ∀ b, b < 0 → a ≠ b → (TJ2 a).2.1 ≠ (TJ2 b).2.1 := by decide +kernel
theorem tyJ2_ok : ∀ k, k < 0 → parseFieldDescriptor (TJ2 k).2.2.1 = some (tyJ2 k) := by decide +kernel
abbrev cJ2_getChar_3b067 : ByteArray := prog_11_method_5_code
def yJ2_getChar_3b067 : MethodName := ⟨RJ2, "getChar", "([BI)C"⟩
abbrev cJ2_length_9d52b : ByteArray := prog_11_method_6_code
def yJ2_length_9d52b : MethodName := ⟨RJ2, "length", "([B)I"⟩
abbrev cJ2_indexOf_4cfef : ByteArray := prog_11_method_40_code
def yJ2_indexOf_4cfef : MethodName := ⟨RJ2, "indexOf", "([BIII)I"⟩
abbrev cJ2_indexOfChar_4cfef : ByteArray := prog_11_method_47_code
def yJ2_indexOfChar_4cfef : MethodName := ⟨RJ2, "indexOfChar", "([BIII)I"⟩
abbrev cJ2_indexOfCharUnsafe_4cfef : ByteArray := prog_11_method_48_code
def yJ2_indexOfCharUnsafe_4cfef : MethodName := ⟨RJ2, "indexOfCharUnsafe", "([BIII)I"⟩
abbrev cJ2_indexOfSupplementary_4cfef : ByteArray := prog_11_method_49_code
def yJ2_indexOfSupplementary_4cfef : MethodName := ⟨RJ2, "indexOfSupplementary", "([BIII)I"⟩
abbrev cJ2_checkBoundsBeginEnd_d044e : ByteArray := prog_11_method_93_code
def yJ2_checkBoundsBeginEnd_d044e : MethodName := ⟨RJ2, "checkBoundsBeginEnd", "(II[B)V"⟩
def RJ10 : String := "java/lang/System"
def TJ10 : u_T := fun k => match k with
  | _ => ("", "", "", false)
def tyJ10 : Nat → FieldType := fun k => match k with
  | _ => .int
abbrev wsJ100 : List Cond := u_ws RJ10 TJ10 0
theorem nmJ10 : ∀ a, a < 0 → ∀ b, b < 0 → a ≠ b → (TJ10 a).2.1 ≠ (TJ10 b).2.1 := by decide +kernel
theorem tyJ10_ok : ∀ k, k < 0 → parseFieldDescriptor (TJ10 k).2.2.1 = some (tyJ10 k) := by decide +kernel
def RJ3 : String := "jdk/internal/util/Preconditions"
def TJ3 : u_T := fun k => match k with
  | _ => ("", "", "", false)
def tyJ3 : Nat → FieldType := fun k => match k with
  | _ => .int
abbrev wsJ30 : List Cond := u_ws RJ3 TJ3 0
theorem nmJ3 : ∀ a, a < 0 → ∀ b, b < 0 → a ≠ b → (TJ3 a).2.1 ≠ (TJ3 b).2.1 := by decide +kernel
theorem tyJ3_ok : ∀ k, k < 0 → parseFieldDescriptor (TJ3 k).2.2.1 = some (tyJ3 k) := by decide +kernel
abbrev cJ3_checkFromToIndex_8c36e : ByteArray := prog_13_method_12_code
def yJ3_checkFromToIndex_8c36e : MethodName := ⟨RJ3, "checkFromToIndex", "(IIILjava/util/function/BiFunction;)I"⟩
def RL : String := "ArmourOfTheShyLaw"
abbrev cL_law : ByteArray := code
def yL_law : MethodName := ⟨RL, "law", "([I)Z"⟩
end
section
theorem dX0_init_0 : decode cX0_init 0 = .ok (.aload_n 0, 1) := by decide +kernel
theorem dX0_init_1 : decode cX0_init 1 = .ok (.invokespecial 3, 3) := by decide +kernel
theorem dX0_init_4 : decode cX0_init 4 = .ok (.aload_n 0, 1) := by decide +kernel
theorem dX0_init_5 : decode cX0_init 5 = .ok (.bipush 6, 2) := by decide +kernel
theorem dX0_init_7 : decode cX0_init 7 = .ok (.newarray .int, 2) := by decide +kernel
theorem dX0_init_9 : decode cX0_init 9 = .ok (.putfield 9, 3) := by decide +kernel
theorem dX0_init_12 : decode cX0_init 12 = .ok (.aload_n 0, 1) := by decide +kernel
theorem dX0_init_13 : decode cX0_init 13 = .ok (.bipush 6, 2) := by decide +kernel
theorem dX0_init_15 : decode cX0_init 15 = .ok (.newarray .int, 2) := by decide +kernel
theorem dX0_init_17 : decode cX0_init 17 = .ok (.putfield 15, 3) := by decide +kernel
theorem dX0_init_20 : decode cX0_init 20 = .ok (.aload_n 0, 1) := by decide +kernel
theorem dX0_init_21 : decode cX0_init 21 = .ok (.bipush 6, 2) := by decide +kernel
theorem dX0_init_23 : decode cX0_init 23 = .ok (.newarray .int, 2) := by decide +kernel
theorem dX0_init_25 : decode cX0_init 25 = .ok (.putfield 18, 3) := by decide +kernel
theorem dX0_init_28 : decode cX0_init 28 = .ok (.aload_n 0, 1) := by decide +kernel
theorem dX0_init_29 : decode cX0_init 29 = .ok (.iconst 5, 1) := by decide +kernel
theorem dX0_init_30 : decode cX0_init 30 = .ok (.newarray .int, 2) := by decide +kernel
theorem dX0_init_32 : decode cX0_init 32 = .ok (.putfield 21, 3) := by decide +kernel
theorem dX0_init_35 : decode cX0_init 35 = .ok (.aload_n 0, 1) := by decide +kernel
theorem dX0_init_36 : decode cX0_init 36 = .ok (.iconst 5, 1) := by decide +kernel
theorem dX0_init_37 : decode cX0_init 37 = .ok (.newarray .int, 2) := by decide +kernel
theorem dX0_init_39 : decode cX0_init 39 = .ok (.putfield 24, 3) := by decide +kernel
theorem dX0_init_42 : decode cX0_init 42 = .ok (.aload_n 0, 1) := by decide +kernel
theorem dX0_init_43 : decode cX0_init 43 = .ok (.iconst 5, 1) := by decide +kernel
theorem dX0_init_44 : decode cX0_init 44 = .ok (.newarray .int, 2) := by decide +kernel
theorem dX0_init_46 : decode cX0_init 46 = .ok (.putfield 27, 3) := by decide +kernel
theorem dX0_init_49 : decode cX0_init 49 = .ok (.aload_n 0, 1) := by decide +kernel
theorem dX0_init_50 : decode cX0_init 50 = .ok (.iconst 5, 1) := by decide +kernel
theorem dX0_init_51 : decode cX0_init 51 = .ok (.newarray .int, 2) := by decide +kernel
theorem dX0_init_53 : decode cX0_init 53 = .ok (.putfield 30, 3) := by decide +kernel
theorem dX0_init_56 : decode cX0_init 56 = .ok (.aload_n 0, 1) := by decide +kernel
theorem dX0_init_57 : decode cX0_init 57 = .ok (.iconst 0, 1) := by decide +kernel
theorem dX0_init_58 : decode cX0_init 58 = .ok (.putfield 33, 3) := by decide +kernel
theorem dX0_init_61 : decode cX0_init 61 = .ok (.aload_n 0, 1) := by decide +kernel
theorem dX0_init_62 : decode cX0_init 62 = .ok (.iconst 0, 1) := by decide +kernel
theorem dX0_init_63 : decode cX0_init 63 = .ok (.putfield 37, 3) := by decide +kernel
theorem dX0_init_66 : decode cX0_init 66 = .ok (.aload_n 0, 1) := by decide +kernel
theorem dX0_init_67 : decode cX0_init 67 = .ok (.iconst 0, 1) := by decide +kernel
theorem dX0_init_68 : decode cX0_init 68 = .ok (.putfield 40, 3) := by decide +kernel
theorem dX0_init_71 : decode cX0_init 71 = .ok (.aload_n 0, 1) := by decide +kernel
theorem dX0_init_72 : decode cX0_init 72 = .ok (.iconst 0, 1) := by decide +kernel
theorem dX0_init_73 : decode cX0_init 73 = .ok (.putfield 43, 3) := by decide +kernel
theorem dX0_init_76 : decode cX0_init 76 = .ok (.return_, 1) := by decide +kernel
theorem dX0_copyFrom_0 : decode cX0_copyFrom 0 = .ok (.aload_n 1, 1) := by decide +kernel
theorem dX0_copyFrom_1 : decode cX0_copyFrom 1 = .ok (.getfield 9, 3) := by decide +kernel
theorem dX0_copyFrom_4 : decode cX0_copyFrom 4 = .ok (.iconst 0, 1) := by decide +kernel
theorem dX0_copyFrom_5 : decode cX0_copyFrom 5 = .ok (.aload_n 0, 1) := by decide +kernel
theorem dX0_copyFrom_6 : decode cX0_copyFrom 6 = .ok (.getfield 9, 3) := by decide +kernel
theorem dX0_copyFrom_9 : decode cX0_copyFrom 9 = .ok (.iconst 0, 1) := by decide +kernel
theorem dX0_copyFrom_10 : decode cX0_copyFrom 10 = .ok (.bipush 6, 2) := by decide +kernel
theorem dX0_copyFrom_12 : decode cX0_copyFrom 12 = .ok (.invokestatic 46, 3) := by decide +kernel
theorem dX0_copyFrom_15 : decode cX0_copyFrom 15 = .ok (.aload_n 1, 1) := by decide +kernel
theorem dX0_copyFrom_16 : decode cX0_copyFrom 16 = .ok (.getfield 15, 3) := by decide +kernel
theorem dX0_copyFrom_19 : decode cX0_copyFrom 19 = .ok (.iconst 0, 1) := by decide +kernel
theorem dX0_copyFrom_20 : decode cX0_copyFrom 20 = .ok (.aload_n 0, 1) := by decide +kernel
theorem dX0_copyFrom_21 : decode cX0_copyFrom 21 = .ok (.getfield 15, 3) := by decide +kernel
theorem dX0_copyFrom_24 : decode cX0_copyFrom 24 = .ok (.iconst 0, 1) := by decide +kernel
theorem dX0_copyFrom_25 : decode cX0_copyFrom 25 = .ok (.bipush 6, 2) := by decide +kernel
theorem dX0_copyFrom_27 : decode cX0_copyFrom 27 = .ok (.invokestatic 46, 3) := by decide +kernel
theorem dX0_copyFrom_30 : decode cX0_copyFrom 30 = .ok (.aload_n 1, 1) := by decide +kernel
theorem dX0_copyFrom_31 : decode cX0_copyFrom 31 = .ok (.getfield 18, 3) := by decide +kernel
theorem dX0_copyFrom_34 : decode cX0_copyFrom 34 = .ok (.iconst 0, 1) := by decide +kernel
theorem dX0_copyFrom_35 : decode cX0_copyFrom 35 = .ok (.aload_n 0, 1) := by decide +kernel
theorem dX0_copyFrom_36 : decode cX0_copyFrom 36 = .ok (.getfield 18, 3) := by decide +kernel
theorem dX0_copyFrom_39 : decode cX0_copyFrom 39 = .ok (.iconst 0, 1) := by decide +kernel
theorem dX0_copyFrom_40 : decode cX0_copyFrom 40 = .ok (.bipush 6, 2) := by decide +kernel
theorem dX0_copyFrom_42 : decode cX0_copyFrom 42 = .ok (.invokestatic 46, 3) := by decide +kernel
theorem dX0_copyFrom_45 : decode cX0_copyFrom 45 = .ok (.aload_n 1, 1) := by decide +kernel
theorem dX0_copyFrom_46 : decode cX0_copyFrom 46 = .ok (.getfield 21, 3) := by decide +kernel
theorem dX0_copyFrom_49 : decode cX0_copyFrom 49 = .ok (.iconst 0, 1) := by decide +kernel
theorem dX0_copyFrom_50 : decode cX0_copyFrom 50 = .ok (.aload_n 0, 1) := by decide +kernel
theorem dX0_copyFrom_51 : decode cX0_copyFrom 51 = .ok (.getfield 21, 3) := by decide +kernel
theorem dX0_copyFrom_54 : decode cX0_copyFrom 54 = .ok (.iconst 0, 1) := by decide +kernel
theorem dX0_copyFrom_55 : decode cX0_copyFrom 55 = .ok (.iconst 5, 1) := by decide +kernel
theorem dX0_copyFrom_56 : decode cX0_copyFrom 56 = .ok (.invokestatic 46, 3) := by decide +kernel
theorem dX0_copyFrom_59 : decode cX0_copyFrom 59 = .ok (.aload_n 1, 1) := by decide +kernel
theorem dX0_copyFrom_60 : decode cX0_copyFrom 60 = .ok (.getfield 24, 3) := by decide +kernel
theorem dX0_copyFrom_63 : decode cX0_copyFrom 63 = .ok (.iconst 0, 1) := by decide +kernel
theorem dX0_copyFrom_64 : decode cX0_copyFrom 64 = .ok (.aload_n 0, 1) := by decide +kernel
theorem dX0_copyFrom_65 : decode cX0_copyFrom 65 = .ok (.getfield 24, 3) := by decide +kernel
theorem dX0_copyFrom_68 : decode cX0_copyFrom 68 = .ok (.iconst 0, 1) := by decide +kernel
theorem dX0_copyFrom_69 : decode cX0_copyFrom 69 = .ok (.iconst 5, 1) := by decide +kernel
theorem dX0_copyFrom_70 : decode cX0_copyFrom 70 = .ok (.invokestatic 46, 3) := by decide +kernel
theorem dX0_copyFrom_73 : decode cX0_copyFrom 73 = .ok (.aload_n 1, 1) := by decide +kernel
theorem dX0_copyFrom_74 : decode cX0_copyFrom 74 = .ok (.getfield 27, 3) := by decide +kernel
theorem dX0_copyFrom_77 : decode cX0_copyFrom 77 = .ok (.iconst 0, 1) := by decide +kernel
theorem dX0_copyFrom_78 : decode cX0_copyFrom 78 = .ok (.aload_n 0, 1) := by decide +kernel
theorem dX0_copyFrom_79 : decode cX0_copyFrom 79 = .ok (.getfield 27, 3) := by decide +kernel
theorem dX0_copyFrom_82 : decode cX0_copyFrom 82 = .ok (.iconst 0, 1) := by decide +kernel
theorem dX0_copyFrom_83 : decode cX0_copyFrom 83 = .ok (.iconst 5, 1) := by decide +kernel
theorem dX0_copyFrom_84 : decode cX0_copyFrom 84 = .ok (.invokestatic 46, 3) := by decide +kernel
theorem dX0_copyFrom_87 : decode cX0_copyFrom 87 = .ok (.aload_n 1, 1) := by decide +kernel
theorem dX0_copyFrom_88 : decode cX0_copyFrom 88 = .ok (.getfield 30, 3) := by decide +kernel
theorem dX0_copyFrom_91 : decode cX0_copyFrom 91 = .ok (.iconst 0, 1) := by decide +kernel
theorem dX0_copyFrom_92 : decode cX0_copyFrom 92 = .ok (.aload_n 0, 1) := by decide +kernel
theorem dX0_copyFrom_93 : decode cX0_copyFrom 93 = .ok (.getfield 30, 3) := by decide +kernel
theorem dX0_copyFrom_96 : decode cX0_copyFrom 96 = .ok (.iconst 0, 1) := by decide +kernel
theorem dX0_copyFrom_97 : decode cX0_copyFrom 97 = .ok (.iconst 5, 1) := by decide +kernel
theorem dX0_copyFrom_98 : decode cX0_copyFrom 98 = .ok (.invokestatic 46, 3) := by decide +kernel
theorem dX0_copyFrom_101 : decode cX0_copyFrom 101 = .ok (.aload_n 0, 1) := by decide +kernel
theorem dX0_copyFrom_102 : decode cX0_copyFrom 102 = .ok (.aload_n 1, 1) := by decide +kernel
theorem dX0_copyFrom_103 : decode cX0_copyFrom 103 = .ok (.getfield 33, 3) := by decide +kernel
theorem dX0_copyFrom_106 : decode cX0_copyFrom 106 = .ok (.putfield 33, 3) := by decide +kernel
theorem dX0_copyFrom_109 : decode cX0_copyFrom 109 = .ok (.aload_n 0, 1) := by decide +kernel
theorem dX0_copyFrom_110 : decode cX0_copyFrom 110 = .ok (.aload_n 1, 1) := by decide +kernel
theorem dX0_copyFrom_111 : decode cX0_copyFrom 111 = .ok (.getfield 37, 3) := by decide +kernel
theorem dX0_copyFrom_114 : decode cX0_copyFrom 114 = .ok (.putfield 37, 3) := by decide +kernel
theorem dX0_copyFrom_117 : decode cX0_copyFrom 117 = .ok (.aload_n 0, 1) := by decide +kernel
theorem dX0_copyFrom_118 : decode cX0_copyFrom 118 = .ok (.aload_n 1, 1) := by decide +kernel
theorem dX0_copyFrom_119 : decode cX0_copyFrom 119 = .ok (.getfield 40, 3) := by decide +kernel
theorem dX0_copyFrom_122 : decode cX0_copyFrom 122 = .ok (.putfield 40, 3) := by decide +kernel
theorem dX0_copyFrom_125 : decode cX0_copyFrom 125 = .ok (.aload_n 0, 1) := by decide +kernel
theorem dX0_copyFrom_126 : decode cX0_copyFrom 126 = .ok (.aload_n 1, 1) := by decide +kernel
theorem dX0_copyFrom_127 : decode cX0_copyFrom 127 = .ok (.getfield 43, 3) := by decide +kernel
theorem dX0_copyFrom_130 : decode cX0_copyFrom 130 = .ok (.putfield 43, 3) := by decide +kernel
theorem dX0_copyFrom_133 : decode cX0_copyFrom 133 = .ok (.return_, 1) := by decide +kernel
theorem dX0_addSuit_0 : decode cX0_addSuit 0 = .ok (.aload_n 0, 1) := by decide +kernel
theorem dX0_addSuit_1 : decode cX0_addSuit 1 = .ok (.getfield 33, 3) := by decide +kernel
theorem dX0_addSuit_4 : decode cX0_addSuit 4 = .ok (.bipush 6, 2) := by decide +kernel
theorem dX0_addSuit_6 : decode cX0_addSuit 6 = .ok (.if_icmp .lt 5, 3) := by decide +kernel
theorem dX0_addSuit_9 : decode cX0_addSuit 9 = .ok (.iconst 0, 1) := by decide +kernel
theorem dX0_addSuit_10 : decode cX0_addSuit 10 = .ok (.ireturn, 1) := by decide +kernel
theorem dX0_addSuit_11 : decode cX0_addSuit 11 = .ok (.aload_n 0, 1) := by decide +kernel
theorem dX0_addSuit_12 : decode cX0_addSuit 12 = .ok (.getfield 9, 3) := by decide +kernel
theorem dX0_addSuit_15 : decode cX0_addSuit 15 = .ok (.aload_n 0, 1) := by decide +kernel
theorem dX0_addSuit_16 : decode cX0_addSuit 16 = .ok (.getfield 33, 3) := by decide +kernel
theorem dX0_addSuit_19 : decode cX0_addSuit 19 = .ok (.iload_n 1, 1) := by decide +kernel
theorem dX0_addSuit_20 : decode cX0_addSuit 20 = .ok (.iastore, 1) := by decide +kernel
theorem dX0_addSuit_21 : decode cX0_addSuit 21 = .ok (.aload_n 0, 1) := by decide +kernel
theorem dX0_addSuit_22 : decode cX0_addSuit 22 = .ok (.getfield 15, 3) := by decide +kernel
theorem dX0_addSuit_25 : decode cX0_addSuit 25 = .ok (.aload_n 0, 1) := by decide +kernel
theorem dX0_addSuit_26 : decode cX0_addSuit 26 = .ok (.getfield 33, 3) := by decide +kernel
theorem dX0_addSuit_29 : decode cX0_addSuit 29 = .ok (.iload_n 2, 1) := by decide +kernel
theorem dX0_addSuit_30 : decode cX0_addSuit 30 = .ok (.iastore, 1) := by decide +kernel
theorem dX0_addSuit_31 : decode cX0_addSuit 31 = .ok (.aload_n 0, 1) := by decide +kernel
theorem dX0_addSuit_32 : decode cX0_addSuit 32 = .ok (.getfield 18, 3) := by decide +kernel
theorem dX0_addSuit_35 : decode cX0_addSuit 35 = .ok (.aload_n 0, 1) := by decide +kernel
theorem dX0_addSuit_36 : decode cX0_addSuit 36 = .ok (.getfield 33, 3) := by decide +kernel
theorem dX0_addSuit_39 : decode cX0_addSuit 39 = .ok (.iconst 0, 1) := by decide +kernel
theorem dX0_addSuit_40 : decode cX0_addSuit 40 = .ok (.iastore, 1) := by decide +kernel
theorem dX0_addSuit_41 : decode cX0_addSuit 41 = .ok (.aload_n 0, 1) := by decide +kernel
theorem dX0_addSuit_42 : decode cX0_addSuit 42 = .ok (.dup, 1) := by decide +kernel
theorem dX0_addSuit_43 : decode cX0_addSuit 43 = .ok (.getfield 33, 3) := by decide +kernel
theorem dX0_addSuit_46 : decode cX0_addSuit 46 = .ok (.iconst 1, 1) := by decide +kernel
theorem dX0_addSuit_47 : decode cX0_addSuit 47 = .ok (.iadd, 1) := by decide +kernel
theorem dX0_addSuit_48 : decode cX0_addSuit 48 = .ok (.putfield 33, 3) := by decide +kernel
theorem dX0_addSuit_51 : decode cX0_addSuit 51 = .ok (.iconst 1, 1) := by decide +kernel
theorem dX0_addSuit_52 : decode cX0_addSuit 52 = .ok (.ireturn, 1) := by decide +kernel
theorem dX0_addCaller_0 : decode cX0_addCaller 0 = .ok (.aload_n 0, 1) := by decide +kernel
theorem dX0_addCaller_1 : decode cX0_addCaller 1 = .ok (.getfield 37, 3) := by decide +kernel
theorem dX0_addCaller_4 : decode cX0_addCaller 4 = .ok (.iconst 5, 1) := by decide +kernel
theorem dX0_addCaller_5 : decode cX0_addCaller 5 = .ok (.if_icmp .ge 9, 3) := by decide +kernel
theorem dX0_addCaller_8 : decode cX0_addCaller 8 = .ok (.iload_n 1, 1) := by decide +kernel
theorem dX0_addCaller_9 : decode cX0_addCaller 9 = .ok (.bipush 20, 2) := by decide +kernel
theorem dX0_addCaller_11 : decode cX0_addCaller 11 = .ok (.if_icmp .le 5, 3) := by decide +kernel
theorem dX0_addCaller_14 : decode cX0_addCaller 14 = .ok (.iconst 0, 1) := by decide +kernel
theorem dX0_addCaller_15 : decode cX0_addCaller 15 = .ok (.ireturn, 1) := by decide +kernel
theorem dX0_addCaller_16 : decode cX0_addCaller 16 = .ok (.aload_n 0, 1) := by decide +kernel
theorem dX0_addCaller_17 : decode cX0_addCaller 17 = .ok (.getfield 21, 3) := by decide +kernel
theorem dX0_addCaller_20 : decode cX0_addCaller 20 = .ok (.aload_n 0, 1) := by decide +kernel
theorem dX0_addCaller_21 : decode cX0_addCaller 21 = .ok (.getfield 37, 3) := by decide +kernel
theorem dX0_addCaller_24 : decode cX0_addCaller 24 = .ok (.iload_n 1, 1) := by decide +kernel
theorem dX0_addCaller_25 : decode cX0_addCaller 25 = .ok (.iastore, 1) := by decide +kernel
theorem dX0_addCaller_26 : decode cX0_addCaller 26 = .ok (.aload_n 0, 1) := by decide +kernel
theorem dX0_addCaller_27 : decode cX0_addCaller 27 = .ok (.getfield 24, 3) := by decide +kernel
theorem dX0_addCaller_30 : decode cX0_addCaller 30 = .ok (.aload_n 0, 1) := by decide +kernel
theorem dX0_addCaller_31 : decode cX0_addCaller 31 = .ok (.getfield 37, 3) := by decide +kernel
theorem dX0_addCaller_34 : decode cX0_addCaller 34 = .ok (.iconst 0, 1) := by decide +kernel
theorem dX0_addCaller_35 : decode cX0_addCaller 35 = .ok (.iastore, 1) := by decide +kernel
theorem dX0_addCaller_36 : decode cX0_addCaller 36 = .ok (.aload_n 0, 1) := by decide +kernel
theorem dX0_addCaller_37 : decode cX0_addCaller 37 = .ok (.getfield 27, 3) := by decide +kernel
theorem dX0_addCaller_40 : decode cX0_addCaller 40 = .ok (.aload_n 0, 1) := by decide +kernel
theorem dX0_addCaller_41 : decode cX0_addCaller 41 = .ok (.getfield 37, 3) := by decide +kernel
theorem dX0_addCaller_44 : decode cX0_addCaller 44 = .ok (.iconst 0, 1) := by decide +kernel
theorem dX0_addCaller_45 : decode cX0_addCaller 45 = .ok (.iastore, 1) := by decide +kernel
theorem dX0_addCaller_46 : decode cX0_addCaller 46 = .ok (.aload_n 0, 1) := by decide +kernel
theorem dX0_addCaller_47 : decode cX0_addCaller 47 = .ok (.getfield 30, 3) := by decide +kernel
theorem dX0_addCaller_50 : decode cX0_addCaller 50 = .ok (.aload_n 0, 1) := by decide +kernel
theorem dX0_addCaller_51 : decode cX0_addCaller 51 = .ok (.getfield 37, 3) := by decide +kernel
theorem dX0_addCaller_54 : decode cX0_addCaller 54 = .ok (.bipush (-9), 2) := by decide +kernel
theorem dX0_addCaller_56 : decode cX0_addCaller 56 = .ok (.iastore, 1) := by decide +kernel
theorem dX0_addCaller_57 : decode cX0_addCaller 57 = .ok (.aload_n 0, 1) := by decide +kernel
theorem dX0_addCaller_58 : decode cX0_addCaller 58 = .ok (.dup, 1) := by decide +kernel
theorem dX0_addCaller_59 : decode cX0_addCaller 59 = .ok (.getfield 37, 3) := by decide +kernel
theorem dX0_addCaller_62 : decode cX0_addCaller 62 = .ok (.iconst 1, 1) := by decide +kernel
theorem dX0_addCaller_63 : decode cX0_addCaller 63 = .ok (.iadd, 1) := by decide +kernel
theorem dX0_addCaller_64 : decode cX0_addCaller 64 = .ok (.putfield 37, 3) := by decide +kernel
theorem dX0_addCaller_67 : decode cX0_addCaller 67 = .ok (.iconst 1, 1) := by decide +kernel
theorem dX0_addCaller_68 : decode cX0_addCaller 68 = .ok (.ireturn, 1) := by decide +kernel
theorem dX0_putIn_0 : decode cX0_putIn 0 = .ok (.aload_n 0, 1) := by decide +kernel
theorem dX0_putIn_1 : decode cX0_putIn 1 = .ok (.iload_n 2, 1) := by decide +kernel
theorem dX0_putIn_2 : decode cX0_putIn 2 = .ok (.invokevirtual 52, 3) := by decide +kernel
theorem dX0_putIn_5 : decode cX0_putIn 5 = .ok (.istore_n 3, 1) := by decide +kernel
theorem dX0_putIn_6 : decode cX0_putIn 6 = .ok (.iload_n 3, 1) := by decide +kernel
theorem dX0_putIn_7 : decode cX0_putIn 7 = .ok (.bipush (-9), 2) := by decide +kernel
theorem dX0_putIn_9 : decode cX0_putIn 9 = .ok (.if_icmp .eq 11, 3) := by decide +kernel
theorem dX0_putIn_12 : decode cX0_putIn 12 = .ok (.aload_n 0, 1) := by decide +kernel
theorem dX0_putIn_13 : decode cX0_putIn 13 = .ok (.getfield 30, 3) := by decide +kernel
theorem dX0_putIn_16 : decode cX0_putIn 16 = .ok (.iload_n 3, 1) := by decide +kernel
theorem dX0_putIn_17 : decode cX0_putIn 17 = .ok (.bipush (-9), 2) := by decide +kernel
theorem dX0_putIn_19 : decode cX0_putIn 19 = .ok (.iastore, 1) := by decide +kernel
theorem dX0_putIn_20 : decode cX0_putIn 20 = .ok (.aload_n 0, 1) := by decide +kernel
theorem dX0_putIn_21 : decode cX0_putIn 21 = .ok (.getfield 30, 3) := by decide +kernel
theorem dX0_putIn_24 : decode cX0_putIn 24 = .ok (.iload_n 1, 1) := by decide +kernel
theorem dX0_putIn_25 : decode cX0_putIn 25 = .ok (.iload_n 2, 1) := by decide +kernel
theorem dX0_putIn_26 : decode cX0_putIn 26 = .ok (.iastore, 1) := by decide +kernel
theorem dX0_putIn_27 : decode cX0_putIn 27 = .ok (.return_, 1) := by decide +kernel
theorem dX0_wearer_0 : decode cX0_wearer 0 = .ok (.iconst 0, 1) := by decide +kernel
theorem dX0_wearer_1 : decode cX0_wearer 1 = .ok (.istore_n 2, 1) := by decide +kernel
theorem dX0_wearer_2 : decode cX0_wearer 2 = .ok (.iload_n 2, 1) := by decide +kernel
theorem dX0_wearer_3 : decode cX0_wearer 3 = .ok (.aload_n 0, 1) := by decide +kernel
theorem dX0_wearer_4 : decode cX0_wearer 4 = .ok (.getfield 37, 3) := by decide +kernel
theorem dX0_wearer_7 : decode cX0_wearer 7 = .ok (.if_icmp .ge 21, 3) := by decide +kernel
theorem dX0_wearer_10 : decode cX0_wearer 10 = .ok (.aload_n 0, 1) := by decide +kernel
theorem dX0_wearer_11 : decode cX0_wearer 11 = .ok (.getfield 30, 3) := by decide +kernel
theorem dX0_wearer_14 : decode cX0_wearer 14 = .ok (.iload_n 2, 1) := by decide +kernel
theorem dX0_wearer_15 : decode cX0_wearer 15 = .ok (.iaload, 1) := by decide +kernel
theorem dX0_wearer_16 : decode cX0_wearer 16 = .ok (.iload_n 1, 1) := by decide +kernel
theorem dX0_wearer_17 : decode cX0_wearer 17 = .ok (.if_icmp .ne 5, 3) := by decide +kernel
theorem dX0_wearer_20 : decode cX0_wearer 20 = .ok (.iload_n 2, 1) := by decide +kernel
theorem dX0_wearer_21 : decode cX0_wearer 21 = .ok (.ireturn, 1) := by decide +kernel
theorem dX0_wearer_22 : decode cX0_wearer 22 = .ok (.iinc 2 1, 3) := by decide +kernel
theorem dX0_wearer_25 : decode cX0_wearer 25 = .ok (.goto (-23), 3) := by decide +kernel
theorem dX0_wearer_28 : decode cX0_wearer 28 = .ok (.bipush (-9), 2) := by decide +kernel
theorem dX0_wearer_30 : decode cX0_wearer 30 = .ok (.ireturn, 1) := by decide +kernel
theorem dX0_covers_0 : decode cX0_covers 0 = .ok (.aload_n 0, 1) := by decide +kernel
theorem dX0_covers_1 : decode cX0_covers 1 = .ok (.iload_n 1, 1) := by decide +kernel
theorem dX0_covers_2 : decode cX0_covers 2 = .ok (.aload_n 0, 1) := by decide +kernel
theorem dX0_covers_3 : decode cX0_covers 3 = .ok (.getfield 18, 3) := by decide +kernel
theorem dX0_covers_6 : decode cX0_covers 6 = .ok (.iload_n 1, 1) := by decide +kernel
theorem dX0_covers_7 : decode cX0_covers 7 = .ok (.iaload, 1) := by decide +kernel
theorem dX0_covers_8 : decode cX0_covers 8 = .ok (.invokevirtual 56, 3) := by decide +kernel
theorem dX0_covers_11 : decode cX0_covers 11 = .ok (.ireturn, 1) := by decide +kernel
theorem dX0_coversWith_0 : decode cX0_coversWith 0 = .ok (.aload_n 0, 1) := by decide +kernel
theorem dX0_coversWith_1 : decode cX0_coversWith 1 = .ok (.getfield 15, 3) := by decide +kernel
theorem dX0_coversWith_4 : decode cX0_coversWith 4 = .ok (.iload_n 1, 1) := by decide +kernel
theorem dX0_coversWith_5 : decode cX0_coversWith 5 = .ok (.iaload, 1) := by decide +kernel
theorem dX0_coversWith_6 : decode cX0_coversWith 6 = .ok (.iconst 4, 1) := by decide +kernel
theorem dX0_coversWith_7 : decode cX0_coversWith 7 = .ok (.iadd, 1) := by decide +kernel
theorem dX0_coversWith_8 : decode cX0_coversWith 8 = .ok (.iload_n 2, 1) := by decide +kernel
theorem dX0_coversWith_9 : decode cX0_coversWith 9 = .ok (.isub, 1) := by decide +kernel
theorem dX0_coversWith_10 : decode cX0_coversWith 10 = .ok (.istore_n 3, 1) := by decide +kernel
theorem dX0_coversWith_11 : decode cX0_coversWith 11 = .ok (.iload_n 3, 1) := by decide +kernel
theorem dX0_coversWith_12 : decode cX0_coversWith 12 = .ok (.ifCond .ge 5, 3) := by decide +kernel
theorem dX0_coversWith_15 : decode cX0_coversWith 15 = .ok (.iconst 0, 1) := by decide +kernel
theorem dX0_coversWith_16 : decode cX0_coversWith 16 = .ok (.istore_n 3, 1) := by decide +kernel
theorem dX0_coversWith_17 : decode cX0_coversWith 17 = .ok (.iload_n 3, 1) := by decide +kernel
theorem dX0_coversWith_18 : decode cX0_coversWith 18 = .ok (.getstatic 60, 3) := by decide +kernel
theorem dX0_coversWith_21 : decode cX0_coversWith 21 = .ok (.aload_n 0, 1) := by decide +kernel
theorem dX0_coversWith_22 : decode cX0_coversWith 22 = .ok (.getfield 9, 3) := by decide +kernel
theorem dX0_coversWith_25 : decode cX0_coversWith 25 = .ok (.iload_n 1, 1) := by decide +kernel
theorem dX0_coversWith_26 : decode cX0_coversWith 26 = .ok (.iaload, 1) := by decide +kernel
theorem dX0_coversWith_27 : decode cX0_coversWith 27 = .ok (.iaload, 1) := by decide +kernel
theorem dX0_coversWith_28 : decode cX0_coversWith 28 = .ok (.imul, 1) := by decide +kernel
theorem dX0_coversWith_29 : decode cX0_coversWith 29 = .ok (.iconst 2, 1) := by decide +kernel
theorem dX0_coversWith_30 : decode cX0_coversWith 30 = .ok (.idiv, 1) := by decide +kernel
theorem dX0_coversWith_31 : decode cX0_coversWith 31 = .ok (.getstatic 63, 3) := by decide +kernel
theorem dX0_coversWith_34 : decode cX0_coversWith 34 = .ok (.aload_n 0, 1) := by decide +kernel
theorem dX0_coversWith_35 : decode cX0_coversWith 35 = .ok (.getfield 9, 3) := by decide +kernel
theorem dX0_coversWith_38 : decode cX0_coversWith 38 = .ok (.iload_n 1, 1) := by decide +kernel
theorem dX0_coversWith_39 : decode cX0_coversWith 39 = .ok (.iaload, 1) := by decide +kernel
theorem dX0_coversWith_40 : decode cX0_coversWith 40 = .ok (.iaload, 1) := by decide +kernel
theorem dX0_coversWith_41 : decode cX0_coversWith 41 = .ok (.iadd, 1) := by decide +kernel
theorem dX0_coversWith_42 : decode cX0_coversWith 42 = .ok (.istore 4, 2) := by decide +kernel
theorem dX0_coversWith_44 : decode cX0_coversWith 44 = .ok (.iload 4, 2) := by decide +kernel
theorem dX0_coversWith_46 : decode cX0_coversWith 46 = .ok (.ifCond .ge 7, 3) := by decide +kernel
theorem dX0_coversWith_49 : decode cX0_coversWith 49 = .ok (.iconst 0, 1) := by decide +kernel
theorem dX0_coversWith_50 : decode cX0_coversWith 50 = .ok (.goto 5, 3) := by decide +kernel
theorem dX0_coversWith_53 : decode cX0_coversWith 53 = .ok (.iload 4, 2) := by decide +kernel
theorem dX0_coversWith_55 : decode cX0_coversWith 55 = .ok (.ireturn, 1) := by decide +kernel
theorem dX0_chafe_0 : decode cX0_chafe 0 = .ok (.getstatic 66, 3) := by decide +kernel
theorem dX0_chafe_3 : decode cX0_chafe 3 = .ok (.aload_n 0, 1) := by decide +kernel
theorem dX0_chafe_4 : decode cX0_chafe 4 = .ok (.getfield 9, 3) := by decide +kernel
theorem dX0_chafe_7 : decode cX0_chafe 7 = .ok (.iload_n 1, 1) := by decide +kernel
theorem dX0_chafe_8 : decode cX0_chafe 8 = .ok (.iaload, 1) := by decide +kernel
theorem dX0_chafe_9 : decode cX0_chafe 9 = .ok (.iaload, 1) := by decide +kernel
theorem dX0_chafe_10 : decode cX0_chafe 10 = .ok (.istore_n 3, 1) := by decide +kernel
theorem dX0_chafe_11 : decode cX0_chafe 11 = .ok (.aload_n 0, 1) := by decide +kernel
theorem dX0_chafe_12 : decode cX0_chafe 12 = .ok (.getfield 9, 3) := by decide +kernel
theorem dX0_chafe_15 : decode cX0_chafe 15 = .ok (.iload_n 1, 1) := by decide +kernel
theorem dX0_chafe_16 : decode cX0_chafe 16 = .ok (.iaload, 1) := by decide +kernel
theorem dX0_chafe_17 : decode cX0_chafe 17 = .ok (.iconst 4, 1) := by decide +kernel
theorem dX0_chafe_18 : decode cX0_chafe 18 = .ok (.if_icmp .ne 14, 3) := by decide +kernel
theorem dX0_chafe_21 : decode cX0_chafe 21 = .ok (.iload_n 3, 1) := by decide +kernel
theorem dX0_chafe_22 : decode cX0_chafe 22 = .ok (.aload_n 0, 1) := by decide +kernel
theorem dX0_chafe_23 : decode cX0_chafe 23 = .ok (.getfield 18, 3) := by decide +kernel
theorem dX0_chafe_26 : decode cX0_chafe 26 = .ok (.iload_n 1, 1) := by decide +kernel
theorem dX0_chafe_27 : decode cX0_chafe 27 = .ok (.iaload, 1) := by decide +kernel
theorem dX0_chafe_28 : decode cX0_chafe 28 = .ok (.iconst 3, 1) := by decide +kernel
theorem dX0_chafe_29 : decode cX0_chafe 29 = .ok (.idiv, 1) := by decide +kernel
theorem dX0_chafe_30 : decode cX0_chafe 30 = .ok (.iadd, 1) := by decide +kernel
theorem dX0_chafe_31 : decode cX0_chafe 31 = .ok (.ireturn, 1) := by decide +kernel
theorem dX0_chafe_32 : decode cX0_chafe 32 = .ok (.aload_n 0, 1) := by decide +kernel
theorem dX0_chafe_33 : decode cX0_chafe 33 = .ok (.getfield 9, 3) := by decide +kernel
theorem dX0_chafe_36 : decode cX0_chafe 36 = .ok (.iload_n 1, 1) := by decide +kernel
theorem dX0_chafe_37 : decode cX0_chafe 37 = .ok (.iaload, 1) := by decide +kernel
theorem dX0_chafe_38 : decode cX0_chafe 38 = .ok (.iconst 5, 1) := by decide +kernel
theorem dX0_chafe_39 : decode cX0_chafe 39 = .ok (.if_icmp .ne 11, 3) := by decide +kernel
theorem dX0_chafe_42 : decode cX0_chafe 42 = .ok (.iload_n 3, 1) := by decide +kernel
theorem dX0_chafe_43 : decode cX0_chafe 43 = .ok (.iload_n 2, 1) := by decide +kernel
theorem dX0_chafe_44 : decode cX0_chafe 44 = .ok (.iconst 2, 1) := by decide +kernel
theorem dX0_chafe_45 : decode cX0_chafe 45 = .ok (.irem, 1) := by decide +kernel
theorem dX0_chafe_46 : decode cX0_chafe 46 = .ok (.iadd, 1) := by decide +kernel
theorem dX0_chafe_47 : decode cX0_chafe 47 = .ok (.goto 4, 3) := by decide +kernel
theorem dX0_chafe_50 : decode cX0_chafe 50 = .ok (.iload_n 3, 1) := by decide +kernel
theorem dX0_chafe_51 : decode cX0_chafe 51 = .ok (.ireturn, 1) := by decide +kernel
theorem dX0_bravery_0 : decode cX0_bravery 0 = .ok (.aload_n 0, 1) := by decide +kernel
theorem dX0_bravery_1 : decode cX0_bravery 1 = .ok (.getfield 30, 3) := by decide +kernel
theorem dX0_bravery_4 : decode cX0_bravery 4 = .ok (.iload_n 1, 1) := by decide +kernel
theorem dX0_bravery_5 : decode cX0_bravery 5 = .ok (.iaload, 1) := by decide +kernel
theorem dX0_bravery_6 : decode cX0_bravery 6 = .ok (.istore_n 2, 1) := by decide +kernel
theorem dX0_bravery_7 : decode cX0_bravery 7 = .ok (.aload_n 0, 1) := by decide +kernel
theorem dX0_bravery_8 : decode cX0_bravery 8 = .ok (.iload_n 1, 1) := by decide +kernel
theorem dX0_bravery_9 : decode cX0_bravery 9 = .ok (.iload_n 2, 1) := by decide +kernel
theorem dX0_bravery_10 : decode cX0_bravery 10 = .ok (.bipush (-9), 2) := by decide +kernel
theorem dX0_bravery_12 : decode cX0_bravery 12 = .ok (.if_icmp .ne 7, 3) := by decide +kernel
theorem dX0_bravery_15 : decode cX0_bravery 15 = .ok (.iconst 0, 1) := by decide +kernel
theorem dX0_bravery_16 : decode cX0_bravery 16 = .ok (.goto 14, 3) := by decide +kernel
theorem dX0_bravery_19 : decode cX0_bravery 19 = .ok (.aload_n 0, 1) := by decide +kernel
theorem dX0_bravery_20 : decode cX0_bravery 20 = .ok (.iload_n 2, 1) := by decide +kernel
theorem dX0_bravery_21 : decode cX0_bravery 21 = .ok (.aload_n 0, 1) := by decide +kernel
theorem dX0_bravery_22 : decode cX0_bravery 22 = .ok (.getfield 18, 3) := by decide +kernel
theorem dX0_bravery_25 : decode cX0_bravery 25 = .ok (.iload_n 2, 1) := by decide +kernel
theorem dX0_bravery_26 : decode cX0_bravery 26 = .ok (.iaload, 1) := by decide +kernel
theorem dX0_bravery_27 : decode cX0_bravery 27 = .ok (.invokevirtual 56, 3) := by decide +kernel
theorem dX0_bravery_30 : decode cX0_bravery 30 = .ok (.invokevirtual 69, 3) := by decide +kernel
theorem dX0_bravery_33 : decode cX0_bravery 33 = .ok (.ireturn, 1) := by decide +kernel
theorem dX0_braveryCovered_0 : decode cX0_braveryCovered 0 = .ok (.iload_n 2, 1) := by decide +kernel
theorem dX0_braveryCovered_1 : decode cX0_braveryCovered 1 = .ok (.aload_n 0, 1) := by decide +kernel
theorem dX0_braveryCovered_2 : decode cX0_braveryCovered 2 = .ok (.getfield 27, 3) := by decide +kernel
theorem dX0_braveryCovered_5 : decode cX0_braveryCovered 5 = .ok (.iload_n 1, 1) := by decide +kernel
theorem dX0_braveryCovered_6 : decode cX0_braveryCovered 6 = .ok (.iaload, 1) := by decide +kernel
theorem dX0_braveryCovered_7 : decode cX0_braveryCovered 7 = .ok (.iadd, 1) := by decide +kernel
theorem dX0_braveryCovered_8 : decode cX0_braveryCovered 8 = .ok (.aload_n 0, 1) := by decide +kernel
theorem dX0_braveryCovered_9 : decode cX0_braveryCovered 9 = .ok (.getfield 21, 3) := by decide +kernel
theorem dX0_braveryCovered_12 : decode cX0_braveryCovered 12 = .ok (.iload_n 1, 1) := by decide +kernel
theorem dX0_braveryCovered_13 : decode cX0_braveryCovered 13 = .ok (.iaload, 1) := by decide +kernel
theorem dX0_braveryCovered_14 : decode cX0_braveryCovered 14 = .ok (.isub, 1) := by decide +kernel
theorem dX0_braveryCovered_15 : decode cX0_braveryCovered 15 = .ok (.aload_n 0, 1) := by decide +kernel
theorem dX0_braveryCovered_16 : decode cX0_braveryCovered 16 = .ok (.getfield 24, 3) := by decide +kernel
theorem dX0_braveryCovered_19 : decode cX0_braveryCovered 19 = .ok (.iload_n 1, 1) := by decide +kernel
theorem dX0_braveryCovered_20 : decode cX0_braveryCovered 20 = .ok (.iaload, 1) := by decide +kernel
theorem dX0_braveryCovered_21 : decode cX0_braveryCovered 21 = .ok (.iconst 3, 1) := by decide +kernel
theorem dX0_braveryCovered_22 : decode cX0_braveryCovered 22 = .ok (.idiv, 1) := by decide +kernel
theorem dX0_braveryCovered_23 : decode cX0_braveryCovered 23 = .ok (.isub, 1) := by decide +kernel
theorem dX0_braveryCovered_24 : decode cX0_braveryCovered 24 = .ok (.ireturn, 1) := by decide +kernel
theorem dX0_can_0 : decode cX0_can 0 = .ok (.aload_n 0, 1) := by decide +kernel
theorem dX0_can_1 : decode cX0_can 1 = .ok (.getfield 27, 3) := by decide +kernel
theorem dX0_can_4 : decode cX0_can 4 = .ok (.iload_n 1, 1) := by decide +kernel
theorem dX0_can_5 : decode cX0_can 5 = .ok (.iaload, 1) := by decide +kernel
theorem dX0_can_6 : decode cX0_can 6 = .ok (.bipush 6, 2) := by decide +kernel
theorem dX0_can_8 : decode cX0_can 8 = .ok (.if_icmp .ge 20, 3) := by decide +kernel
theorem dX0_can_11 : decode cX0_can 11 = .ok (.aload_n 0, 1) := by decide +kernel
theorem dX0_can_12 : decode cX0_can 12 = .ok (.iload_n 1, 1) := by decide +kernel
theorem dX0_can_13 : decode cX0_can 13 = .ok (.invokevirtual 72, 3) := by decide +kernel
theorem dX0_can_16 : decode cX0_can 16 = .ok (.aload_n 0, 1) := by decide +kernel
theorem dX0_can_17 : decode cX0_can 17 = .ok (.iload_n 1, 1) := by decide +kernel
theorem dX0_can_18 : decode cX0_can 18 = .ok (.invokevirtual 75, 3) := by decide +kernel
theorem dX0_can_21 : decode cX0_can 21 = .ok (.if_icmp .lt 7, 3) := by decide +kernel
theorem dX0_can_24 : decode cX0_can 24 = .ok (.iconst 1, 1) := by decide +kernel
theorem dX0_can_25 : decode cX0_can 25 = .ok (.goto 4, 3) := by decide +kernel
theorem dX0_can_28 : decode cX0_can 28 = .ok (.iconst 0, 1) := by decide +kernel
theorem dX0_can_29 : decode cX0_can 29 = .ok (.ireturn, 1) := by decide +kernel
theorem dX0_canCovered_0 : decode cX0_canCovered 0 = .ok (.aload_n 0, 1) := by decide +kernel
theorem dX0_canCovered_1 : decode cX0_canCovered 1 = .ok (.getfield 27, 3) := by decide +kernel
theorem dX0_canCovered_4 : decode cX0_canCovered 4 = .ok (.iload_n 1, 1) := by decide +kernel
theorem dX0_canCovered_5 : decode cX0_canCovered 5 = .ok (.iaload, 1) := by decide +kernel
theorem dX0_canCovered_6 : decode cX0_canCovered 6 = .ok (.bipush 6, 2) := by decide +kernel
theorem dX0_canCovered_8 : decode cX0_canCovered 8 = .ok (.if_icmp .ge 21, 3) := by decide +kernel
theorem dX0_canCovered_11 : decode cX0_canCovered 11 = .ok (.aload_n 0, 1) := by decide +kernel
theorem dX0_canCovered_12 : decode cX0_canCovered 12 = .ok (.iload_n 1, 1) := by decide +kernel
theorem dX0_canCovered_13 : decode cX0_canCovered 13 = .ok (.iload_n 2, 1) := by decide +kernel
theorem dX0_canCovered_14 : decode cX0_canCovered 14 = .ok (.invokevirtual 69, 3) := by decide +kernel
theorem dX0_canCovered_17 : decode cX0_canCovered 17 = .ok (.aload_n 0, 1) := by decide +kernel
theorem dX0_canCovered_18 : decode cX0_canCovered 18 = .ok (.iload_n 1, 1) := by decide +kernel
theorem dX0_canCovered_19 : decode cX0_canCovered 19 = .ok (.invokevirtual 75, 3) := by decide +kernel
theorem dX0_canCovered_22 : decode cX0_canCovered 22 = .ok (.if_icmp .lt 7, 3) := by decide +kernel
theorem dX0_canCovered_25 : decode cX0_canCovered 25 = .ok (.iconst 1, 1) := by decide +kernel
theorem dX0_canCovered_26 : decode cX0_canCovered 26 = .ok (.goto 4, 3) := by decide +kernel
theorem dX0_canCovered_29 : decode cX0_canCovered 29 = .ok (.iconst 0, 1) := by decide +kernel
theorem dX0_canCovered_30 : decode cX0_canCovered 30 = .ok (.ireturn, 1) := by decide +kernel
theorem dX0_needs_0 : decode cX0_needs 0 = .ok (.iconst 2, 1) := by decide +kernel
theorem dX0_needs_1 : decode cX0_needs 1 = .ok (.aload_n 0, 1) := by decide +kernel
theorem dX0_needs_2 : decode cX0_needs 2 = .ok (.getfield 27, 3) := by decide +kernel
theorem dX0_needs_5 : decode cX0_needs 5 = .ok (.iload_n 1, 1) := by decide +kernel
theorem dX0_needs_6 : decode cX0_needs 6 = .ok (.iaload, 1) := by decide +kernel
theorem dX0_needs_7 : decode cX0_needs 7 = .ok (.imul, 1) := by decide +kernel
theorem dX0_needs_8 : decode cX0_needs 8 = .ok (.iconst 2, 1) := by decide +kernel
theorem dX0_needs_9 : decode cX0_needs 9 = .ok (.iadd, 1) := by decide +kernel
theorem dX0_needs_10 : decode cX0_needs 10 = .ok (.bipush 6, 2) := by decide +kernel
theorem dX0_needs_12 : decode cX0_needs 12 = .ok (.isub, 1) := by decide +kernel
theorem dX0_needs_13 : decode cX0_needs 13 = .ok (.ireturn, 1) := by decide +kernel
theorem dX0_lacks_0 : decode cX0_lacks 0 = .ok (.aload_n 0, 1) := by decide +kernel
theorem dX0_lacks_1 : decode cX0_lacks 1 = .ok (.getfield 27, 3) := by decide +kernel
theorem dX0_lacks_4 : decode cX0_lacks 4 = .ok (.iload_n 1, 1) := by decide +kernel
theorem dX0_lacks_5 : decode cX0_lacks 5 = .ok (.iaload, 1) := by decide +kernel
theorem dX0_lacks_6 : decode cX0_lacks 6 = .ok (.bipush 6, 2) := by decide +kernel
theorem dX0_lacks_8 : decode cX0_lacks 8 = .ok (.if_icmp .lt 7, 3) := by decide +kernel
theorem dX0_lacks_11 : decode cX0_lacks 11 = .ok (.iconst 0, 1) := by decide +kernel
theorem dX0_lacks_12 : decode cX0_lacks 12 = .ok (.goto 18, 3) := by decide +kernel
theorem dX0_lacks_15 : decode cX0_lacks 15 = .ok (.aload_n 0, 1) := by decide +kernel
theorem dX0_lacks_16 : decode cX0_lacks 16 = .ok (.iload_n 1, 1) := by decide +kernel
theorem dX0_lacks_17 : decode cX0_lacks 17 = .ok (.invokevirtual 75, 3) := by decide +kernel
theorem dX0_lacks_20 : decode cX0_lacks 20 = .ok (.aload_n 0, 1) := by decide +kernel
theorem dX0_lacks_21 : decode cX0_lacks 21 = .ok (.iload_n 1, 1) := by decide +kernel
theorem dX0_lacks_22 : decode cX0_lacks 22 = .ok (.invokevirtual 72, 3) := by decide +kernel
theorem dX0_lacks_25 : decode cX0_lacks 25 = .ok (.isub, 1) := by decide +kernel
theorem dX0_lacks_26 : decode cX0_lacks 26 = .ok (.iconst 0, 1) := by decide +kernel
theorem dX0_lacks_27 : decode cX0_lacks 27 = .ok (.invokestatic 78, 3) := by decide +kernel
theorem dX0_lacks_30 : decode cX0_lacks 30 = .ok (.ireturn, 1) := by decide +kernel
theorem dX0_passDays_0 : decode cX0_passDays 0 = .ok (.iconst 0, 1) := by decide +kernel
theorem dX0_passDays_1 : decode cX0_passDays 1 = .ok (.istore_n 2, 1) := by decide +kernel
theorem dX0_passDays_2 : decode cX0_passDays 2 = .ok (.iload_n 2, 1) := by decide +kernel
theorem dX0_passDays_3 : decode cX0_passDays 3 = .ok (.iload_n 1, 1) := by decide +kernel
theorem dX0_passDays_4 : decode cX0_passDays 4 = .ok (.if_icmp .ge 53, 3) := by decide +kernel
theorem dX0_passDays_7 : decode cX0_passDays 7 = .ok (.aload_n 0, 1) := by decide +kernel
theorem dX0_passDays_8 : decode cX0_passDays 8 = .ok (.dup, 1) := by decide +kernel
theorem dX0_passDays_9 : decode cX0_passDays 9 = .ok (.getfield 43, 3) := by decide +kernel
theorem dX0_passDays_12 : decode cX0_passDays 12 = .ok (.iconst 1, 1) := by decide +kernel
theorem dX0_passDays_13 : decode cX0_passDays 13 = .ok (.iadd, 1) := by decide +kernel
theorem dX0_passDays_14 : decode cX0_passDays 14 = .ok (.putfield 43, 3) := by decide +kernel
theorem dX0_passDays_17 : decode cX0_passDays 17 = .ok (.iconst 0, 1) := by decide +kernel
theorem dX0_passDays_18 : decode cX0_passDays 18 = .ok (.istore_n 3, 1) := by decide +kernel
theorem dX0_passDays_19 : decode cX0_passDays 19 = .ok (.iload_n 3, 1) := by decide +kernel
theorem dX0_passDays_20 : decode cX0_passDays 20 = .ok (.aload_n 0, 1) := by decide +kernel
theorem dX0_passDays_21 : decode cX0_passDays 21 = .ok (.getfield 37, 3) := by decide +kernel
theorem dX0_passDays_24 : decode cX0_passDays 24 = .ok (.if_icmp .ge 14, 3) := by decide +kernel
theorem dX0_passDays_27 : decode cX0_passDays 27 = .ok (.aload_n 0, 1) := by decide +kernel
theorem dX0_passDays_28 : decode cX0_passDays 28 = .ok (.iload_n 3, 1) := by decide +kernel
theorem dX0_passDays_29 : decode cX0_passDays 29 = .ok (.invokevirtual 83, 3) := by decide +kernel
theorem dX0_passDays_32 : decode cX0_passDays 32 = .ok (.iinc 3 1, 3) := by decide +kernel
theorem dX0_passDays_35 : decode cX0_passDays 35 = .ok (.goto (-16), 3) := by decide +kernel
theorem dX0_passDays_38 : decode cX0_passDays 38 = .ok (.aload_n 0, 1) := by decide +kernel
theorem dX0_passDays_39 : decode cX0_passDays 39 = .ok (.getfield 43, 3) := by decide +kernel
theorem dX0_passDays_42 : decode cX0_passDays 42 = .ok (.iconst 5, 1) := by decide +kernel
theorem dX0_passDays_43 : decode cX0_passDays 43 = .ok (.irem, 1) := by decide +kernel
theorem dX0_passDays_44 : decode cX0_passDays 44 = .ok (.ifCond .ne 7, 3) := by decide +kernel
theorem dX0_passDays_47 : decode cX0_passDays 47 = .ok (.aload_n 0, 1) := by decide +kernel
theorem dX0_passDays_48 : decode cX0_passDays 48 = .ok (.invokevirtual 87, 3) := by decide +kernel
theorem dX0_passDays_51 : decode cX0_passDays 51 = .ok (.iinc 2 1, 3) := by decide +kernel
theorem dX0_passDays_54 : decode cX0_passDays 54 = .ok (.goto (-52), 3) := by decide +kernel
theorem dX0_passDays_57 : decode cX0_passDays 57 = .ok (.return_, 1) := by decide +kernel
theorem dX0_passDayOf_0 : decode cX0_passDayOf 0 = .ok (.aload_n 0, 1) := by decide +kernel
theorem dX0_passDayOf_1 : decode cX0_passDayOf 1 = .ok (.dup, 1) := by decide +kernel
theorem dX0_passDayOf_2 : decode cX0_passDayOf 2 = .ok (.getfield 43, 3) := by decide +kernel
theorem dX0_passDayOf_5 : decode cX0_passDayOf 5 = .ok (.iconst 1, 1) := by decide +kernel
theorem dX0_passDayOf_6 : decode cX0_passDayOf 6 = .ok (.iadd, 1) := by decide +kernel
theorem dX0_passDayOf_7 : decode cX0_passDayOf 7 = .ok (.putfield 43, 3) := by decide +kernel
theorem dX0_passDayOf_10 : decode cX0_passDayOf 10 = .ok (.aload_n 0, 1) := by decide +kernel
theorem dX0_passDayOf_11 : decode cX0_passDayOf 11 = .ok (.iload_n 1, 1) := by decide +kernel
theorem dX0_passDayOf_12 : decode cX0_passDayOf 12 = .ok (.invokevirtual 83, 3) := by decide +kernel
theorem dX0_passDayOf_15 : decode cX0_passDayOf 15 = .ok (.return_, 1) := by decide +kernel
theorem dX0_liveDay_0 : decode cX0_liveDay 0 = .ok (.aload_n 0, 1) := by decide +kernel
theorem dX0_liveDay_1 : decode cX0_liveDay 1 = .ok (.getfield 30, 3) := by decide +kernel
theorem dX0_liveDay_4 : decode cX0_liveDay 4 = .ok (.iload_n 1, 1) := by decide +kernel
theorem dX0_liveDay_5 : decode cX0_liveDay 5 = .ok (.iaload, 1) := by decide +kernel
theorem dX0_liveDay_6 : decode cX0_liveDay 6 = .ok (.istore_n 2, 1) := by decide +kernel
theorem dX0_liveDay_7 : decode cX0_liveDay 7 = .ok (.iload_n 2, 1) := by decide +kernel
theorem dX0_liveDay_8 : decode cX0_liveDay 8 = .ok (.bipush (-9), 2) := by decide +kernel
theorem dX0_liveDay_10 : decode cX0_liveDay 10 = .ok (.if_icmp .ne 22, 3) := by decide +kernel
theorem dX0_liveDay_13 : decode cX0_liveDay 13 = .ok (.aload_n 0, 1) := by decide +kernel
theorem dX0_liveDay_14 : decode cX0_liveDay 14 = .ok (.getfield 24, 3) := by decide +kernel
theorem dX0_liveDay_17 : decode cX0_liveDay 17 = .ok (.iload_n 1, 1) := by decide +kernel
theorem dX0_liveDay_18 : decode cX0_liveDay 18 = .ok (.aload_n 0, 1) := by decide +kernel
theorem dX0_liveDay_19 : decode cX0_liveDay 19 = .ok (.getfield 24, 3) := by decide +kernel
theorem dX0_liveDay_22 : decode cX0_liveDay 22 = .ok (.iload_n 1, 1) := by decide +kernel
theorem dX0_liveDay_23 : decode cX0_liveDay 23 = .ok (.iaload, 1) := by decide +kernel
theorem dX0_liveDay_24 : decode cX0_liveDay 24 = .ok (.iconst 1, 1) := by decide +kernel
theorem dX0_liveDay_25 : decode cX0_liveDay 25 = .ok (.isub, 1) := by decide +kernel
theorem dX0_liveDay_26 : decode cX0_liveDay 26 = .ok (.iconst 0, 1) := by decide +kernel
theorem dX0_liveDay_27 : decode cX0_liveDay 27 = .ok (.invokestatic 78, 3) := by decide +kernel
theorem dX0_liveDay_30 : decode cX0_liveDay 30 = .ok (.iastore, 1) := by decide +kernel
theorem dX0_liveDay_31 : decode cX0_liveDay 31 = .ok (.return_, 1) := by decide +kernel
theorem dX0_liveDay_32 : decode cX0_liveDay 32 = .ok (.aload_n 0, 1) := by decide +kernel
theorem dX0_liveDay_33 : decode cX0_liveDay 33 = .ok (.aload_n 0, 1) := by decide +kernel
theorem dX0_liveDay_34 : decode cX0_liveDay 34 = .ok (.getfield 40, 3) := by decide +kernel
theorem dX0_liveDay_37 : decode cX0_liveDay 37 = .ok (.getstatic 90, 3) := by decide +kernel
theorem dX0_liveDay_40 : decode cX0_liveDay 40 = .ok (.aload_n 0, 1) := by decide +kernel
theorem dX0_liveDay_41 : decode cX0_liveDay 41 = .ok (.getfield 9, 3) := by decide +kernel
theorem dX0_liveDay_44 : decode cX0_liveDay 44 = .ok (.iload_n 2, 1) := by decide +kernel
theorem dX0_liveDay_45 : decode cX0_liveDay 45 = .ok (.iaload, 1) := by decide +kernel
theorem dX0_liveDay_46 : decode cX0_liveDay 46 = .ok (.iaload, 1) := by decide +kernel
theorem dX0_liveDay_47 : decode cX0_liveDay 47 = .ok (.iadd, 1) := by decide +kernel
theorem dX0_liveDay_48 : decode cX0_liveDay 48 = .ok (.sipush 9999, 3) := by decide +kernel
theorem dX0_liveDay_51 : decode cX0_liveDay 51 = .ok (.invokestatic 93, 3) := by decide +kernel
theorem dX0_liveDay_54 : decode cX0_liveDay 54 = .ok (.putfield 40, 3) := by decide +kernel
theorem dX0_liveDay_57 : decode cX0_liveDay 57 = .ok (.aload_n 0, 1) := by decide +kernel
theorem dX0_liveDay_58 : decode cX0_liveDay 58 = .ok (.iload_n 1, 1) := by decide +kernel
theorem dX0_liveDay_59 : decode cX0_liveDay 59 = .ok (.invokevirtual 96, 3) := by decide +kernel
theorem dX0_liveDay_62 : decode cX0_liveDay 62 = .ok (.ifCond .eq 34, 3) := by decide +kernel
theorem dX0_liveDay_65 : decode cX0_liveDay 65 = .ok (.aload_n 0, 1) := by decide +kernel
theorem dX0_liveDay_66 : decode cX0_liveDay 66 = .ok (.getfield 27, 3) := by decide +kernel
theorem dX0_liveDay_69 : decode cX0_liveDay 69 = .ok (.iload_n 1, 1) := by decide +kernel
theorem dX0_liveDay_70 : decode cX0_liveDay 70 = .ok (.dup2, 1) := by decide +kernel
theorem dX0_liveDay_71 : decode cX0_liveDay 71 = .ok (.iaload, 1) := by decide +kernel
theorem dX0_liveDay_72 : decode cX0_liveDay 72 = .ok (.iconst 1, 1) := by decide +kernel
theorem dX0_liveDay_73 : decode cX0_liveDay 73 = .ok (.iadd, 1) := by decide +kernel
theorem dX0_liveDay_74 : decode cX0_liveDay 74 = .ok (.iastore, 1) := by decide +kernel
theorem dX0_liveDay_75 : decode cX0_liveDay 75 = .ok (.aload_n 0, 1) := by decide +kernel
theorem dX0_liveDay_76 : decode cX0_liveDay 76 = .ok (.getfield 21, 3) := by decide +kernel
theorem dX0_liveDay_79 : decode cX0_liveDay 79 = .ok (.iload_n 1, 1) := by decide +kernel
theorem dX0_liveDay_80 : decode cX0_liveDay 80 = .ok (.aload_n 0, 1) := by decide +kernel
theorem dX0_liveDay_81 : decode cX0_liveDay 81 = .ok (.getfield 21, 3) := by decide +kernel
theorem dX0_liveDay_84 : decode cX0_liveDay 84 = .ok (.iload_n 1, 1) := by decide +kernel
theorem dX0_liveDay_85 : decode cX0_liveDay 85 = .ok (.iaload, 1) := by decide +kernel
theorem dX0_liveDay_86 : decode cX0_liveDay 86 = .ok (.iconst 1, 1) := by decide +kernel
theorem dX0_liveDay_87 : decode cX0_liveDay 87 = .ok (.isub, 1) := by decide +kernel
theorem dX0_liveDay_88 : decode cX0_liveDay 88 = .ok (.iconst 0, 1) := by decide +kernel
theorem dX0_liveDay_89 : decode cX0_liveDay 89 = .ok (.invokestatic 78, 3) := by decide +kernel
theorem dX0_liveDay_92 : decode cX0_liveDay 92 = .ok (.iastore, 1) := by decide +kernel
theorem dX0_liveDay_93 : decode cX0_liveDay 93 = .ok (.goto 22, 3) := by decide +kernel
theorem dX0_liveDay_96 : decode cX0_liveDay 96 = .ok (.aload_n 0, 1) := by decide +kernel
theorem dX0_liveDay_97 : decode cX0_liveDay 97 = .ok (.getfield 21, 3) := by decide +kernel
theorem dX0_liveDay_100 : decode cX0_liveDay 100 = .ok (.iload_n 1, 1) := by decide +kernel
theorem dX0_liveDay_101 : decode cX0_liveDay 101 = .ok (.aload_n 0, 1) := by decide +kernel
theorem dX0_liveDay_102 : decode cX0_liveDay 102 = .ok (.getfield 21, 3) := by decide +kernel
theorem dX0_liveDay_105 : decode cX0_liveDay 105 = .ok (.iload_n 1, 1) := by decide +kernel
theorem dX0_liveDay_106 : decode cX0_liveDay 106 = .ok (.iaload, 1) := by decide +kernel
theorem dX0_liveDay_107 : decode cX0_liveDay 107 = .ok (.iconst 1, 1) := by decide +kernel
theorem dX0_liveDay_108 : decode cX0_liveDay 108 = .ok (.iadd, 1) := by decide +kernel
theorem dX0_liveDay_109 : decode cX0_liveDay 109 = .ok (.bipush 20, 2) := by decide +kernel
theorem dX0_liveDay_111 : decode cX0_liveDay 111 = .ok (.invokestatic 93, 3) := by decide +kernel
theorem dX0_liveDay_114 : decode cX0_liveDay 114 = .ok (.iastore, 1) := by decide +kernel
theorem dX0_liveDay_115 : decode cX0_liveDay 115 = .ok (.aload_n 0, 1) := by decide +kernel
theorem dX0_liveDay_116 : decode cX0_liveDay 116 = .ok (.getfield 24, 3) := by decide +kernel
theorem dX0_liveDay_119 : decode cX0_liveDay 119 = .ok (.iload_n 1, 1) := by decide +kernel
theorem dX0_liveDay_120 : decode cX0_liveDay 120 = .ok (.aload_n 0, 1) := by decide +kernel
theorem dX0_liveDay_121 : decode cX0_liveDay 121 = .ok (.getfield 24, 3) := by decide +kernel
theorem dX0_liveDay_124 : decode cX0_liveDay 124 = .ok (.iload_n 1, 1) := by decide +kernel
theorem dX0_liveDay_125 : decode cX0_liveDay 125 = .ok (.iaload, 1) := by decide +kernel
theorem dX0_liveDay_126 : decode cX0_liveDay 126 = .ok (.aload_n 0, 1) := by decide +kernel
theorem dX0_liveDay_127 : decode cX0_liveDay 127 = .ok (.iload_n 2, 1) := by decide +kernel
theorem dX0_liveDay_128 : decode cX0_liveDay 128 = .ok (.aload_n 0, 1) := by decide +kernel
theorem dX0_liveDay_129 : decode cX0_liveDay 129 = .ok (.getfield 43, 3) := by decide +kernel
theorem dX0_liveDay_132 : decode cX0_liveDay 132 = .ok (.invokevirtual 100, 3) := by decide +kernel
theorem dX0_liveDay_135 : decode cX0_liveDay 135 = .ok (.iadd, 1) := by decide +kernel
theorem dX0_liveDay_136 : decode cX0_liveDay 136 = .ok (.bipush 20, 2) := by decide +kernel
theorem dX0_liveDay_138 : decode cX0_liveDay 138 = .ok (.invokestatic 93, 3) := by decide +kernel
theorem dX0_liveDay_141 : decode cX0_liveDay 141 = .ok (.iastore, 1) := by decide +kernel
theorem dX0_liveDay_142 : decode cX0_liveDay 142 = .ok (.aload_n 0, 1) := by decide +kernel
theorem dX0_liveDay_143 : decode cX0_liveDay 143 = .ok (.getfield 24, 3) := by decide +kernel
theorem dX0_liveDay_146 : decode cX0_liveDay 146 = .ok (.iload_n 1, 1) := by decide +kernel
theorem dX0_liveDay_147 : decode cX0_liveDay 147 = .ok (.iaload, 1) := by decide +kernel
theorem dX0_liveDay_148 : decode cX0_liveDay 148 = .ok (.bipush 15, 2) := by decide +kernel
theorem dX0_liveDay_150 : decode cX0_liveDay 150 = .ok (.if_icmp .lt 11, 3) := by decide +kernel
theorem dX0_liveDay_153 : decode cX0_liveDay 153 = .ok (.aload_n 0, 1) := by decide +kernel
theorem dX0_liveDay_154 : decode cX0_liveDay 154 = .ok (.getfield 30, 3) := by decide +kernel
theorem dX0_liveDay_157 : decode cX0_liveDay 157 = .ok (.iload_n 1, 1) := by decide +kernel
theorem dX0_liveDay_158 : decode cX0_liveDay 158 = .ok (.bipush (-9), 2) := by decide +kernel
theorem dX0_liveDay_160 : decode cX0_liveDay 160 = .ok (.iastore, 1) := by decide +kernel
theorem dX0_liveDay_161 : decode cX0_liveDay 161 = .ok (.return_, 1) := by decide +kernel
theorem dX0_rustUnworn_0 : decode cX0_rustUnworn 0 = .ok (.iconst 0, 1) := by decide +kernel
theorem dX0_rustUnworn_1 : decode cX0_rustUnworn 1 = .ok (.istore_n 1, 1) := by decide +kernel
theorem dX0_rustUnworn_2 : decode cX0_rustUnworn 2 = .ok (.iload_n 1, 1) := by decide +kernel
theorem dX0_rustUnworn_3 : decode cX0_rustUnworn 3 = .ok (.aload_n 0, 1) := by decide +kernel
theorem dX0_rustUnworn_4 : decode cX0_rustUnworn 4 = .ok (.getfield 33, 3) := by decide +kernel
theorem dX0_rustUnworn_7 : decode cX0_rustUnworn 7 = .ok (.if_icmp .ge 38, 3) := by decide +kernel
theorem dX0_rustUnworn_10 : decode cX0_rustUnworn 10 = .ok (.aload_n 0, 1) := by decide +kernel
theorem dX0_rustUnworn_11 : decode cX0_rustUnworn 11 = .ok (.iload_n 1, 1) := by decide +kernel
theorem dX0_rustUnworn_12 : decode cX0_rustUnworn 12 = .ok (.invokevirtual 52, 3) := by decide +kernel
theorem dX0_rustUnworn_15 : decode cX0_rustUnworn 15 = .ok (.bipush (-9), 2) := by decide +kernel
theorem dX0_rustUnworn_17 : decode cX0_rustUnworn 17 = .ok (.if_icmp .ne 22, 3) := by decide +kernel
theorem dX0_rustUnworn_20 : decode cX0_rustUnworn 20 = .ok (.aload_n 0, 1) := by decide +kernel
theorem dX0_rustUnworn_21 : decode cX0_rustUnworn 21 = .ok (.getfield 18, 3) := by decide +kernel
theorem dX0_rustUnworn_24 : decode cX0_rustUnworn 24 = .ok (.iload_n 1, 1) := by decide +kernel
theorem dX0_rustUnworn_25 : decode cX0_rustUnworn 25 = .ok (.aload_n 0, 1) := by decide +kernel
theorem dX0_rustUnworn_26 : decode cX0_rustUnworn 26 = .ok (.getfield 18, 3) := by decide +kernel
theorem dX0_rustUnworn_29 : decode cX0_rustUnworn 29 = .ok (.iload_n 1, 1) := by decide +kernel
theorem dX0_rustUnworn_30 : decode cX0_rustUnworn 30 = .ok (.iaload, 1) := by decide +kernel
theorem dX0_rustUnworn_31 : decode cX0_rustUnworn 31 = .ok (.iconst 1, 1) := by decide +kernel
theorem dX0_rustUnworn_32 : decode cX0_rustUnworn 32 = .ok (.iadd, 1) := by decide +kernel
theorem dX0_rustUnworn_33 : decode cX0_rustUnworn 33 = .ok (.bipush 9, 2) := by decide +kernel
theorem dX0_rustUnworn_35 : decode cX0_rustUnworn 35 = .ok (.invokestatic 93, 3) := by decide +kernel
theorem dX0_rustUnworn_38 : decode cX0_rustUnworn 38 = .ok (.iastore, 1) := by decide +kernel
theorem dX0_rustUnworn_39 : decode cX0_rustUnworn 39 = .ok (.iinc 1 1, 3) := by decide +kernel
theorem dX0_rustUnworn_42 : decode cX0_rustUnworn 42 = .ok (.goto (-40), 3) := by decide +kernel
theorem dX0_rustUnworn_45 : decode cX0_rustUnworn 45 = .ok (.return_, 1) := by decide +kernel
theorem dX0_rainOnAll_0 : decode cX0_rainOnAll 0 = .ok (.iconst 0, 1) := by decide +kernel
theorem dX0_rainOnAll_1 : decode cX0_rainOnAll 1 = .ok (.istore_n 1, 1) := by decide +kernel
theorem dX0_rainOnAll_2 : decode cX0_rainOnAll 2 = .ok (.iload_n 1, 1) := by decide +kernel
theorem dX0_rainOnAll_3 : decode cX0_rainOnAll 3 = .ok (.aload_n 0, 1) := by decide +kernel
theorem dX0_rainOnAll_4 : decode cX0_rainOnAll 4 = .ok (.getfield 33, 3) := by decide +kernel
theorem dX0_rainOnAll_7 : decode cX0_rainOnAll 7 = .ok (.if_icmp .ge 28, 3) := by decide +kernel
theorem dX0_rainOnAll_10 : decode cX0_rainOnAll 10 = .ok (.aload_n 0, 1) := by decide +kernel
theorem dX0_rainOnAll_11 : decode cX0_rainOnAll 11 = .ok (.getfield 18, 3) := by decide +kernel
theorem dX0_rainOnAll_14 : decode cX0_rainOnAll 14 = .ok (.iload_n 1, 1) := by decide +kernel
theorem dX0_rainOnAll_15 : decode cX0_rainOnAll 15 = .ok (.aload_n 0, 1) := by decide +kernel
theorem dX0_rainOnAll_16 : decode cX0_rainOnAll 16 = .ok (.getfield 18, 3) := by decide +kernel
theorem dX0_rainOnAll_19 : decode cX0_rainOnAll 19 = .ok (.iload_n 1, 1) := by decide +kernel
theorem dX0_rainOnAll_20 : decode cX0_rainOnAll 20 = .ok (.iaload, 1) := by decide +kernel
theorem dX0_rainOnAll_21 : decode cX0_rainOnAll 21 = .ok (.iconst 1, 1) := by decide +kernel
theorem dX0_rainOnAll_22 : decode cX0_rainOnAll 22 = .ok (.iadd, 1) := by decide +kernel
theorem dX0_rainOnAll_23 : decode cX0_rainOnAll 23 = .ok (.bipush 9, 2) := by decide +kernel
theorem dX0_rainOnAll_25 : decode cX0_rainOnAll 25 = .ok (.invokestatic 93, 3) := by decide +kernel
theorem dX0_rainOnAll_28 : decode cX0_rainOnAll 28 = .ok (.iastore, 1) := by decide +kernel
theorem dX0_rainOnAll_29 : decode cX0_rainOnAll 29 = .ok (.iinc 1 1, 3) := by decide +kernel
theorem dX0_rainOnAll_32 : decode cX0_rainOnAll 32 = .ok (.goto (-30), 3) := by decide +kernel
theorem dX0_rainOnAll_35 : decode cX0_rainOnAll 35 = .ok (.return_, 1) := by decide +kernel
theorem dX0_allSaid_0 : decode cX0_allSaid 0 = .ok (.iconst 0, 1) := by decide +kernel
theorem dX0_allSaid_1 : decode cX0_allSaid 1 = .ok (.istore_n 1, 1) := by decide +kernel
theorem dX0_allSaid_2 : decode cX0_allSaid 2 = .ok (.iconst 0, 1) := by decide +kernel
theorem dX0_allSaid_3 : decode cX0_allSaid 3 = .ok (.istore_n 2, 1) := by decide +kernel
theorem dX0_allSaid_4 : decode cX0_allSaid 4 = .ok (.iload_n 2, 1) := by decide +kernel
theorem dX0_allSaid_5 : decode cX0_allSaid 5 = .ok (.aload_n 0, 1) := by decide +kernel
theorem dX0_allSaid_6 : decode cX0_allSaid 6 = .ok (.getfield 37, 3) := by decide +kernel
theorem dX0_allSaid_9 : decode cX0_allSaid 9 = .ok (.if_icmp .ge 18, 3) := by decide +kernel
theorem dX0_allSaid_12 : decode cX0_allSaid 12 = .ok (.iload_n 1, 1) := by decide +kernel
theorem dX0_allSaid_13 : decode cX0_allSaid 13 = .ok (.aload_n 0, 1) := by decide +kernel
theorem dX0_allSaid_14 : decode cX0_allSaid 14 = .ok (.getfield 27, 3) := by decide +kernel
theorem dX0_allSaid_17 : decode cX0_allSaid 17 = .ok (.iload_n 2, 1) := by decide +kernel
theorem dX0_allSaid_18 : decode cX0_allSaid 18 = .ok (.iaload, 1) := by decide +kernel
theorem dX0_allSaid_19 : decode cX0_allSaid 19 = .ok (.iadd, 1) := by decide +kernel
theorem dX0_allSaid_20 : decode cX0_allSaid 20 = .ok (.istore_n 1, 1) := by decide +kernel
theorem dX0_allSaid_21 : decode cX0_allSaid 21 = .ok (.iinc 2 1, 3) := by decide +kernel
theorem dX0_allSaid_24 : decode cX0_allSaid 24 = .ok (.goto (-20), 3) := by decide +kernel
theorem dX0_allSaid_27 : decode cX0_allSaid 27 = .ok (.iload_n 1, 1) := by decide +kernel
theorem dX0_allSaid_28 : decode cX0_allSaid 28 = .ok (.ireturn, 1) := by decide +kernel
theorem dX0_allFear_0 : decode cX0_allFear 0 = .ok (.iconst 0, 1) := by decide +kernel
theorem dX0_allFear_1 : decode cX0_allFear 1 = .ok (.istore_n 1, 1) := by decide +kernel
theorem dX0_allFear_2 : decode cX0_allFear 2 = .ok (.iconst 0, 1) := by decide +kernel
theorem dX0_allFear_3 : decode cX0_allFear 3 = .ok (.istore_n 2, 1) := by decide +kernel
theorem dX0_allFear_4 : decode cX0_allFear 4 = .ok (.iload_n 2, 1) := by decide +kernel
theorem dX0_allFear_5 : decode cX0_allFear 5 = .ok (.aload_n 0, 1) := by decide +kernel
theorem dX0_allFear_6 : decode cX0_allFear 6 = .ok (.getfield 37, 3) := by decide +kernel
theorem dX0_allFear_9 : decode cX0_allFear 9 = .ok (.if_icmp .ge 18, 3) := by decide +kernel
theorem dX0_allFear_12 : decode cX0_allFear 12 = .ok (.iload_n 1, 1) := by decide +kernel
theorem dX0_allFear_13 : decode cX0_allFear 13 = .ok (.aload_n 0, 1) := by decide +kernel
theorem dX0_allFear_14 : decode cX0_allFear 14 = .ok (.getfield 21, 3) := by decide +kernel
theorem dX0_allFear_17 : decode cX0_allFear 17 = .ok (.iload_n 2, 1) := by decide +kernel
theorem dX0_allFear_18 : decode cX0_allFear 18 = .ok (.iaload, 1) := by decide +kernel
theorem dX0_allFear_19 : decode cX0_allFear 19 = .ok (.iadd, 1) := by decide +kernel
theorem dX0_allFear_20 : decode cX0_allFear 20 = .ok (.istore_n 1, 1) := by decide +kernel
theorem dX0_allFear_21 : decode cX0_allFear 21 = .ok (.iinc 2 1, 3) := by decide +kernel
theorem dX0_allFear_24 : decode cX0_allFear 24 = .ok (.goto (-20), 3) := by decide +kernel
theorem dX0_allFear_27 : decode cX0_allFear 27 = .ok (.iload_n 1, 1) := by decide +kernel
theorem dX0_allFear_28 : decode cX0_allFear 28 = .ok (.ireturn, 1) := by decide +kernel
theorem dX1_init_0 : decode cX1_init 0 = .ok (.aload_n 0, 1) := by decide +kernel
theorem dX1_init_1 : decode cX1_init 1 = .ok (.invokespecial 3, 3) := by decide +kernel
theorem dX1_init_4 : decode cX1_init 4 = .ok (.aload_n 0, 1) := by decide +kernel
theorem dX1_init_5 : decode cX1_init 5 = .ok (.sipush 384, 3) := by decide +kernel
theorem dX1_init_8 : decode cX1_init 8 = .ok (.newarray .int, 2) := by decide +kernel
theorem dX1_init_10 : decode cX1_init 10 = .ok (.putfield 11, 3) := by decide +kernel
theorem dX1_init_13 : decode cX1_init 13 = .ok (.aload_n 0, 1) := by decide +kernel
theorem dX1_init_14 : decode cX1_init 14 = .ok (.iconst 5, 1) := by decide +kernel
theorem dX1_init_15 : decode cX1_init 15 = .ok (.newarray .int, 2) := by decide +kernel
theorem dX1_init_17 : decode cX1_init 17 = .ok (.putfield 15, 3) := by decide +kernel
theorem dX1_init_20 : decode cX1_init 20 = .ok (.return_, 1) := by decide +kernel
theorem dX1_most_0 : decode cX1_most 0 = .ok (.iconst 0, 1) := by decide +kernel
theorem dX1_most_1 : decode cX1_most 1 = .ok (.istore_n 2, 1) := by decide +kernel
theorem dX1_most_2 : decode cX1_most 2 = .ok (.iload_n 2, 1) := by decide +kernel
theorem dX1_most_3 : decode cX1_most 3 = .ok (.iconst 1, 1) := by decide +kernel
theorem dX1_most_4 : decode cX1_most 4 = .ok (.aload_n 1, 1) := by decide +kernel
theorem dX1_most_5 : decode cX1_most 5 = .ok (.getfield 18, 3) := by decide +kernel
theorem dX1_most_8 : decode cX1_most 8 = .ok (.ishl, 1) := by decide +kernel
theorem dX1_most_9 : decode cX1_most 9 = .ok (.if_icmp .ge 24, 3) := by decide +kernel
theorem dX1_most_12 : decode cX1_most 12 = .ok (.aload_n 0, 1) := by decide +kernel
theorem dX1_most_13 : decode cX1_most 13 = .ok (.getfield 11, 3) := by decide +kernel
theorem dX1_most_16 : decode cX1_most 16 = .ok (.aload_n 1, 1) := by decide +kernel
theorem dX1_most_17 : decode cX1_most 17 = .ok (.getfield 24, 3) := by decide +kernel
theorem dX1_most_20 : decode cX1_most 20 = .ok (.bipush 64, 2) := by decide +kernel
theorem dX1_most_22 : decode cX1_most 22 = .ok (.imul, 1) := by decide +kernel
theorem dX1_most_23 : decode cX1_most 23 = .ok (.iload_n 2, 1) := by decide +kernel
theorem dX1_most_24 : decode cX1_most 24 = .ok (.iadd, 1) := by decide +kernel
theorem dX1_most_25 : decode cX1_most 25 = .ok (.iconst 0, 1) := by decide +kernel
theorem dX1_most_26 : decode cX1_most 26 = .ok (.iastore, 1) := by decide +kernel
theorem dX1_most_27 : decode cX1_most 27 = .ok (.iinc 2 1, 3) := by decide +kernel
theorem dX1_most_30 : decode cX1_most 30 = .ok (.goto (-28), 3) := by decide +kernel
theorem dX1_most_33 : decode cX1_most 33 = .ok (.aload_n 1, 1) := by decide +kernel
theorem dX1_most_34 : decode cX1_most 34 = .ok (.getfield 24, 3) := by decide +kernel
theorem dX1_most_37 : decode cX1_most 37 = .ok (.iconst 1, 1) := by decide +kernel
theorem dX1_most_38 : decode cX1_most 38 = .ok (.isub, 1) := by decide +kernel
theorem dX1_most_39 : decode cX1_most 39 = .ok (.istore_n 2, 1) := by decide +kernel
theorem dX1_most_40 : decode cX1_most 40 = .ok (.iload_n 2, 1) := by decide +kernel
theorem dX1_most_41 : decode cX1_most 41 = .ok (.ifCond .lt 56, 3) := by decide +kernel
theorem dX1_most_44 : decode cX1_most 44 = .ok (.aload_n 0, 1) := by decide +kernel
theorem dX1_most_45 : decode cX1_most 45 = .ok (.getfield 15, 3) := by decide +kernel
theorem dX1_most_48 : decode cX1_most 48 = .ok (.iload_n 2, 1) := by decide +kernel
theorem dX1_most_49 : decode cX1_most 49 = .ok (.aload_n 1, 1) := by decide +kernel
theorem dX1_most_50 : decode cX1_most 50 = .ok (.iload_n 2, 1) := by decide +kernel
theorem dX1_most_51 : decode cX1_most 51 = .ok (.invokestatic 27, 3) := by decide +kernel
theorem dX1_most_54 : decode cX1_most 54 = .ok (.iastore, 1) := by decide +kernel
theorem dX1_most_55 : decode cX1_most 55 = .ok (.iconst 0, 1) := by decide +kernel
theorem dX1_most_56 : decode cX1_most 56 = .ok (.istore_n 3, 1) := by decide +kernel
theorem dX1_most_57 : decode cX1_most 57 = .ok (.iload_n 3, 1) := by decide +kernel
theorem dX1_most_58 : decode cX1_most 58 = .ok (.iconst 1, 1) := by decide +kernel
theorem dX1_most_59 : decode cX1_most 59 = .ok (.aload_n 1, 1) := by decide +kernel
theorem dX1_most_60 : decode cX1_most 60 = .ok (.getfield 18, 3) := by decide +kernel
theorem dX1_most_63 : decode cX1_most 63 = .ok (.ishl, 1) := by decide +kernel
theorem dX1_most_64 : decode cX1_most 64 = .ok (.if_icmp .ge 27, 3) := by decide +kernel
theorem dX1_most_67 : decode cX1_most 67 = .ok (.aload_n 0, 1) := by decide +kernel
theorem dX1_most_68 : decode cX1_most 68 = .ok (.getfield 11, 3) := by decide +kernel
theorem dX1_most_71 : decode cX1_most 71 = .ok (.iload_n 2, 1) := by decide +kernel
theorem dX1_most_72 : decode cX1_most 72 = .ok (.bipush 64, 2) := by decide +kernel
theorem dX1_most_74 : decode cX1_most 74 = .ok (.imul, 1) := by decide +kernel
theorem dX1_most_75 : decode cX1_most 75 = .ok (.iload_n 3, 1) := by decide +kernel
theorem dX1_most_76 : decode cX1_most 76 = .ok (.iadd, 1) := by decide +kernel
theorem dX1_most_77 : decode cX1_most 77 = .ok (.aload_n 0, 1) := by decide +kernel
theorem dX1_most_78 : decode cX1_most 78 = .ok (.aload_n 1, 1) := by decide +kernel
theorem dX1_most_79 : decode cX1_most 79 = .ok (.iload_n 2, 1) := by decide +kernel
theorem dX1_most_80 : decode cX1_most 80 = .ok (.iload_n 3, 1) := by decide +kernel
theorem dX1_most_81 : decode cX1_most 81 = .ok (.invokevirtual 31, 3) := by decide +kernel
theorem dX1_most_84 : decode cX1_most 84 = .ok (.iastore, 1) := by decide +kernel
theorem dX1_most_85 : decode cX1_most 85 = .ok (.iinc 3 1, 3) := by decide +kernel
theorem dX1_most_88 : decode cX1_most 88 = .ok (.goto (-31), 3) := by decide +kernel
theorem dX1_most_91 : decode cX1_most 91 = .ok (.iinc 2 (-1), 3) := by decide +kernel
theorem dX1_most_94 : decode cX1_most 94 = .ok (.goto (-54), 3) := by decide +kernel
theorem dX1_most_97 : decode cX1_most 97 = .ok (.aload_n 0, 1) := by decide +kernel
theorem dX1_most_98 : decode cX1_most 98 = .ok (.getfield 11, 3) := by decide +kernel
theorem dX1_most_101 : decode cX1_most 101 = .ok (.iconst 0, 1) := by decide +kernel
theorem dX1_most_102 : decode cX1_most 102 = .ok (.iaload, 1) := by decide +kernel
theorem dX1_most_103 : decode cX1_most 103 = .ok (.ireturn, 1) := by decide +kernel
theorem dX1_suitFor_0 : decode cX1_suitFor 0 = .ok (.aload_n 0, 1) := by decide +kernel
theorem dX1_suitFor_1 : decode cX1_suitFor 1 = .ok (.aload_n 1, 1) := by decide +kernel
theorem dX1_suitFor_2 : decode cX1_suitFor 2 = .ok (.invokevirtual 35, 3) := by decide +kernel
theorem dX1_suitFor_5 : decode cX1_suitFor 5 = .ok (.pop, 1) := by decide +kernel
theorem dX1_suitFor_6 : decode cX1_suitFor 6 = .ok (.iconst 0, 1) := by decide +kernel
theorem dX1_suitFor_7 : decode cX1_suitFor 7 = .ok (.istore_n 3, 1) := by decide +kernel
theorem dX1_suitFor_8 : decode cX1_suitFor 8 = .ok (.iconst 0, 1) := by decide +kernel
theorem dX1_suitFor_9 : decode cX1_suitFor 9 = .ok (.istore 4, 2) := by decide +kernel
theorem dX1_suitFor_11 : decode cX1_suitFor 11 = .ok (.iload 4, 2) := by decide +kernel
theorem dX1_suitFor_13 : decode cX1_suitFor 13 = .ok (.iload_n 2, 1) := by decide +kernel
theorem dX1_suitFor_14 : decode cX1_suitFor 14 = .ok (.if_icmp .ge 33, 3) := by decide +kernel
theorem dX1_suitFor_17 : decode cX1_suitFor 17 = .ok (.aload_n 0, 1) := by decide +kernel
theorem dX1_suitFor_18 : decode cX1_suitFor 18 = .ok (.aload_n 1, 1) := by decide +kernel
theorem dX1_suitFor_19 : decode cX1_suitFor 19 = .ok (.iload 4, 2) := by decide +kernel
theorem dX1_suitFor_21 : decode cX1_suitFor 21 = .ok (.iload_n 3, 1) := by decide +kernel
theorem dX1_suitFor_22 : decode cX1_suitFor 22 = .ok (.invokevirtual 39, 3) := by decide +kernel
theorem dX1_suitFor_25 : decode cX1_suitFor 25 = .ok (.istore 5, 2) := by decide +kernel
theorem dX1_suitFor_27 : decode cX1_suitFor 27 = .ok (.iload 5, 2) := by decide +kernel
theorem dX1_suitFor_29 : decode cX1_suitFor 29 = .ok (.bipush (-9), 2) := by decide +kernel
theorem dX1_suitFor_31 : decode cX1_suitFor 31 = .ok (.if_icmp .eq 10, 3) := by decide +kernel
theorem dX1_suitFor_34 : decode cX1_suitFor 34 = .ok (.iload_n 3, 1) := by decide +kernel
theorem dX1_suitFor_35 : decode cX1_suitFor 35 = .ok (.iconst 1, 1) := by decide +kernel
theorem dX1_suitFor_36 : decode cX1_suitFor 36 = .ok (.iload 5, 2) := by decide +kernel
theorem dX1_suitFor_38 : decode cX1_suitFor 38 = .ok (.ishl, 1) := by decide +kernel
theorem dX1_suitFor_39 : decode cX1_suitFor 39 = .ok (.ior, 1) := by decide +kernel
theorem dX1_suitFor_40 : decode cX1_suitFor 40 = .ok (.istore_n 3, 1) := by decide +kernel
theorem dX1_suitFor_41 : decode cX1_suitFor 41 = .ok (.iinc 4 1, 3) := by decide +kernel
theorem dX1_suitFor_44 : decode cX1_suitFor 44 = .ok (.goto (-33), 3) := by decide +kernel
theorem dX1_suitFor_47 : decode cX1_suitFor 47 = .ok (.aload_n 0, 1) := by decide +kernel
theorem dX1_suitFor_48 : decode cX1_suitFor 48 = .ok (.aload_n 1, 1) := by decide +kernel
theorem dX1_suitFor_49 : decode cX1_suitFor 49 = .ok (.iload_n 2, 1) := by decide +kernel
theorem dX1_suitFor_50 : decode cX1_suitFor 50 = .ok (.iload_n 3, 1) := by decide +kernel
theorem dX1_suitFor_51 : decode cX1_suitFor 51 = .ok (.invokevirtual 39, 3) := by decide +kernel
theorem dX1_suitFor_54 : decode cX1_suitFor 54 = .ok (.ireturn, 1) := by decide +kernel
theorem dX1_bitsOfCan_0 : decode cX1_bitsOfCan 0 = .ok (.aload_n 0, 1) := by decide +kernel
theorem dX1_bitsOfCan_1 : decode cX1_bitsOfCan 1 = .ok (.iload_n 1, 1) := by decide +kernel
theorem dX1_bitsOfCan_2 : decode cX1_bitsOfCan 2 = .ok (.iconst 0, 1) := by decide +kernel
theorem dX1_bitsOfCan_3 : decode cX1_bitsOfCan 3 = .ok (.invokevirtual 42, 3) := by decide +kernel
theorem dX1_bitsOfCan_6 : decode cX1_bitsOfCan 6 = .ok (.ifCond .eq 12, 3) := by decide +kernel
theorem dX1_bitsOfCan_9 : decode cX1_bitsOfCan 9 = .ok (.iconst 1, 1) := by decide +kernel
theorem dX1_bitsOfCan_10 : decode cX1_bitsOfCan 10 = .ok (.aload_n 0, 1) := by decide +kernel
theorem dX1_bitsOfCan_11 : decode cX1_bitsOfCan 11 = .ok (.getfield 18, 3) := by decide +kernel
theorem dX1_bitsOfCan_14 : decode cX1_bitsOfCan 14 = .ok (.ishl, 1) := by decide +kernel
theorem dX1_bitsOfCan_15 : decode cX1_bitsOfCan 15 = .ok (.goto 4, 3) := by decide +kernel
theorem dX1_bitsOfCan_18 : decode cX1_bitsOfCan 18 = .ok (.iconst 0, 1) := by decide +kernel
theorem dX1_bitsOfCan_19 : decode cX1_bitsOfCan 19 = .ok (.istore_n 2, 1) := by decide +kernel
theorem dX1_bitsOfCan_20 : decode cX1_bitsOfCan 20 = .ok (.iconst 0, 1) := by decide +kernel
theorem dX1_bitsOfCan_21 : decode cX1_bitsOfCan 21 = .ok (.istore_n 3, 1) := by decide +kernel
theorem dX1_bitsOfCan_22 : decode cX1_bitsOfCan 22 = .ok (.iload_n 3, 1) := by decide +kernel
theorem dX1_bitsOfCan_23 : decode cX1_bitsOfCan 23 = .ok (.aload_n 0, 1) := by decide +kernel
theorem dX1_bitsOfCan_24 : decode cX1_bitsOfCan 24 = .ok (.getfield 18, 3) := by decide +kernel
theorem dX1_bitsOfCan_27 : decode cX1_bitsOfCan 27 = .ok (.if_icmp .ge 28, 3) := by decide +kernel
theorem dX1_bitsOfCan_30 : decode cX1_bitsOfCan 30 = .ok (.aload_n 0, 1) := by decide +kernel
theorem dX1_bitsOfCan_31 : decode cX1_bitsOfCan 31 = .ok (.iload_n 1, 1) := by decide +kernel
theorem dX1_bitsOfCan_32 : decode cX1_bitsOfCan 32 = .ok (.aload_n 0, 1) := by decide +kernel
theorem dX1_bitsOfCan_33 : decode cX1_bitsOfCan 33 = .ok (.iload_n 3, 1) := by decide +kernel
theorem dX1_bitsOfCan_34 : decode cX1_bitsOfCan 34 = .ok (.invokevirtual 46, 3) := by decide +kernel
theorem dX1_bitsOfCan_37 : decode cX1_bitsOfCan 37 = .ok (.invokevirtual 42, 3) := by decide +kernel
theorem dX1_bitsOfCan_40 : decode cX1_bitsOfCan 40 = .ok (.ifCond .eq 9, 3) := by decide +kernel
theorem dX1_bitsOfCan_43 : decode cX1_bitsOfCan 43 = .ok (.iload_n 2, 1) := by decide +kernel
theorem dX1_bitsOfCan_44 : decode cX1_bitsOfCan 44 = .ok (.iconst 1, 1) := by decide +kernel
theorem dX1_bitsOfCan_45 : decode cX1_bitsOfCan 45 = .ok (.iload_n 3, 1) := by decide +kernel
theorem dX1_bitsOfCan_46 : decode cX1_bitsOfCan 46 = .ok (.ishl, 1) := by decide +kernel
theorem dX1_bitsOfCan_47 : decode cX1_bitsOfCan 47 = .ok (.ior, 1) := by decide +kernel
theorem dX1_bitsOfCan_48 : decode cX1_bitsOfCan 48 = .ok (.istore_n 2, 1) := by decide +kernel
theorem dX1_bitsOfCan_49 : decode cX1_bitsOfCan 49 = .ok (.iinc 3 1, 3) := by decide +kernel
theorem dX1_bitsOfCan_52 : decode cX1_bitsOfCan 52 = .ok (.goto (-30), 3) := by decide +kernel
theorem dX1_bitsOfCan_55 : decode cX1_bitsOfCan 55 = .ok (.iload_n 2, 1) := by decide +kernel
theorem dX1_bitsOfCan_56 : decode cX1_bitsOfCan 56 = .ok (.ireturn, 1) := by decide +kernel
theorem dX1_mostOn_0 : decode cX1_mostOn 0 = .ok (.aload_n 0, 1) := by decide +kernel
theorem dX1_mostOn_1 : decode cX1_mostOn 1 = .ok (.iload_n 2, 1) := by decide +kernel
theorem dX1_mostOn_2 : decode cX1_mostOn 2 = .ok (.aload_n 1, 1) := by decide +kernel
theorem dX1_mostOn_3 : decode cX1_mostOn 3 = .ok (.getfield 18, 3) := by decide +kernel
theorem dX1_mostOn_6 : decode cX1_mostOn 6 = .ok (.iload_n 3, 1) := by decide +kernel
theorem dX1_mostOn_7 : decode cX1_mostOn 7 = .ok (.invokevirtual 50, 3) := by decide +kernel
theorem dX1_mostOn_10 : decode cX1_mostOn 10 = .ok (.istore 4, 2) := by decide +kernel
theorem dX1_mostOn_12 : decode cX1_mostOn 12 = .ok (.iconst 0, 1) := by decide +kernel
theorem dX1_mostOn_13 : decode cX1_mostOn 13 = .ok (.istore 5, 2) := by decide +kernel
theorem dX1_mostOn_15 : decode cX1_mostOn 15 = .ok (.iload 5, 2) := by decide +kernel
theorem dX1_mostOn_17 : decode cX1_mostOn 17 = .ok (.aload_n 1, 1) := by decide +kernel
theorem dX1_mostOn_18 : decode cX1_mostOn 18 = .ok (.getfield 18, 3) := by decide +kernel
theorem dX1_mostOn_21 : decode cX1_mostOn 21 = .ok (.if_icmp .ge 38, 3) := by decide +kernel
theorem dX1_mostOn_24 : decode cX1_mostOn 24 = .ok (.iload_n 3, 1) := by decide +kernel
theorem dX1_mostOn_25 : decode cX1_mostOn 25 = .ok (.iload 5, 2) := by decide +kernel
theorem dX1_mostOn_27 : decode cX1_mostOn 27 = .ok (.ishr, 1) := by decide +kernel
theorem dX1_mostOn_28 : decode cX1_mostOn 28 = .ok (.iconst 1, 1) := by decide +kernel
theorem dX1_mostOn_29 : decode cX1_mostOn 29 = .ok (.iand, 1) := by decide +kernel
theorem dX1_mostOn_30 : decode cX1_mostOn 30 = .ok (.ifCond .ne 23, 3) := by decide +kernel
theorem dX1_mostOn_33 : decode cX1_mostOn 33 = .ok (.iload 4, 2) := by decide +kernel
theorem dX1_mostOn_35 : decode cX1_mostOn 35 = .ok (.aload_n 0, 1) := by decide +kernel
theorem dX1_mostOn_36 : decode cX1_mostOn 36 = .ok (.iload_n 2, 1) := by decide +kernel
theorem dX1_mostOn_37 : decode cX1_mostOn 37 = .ok (.iload 5, 2) := by decide +kernel
theorem dX1_mostOn_39 : decode cX1_mostOn 39 = .ok (.iload_n 3, 1) := by decide +kernel
theorem dX1_mostOn_40 : decode cX1_mostOn 40 = .ok (.iconst 1, 1) := by decide +kernel
theorem dX1_mostOn_41 : decode cX1_mostOn 41 = .ok (.iload 5, 2) := by decide +kernel
theorem dX1_mostOn_43 : decode cX1_mostOn 43 = .ok (.ishl, 1) := by decide +kernel
theorem dX1_mostOn_44 : decode cX1_mostOn 44 = .ok (.ior, 1) := by decide +kernel
theorem dX1_mostOn_45 : decode cX1_mostOn 45 = .ok (.invokevirtual 50, 3) := by decide +kernel
theorem dX1_mostOn_48 : decode cX1_mostOn 48 = .ok (.invokestatic 54, 3) := by decide +kernel
theorem dX1_mostOn_51 : decode cX1_mostOn 51 = .ok (.istore 4, 2) := by decide +kernel
theorem dX1_mostOn_53 : decode cX1_mostOn 53 = .ok (.iinc 5 1, 3) := by decide +kernel
theorem dX1_mostOn_56 : decode cX1_mostOn 56 = .ok (.goto (-41), 3) := by decide +kernel
theorem dX1_mostOn_59 : decode cX1_mostOn 59 = .ok (.iload 4, 2) := by decide +kernel
theorem dX1_mostOn_61 : decode cX1_mostOn 61 = .ok (.ireturn, 1) := by decide +kernel
theorem dX1_mostWith_0 : decode cX1_mostWith 0 = .ok (.aload_n 0, 1) := by decide +kernel
theorem dX1_mostWith_1 : decode cX1_mostWith 1 = .ok (.getfield 15, 3) := by decide +kernel
theorem dX1_mostWith_4 : decode cX1_mostWith 4 = .ok (.iload_n 1, 1) := by decide +kernel
theorem dX1_mostWith_5 : decode cX1_mostWith 5 = .ok (.iaload, 1) := by decide +kernel
theorem dX1_mostWith_6 : decode cX1_mostWith 6 = .ok (.iload_n 2, 1) := by decide +kernel
theorem dX1_mostWith_7 : decode cX1_mostWith 7 = .ok (.ishr, 1) := by decide +kernel
theorem dX1_mostWith_8 : decode cX1_mostWith 8 = .ok (.iconst 1, 1) := by decide +kernel
theorem dX1_mostWith_9 : decode cX1_mostWith 9 = .ok (.iand, 1) := by decide +kernel
theorem dX1_mostWith_10 : decode cX1_mostWith 10 = .ok (.aload_n 0, 1) := by decide +kernel
theorem dX1_mostWith_11 : decode cX1_mostWith 11 = .ok (.getfield 11, 3) := by decide +kernel
theorem dX1_mostWith_14 : decode cX1_mostWith 14 = .ok (.iload_n 1, 1) := by decide +kernel
theorem dX1_mostWith_15 : decode cX1_mostWith 15 = .ok (.iconst 1, 1) := by decide +kernel
theorem dX1_mostWith_16 : decode cX1_mostWith 16 = .ok (.iadd, 1) := by decide +kernel
theorem dX1_mostWith_17 : decode cX1_mostWith 17 = .ok (.bipush 64, 2) := by decide +kernel
theorem dX1_mostWith_19 : decode cX1_mostWith 19 = .ok (.imul, 1) := by decide +kernel
theorem dX1_mostWith_20 : decode cX1_mostWith 20 = .ok (.iload_n 3, 1) := by decide +kernel
theorem dX1_mostWith_21 : decode cX1_mostWith 21 = .ok (.iadd, 1) := by decide +kernel
theorem dX1_mostWith_22 : decode cX1_mostWith 22 = .ok (.iaload, 1) := by decide +kernel
theorem dX1_mostWith_23 : decode cX1_mostWith 23 = .ok (.iadd, 1) := by decide +kernel
theorem dX1_mostWith_24 : decode cX1_mostWith 24 = .ok (.ireturn, 1) := by decide +kernel
theorem dX1_firstBest_0 : decode cX1_firstBest 0 = .ok (.aload_n 0, 1) := by decide +kernel
theorem dX1_firstBest_1 : decode cX1_firstBest 1 = .ok (.getfield 11, 3) := by decide +kernel
theorem dX1_firstBest_4 : decode cX1_firstBest 4 = .ok (.iload_n 2, 1) := by decide +kernel
theorem dX1_firstBest_5 : decode cX1_firstBest 5 = .ok (.bipush 64, 2) := by decide +kernel
theorem dX1_firstBest_7 : decode cX1_firstBest 7 = .ok (.imul, 1) := by decide +kernel
theorem dX1_firstBest_8 : decode cX1_firstBest 8 = .ok (.iload_n 3, 1) := by decide +kernel
theorem dX1_firstBest_9 : decode cX1_firstBest 9 = .ok (.iadd, 1) := by decide +kernel
theorem dX1_firstBest_10 : decode cX1_firstBest 10 = .ok (.iaload, 1) := by decide +kernel
theorem dX1_firstBest_11 : decode cX1_firstBest 11 = .ok (.istore 4, 2) := by decide +kernel
theorem dX1_firstBest_13 : decode cX1_firstBest 13 = .ok (.iconst 0, 1) := by decide +kernel
theorem dX1_firstBest_14 : decode cX1_firstBest 14 = .ok (.istore 5, 2) := by decide +kernel
theorem dX1_firstBest_16 : decode cX1_firstBest 16 = .ok (.iload 5, 2) := by decide +kernel
theorem dX1_firstBest_18 : decode cX1_firstBest 18 = .ok (.aload_n 1, 1) := by decide +kernel
theorem dX1_firstBest_19 : decode cX1_firstBest 19 = .ok (.getfield 18, 3) := by decide +kernel
theorem dX1_firstBest_22 : decode cX1_firstBest 22 = .ok (.if_icmp .ge 39, 3) := by decide +kernel
theorem dX1_firstBest_25 : decode cX1_firstBest 25 = .ok (.iload_n 3, 1) := by decide +kernel
theorem dX1_firstBest_26 : decode cX1_firstBest 26 = .ok (.iload 5, 2) := by decide +kernel
theorem dX1_firstBest_28 : decode cX1_firstBest 28 = .ok (.ishr, 1) := by decide +kernel
theorem dX1_firstBest_29 : decode cX1_firstBest 29 = .ok (.iconst 1, 1) := by decide +kernel
theorem dX1_firstBest_30 : decode cX1_firstBest 30 = .ok (.iand, 1) := by decide +kernel
theorem dX1_firstBest_31 : decode cX1_firstBest 31 = .ok (.ifCond .ne 24, 3) := by decide +kernel
theorem dX1_firstBest_34 : decode cX1_firstBest 34 = .ok (.aload_n 0, 1) := by decide +kernel
theorem dX1_firstBest_35 : decode cX1_firstBest 35 = .ok (.iload_n 2, 1) := by decide +kernel
theorem dX1_firstBest_36 : decode cX1_firstBest 36 = .ok (.iload 5, 2) := by decide +kernel
theorem dX1_firstBest_38 : decode cX1_firstBest 38 = .ok (.iload_n 3, 1) := by decide +kernel
theorem dX1_firstBest_39 : decode cX1_firstBest 39 = .ok (.iconst 1, 1) := by decide +kernel
theorem dX1_firstBest_40 : decode cX1_firstBest 40 = .ok (.iload 5, 2) := by decide +kernel
theorem dX1_firstBest_42 : decode cX1_firstBest 42 = .ok (.ishl, 1) := by decide +kernel
theorem dX1_firstBest_43 : decode cX1_firstBest 43 = .ok (.ior, 1) := by decide +kernel
theorem dX1_firstBest_44 : decode cX1_firstBest 44 = .ok (.invokevirtual 50, 3) := by decide +kernel
theorem dX1_firstBest_47 : decode cX1_firstBest 47 = .ok (.iload 4, 2) := by decide +kernel
theorem dX1_firstBest_49 : decode cX1_firstBest 49 = .ok (.if_icmp .ne 6, 3) := by decide +kernel
theorem dX1_firstBest_52 : decode cX1_firstBest 52 = .ok (.iload 5, 2) := by decide +kernel
theorem dX1_firstBest_54 : decode cX1_firstBest 54 = .ok (.ireturn, 1) := by decide +kernel
theorem dX1_firstBest_55 : decode cX1_firstBest 55 = .ok (.iinc 5 1, 3) := by decide +kernel
theorem dX1_firstBest_58 : decode cX1_firstBest 58 = .ok (.goto (-42), 3) := by decide +kernel
theorem dX1_firstBest_61 : decode cX1_firstBest 61 = .ok (.bipush (-9), 2) := by decide +kernel
theorem dX1_firstBest_63 : decode cX1_firstBest 63 = .ok (.ireturn, 1) := by decide +kernel
theorem dX2_init_0 : decode cX2_init 0 = .ok (.aload_n 0, 1) := by decide +kernel
theorem dX2_init_1 : decode cX2_init 1 = .ok (.invokespecial 3, 3) := by decide +kernel
theorem dX2_init_4 : decode cX2_init 4 = .ok (.aload_n 0, 1) := by decide +kernel
theorem dX2_init_5 : decode cX2_init 5 = .ok (.bipush 96, 2) := by decide +kernel
theorem dX2_init_7 : decode cX2_init 7 = .ok (.newarray .char, 2) := by decide +kernel
theorem dX2_init_9 : decode cX2_init 9 = .ok (.putfield 9, 3) := by decide +kernel
theorem dX2_init_12 : decode cX2_init 12 = .ok (.aload_n 0, 1) := by decide +kernel
theorem dX2_init_13 : decode cX2_init 13 = .ok (.iconst 0, 1) := by decide +kernel
theorem dX2_init_14 : decode cX2_init 14 = .ok (.putfield 15, 3) := by decide +kernel
theorem dX2_init_17 : decode cX2_init 17 = .ok (.return_, 1) := by decide +kernel
theorem dX2_add_0 : decode cX2_add 0 = .ok (.aload_n 0, 1) := by decide +kernel
theorem dX2_add_1 : decode cX2_add 1 = .ok (.getfield 9, 3) := by decide +kernel
theorem dX2_add_4 : decode cX2_add 4 = .ok (.aload_n 0, 1) := by decide +kernel
theorem dX2_add_5 : decode cX2_add 5 = .ok (.getfield 15, 3) := by decide +kernel
theorem dX2_add_8 : decode cX2_add 8 = .ok (.iload_n 1, 1) := by decide +kernel
theorem dX2_add_9 : decode cX2_add 9 = .ok (.i2c, 1) := by decide +kernel
theorem dX2_add_10 : decode cX2_add 10 = .ok (.castore, 1) := by decide +kernel
theorem dX2_add_11 : decode cX2_add 11 = .ok (.aload_n 0, 1) := by decide +kernel
theorem dX2_add_12 : decode cX2_add 12 = .ok (.dup, 1) := by decide +kernel
theorem dX2_add_13 : decode cX2_add 13 = .ok (.getfield 15, 3) := by decide +kernel
theorem dX2_add_16 : decode cX2_add 16 = .ok (.iconst 1, 1) := by decide +kernel
theorem dX2_add_17 : decode cX2_add 17 = .ok (.iadd, 1) := by decide +kernel
theorem dX2_add_18 : decode cX2_add 18 = .ok (.putfield 15, 3) := by decide +kernel
theorem dX2_add_21 : decode cX2_add 21 = .ok (.aload_n 0, 1) := by decide +kernel
theorem dX2_add_22 : decode cX2_add 22 = .ok (.getfield 15, 3) := by decide +kernel
theorem dX2_add_25 : decode cX2_add 25 = .ok (.ireturn, 1) := by decide +kernel
theorem dX2_wrongPlace_0 : decode cX2_wrongPlace 0 = .ok (.iconst 0, 1) := by decide +kernel
theorem dX2_wrongPlace_1 : decode cX2_wrongPlace 1 = .ok (.istore_n 1, 1) := by decide +kernel
theorem dX2_wrongPlace_2 : decode cX2_wrongPlace 2 = .ok (.iconst 0, 1) := by decide +kernel
theorem dX2_wrongPlace_3 : decode cX2_wrongPlace 3 = .ok (.istore_n 2, 1) := by decide +kernel
theorem dX2_wrongPlace_4 : decode cX2_wrongPlace 4 = .ok (.iload_n 2, 1) := by decide +kernel
theorem dX2_wrongPlace_5 : decode cX2_wrongPlace 5 = .ok (.aload_n 0, 1) := by decide +kernel
theorem dX2_wrongPlace_6 : decode cX2_wrongPlace 6 = .ok (.getfield 15, 3) := by decide +kernel
theorem dX2_wrongPlace_9 : decode cX2_wrongPlace 9 = .ok (.if_icmp .ge 35, 3) := by decide +kernel
theorem dX2_wrongPlace_12 : decode cX2_wrongPlace 12 = .ok (.aload_n 0, 1) := by decide +kernel
theorem dX2_wrongPlace_13 : decode cX2_wrongPlace 13 = .ok (.iload_n 1, 1) := by decide +kernel
theorem dX2_wrongPlace_14 : decode cX2_wrongPlace 14 = .ok (.iload_n 2, 1) := by decide +kernel
theorem dX2_wrongPlace_15 : decode cX2_wrongPlace 15 = .ok (.invokevirtual 19, 3) := by decide +kernel
theorem dX2_wrongPlace_18 : decode cX2_wrongPlace 18 = .ok (.ifCond .ne 5, 3) := by decide +kernel
theorem dX2_wrongPlace_21 : decode cX2_wrongPlace 21 = .ok (.iload_n 2, 1) := by decide +kernel
theorem dX2_wrongPlace_22 : decode cX2_wrongPlace 22 = .ok (.ireturn, 1) := by decide +kernel
theorem dX2_wrongPlace_23 : decode cX2_wrongPlace 23 = .ok (.aload_n 0, 1) := by decide +kernel
theorem dX2_wrongPlace_24 : decode cX2_wrongPlace 24 = .ok (.getfield 9, 3) := by decide +kernel
theorem dX2_wrongPlace_27 : decode cX2_wrongPlace 27 = .ok (.iload_n 2, 1) := by decide +kernel
theorem dX2_wrongPlace_28 : decode cX2_wrongPlace 28 = .ok (.caload, 1) := by decide +kernel
theorem dX2_wrongPlace_29 : decode cX2_wrongPlace 29 = .ok (.bipush 59, 2) := by decide +kernel
theorem dX2_wrongPlace_31 : decode cX2_wrongPlace 31 = .ok (.if_icmp .ne 7, 3) := by decide +kernel
theorem dX2_wrongPlace_34 : decode cX2_wrongPlace 34 = .ok (.iload_n 2, 1) := by decide +kernel
theorem dX2_wrongPlace_35 : decode cX2_wrongPlace 35 = .ok (.iconst 1, 1) := by decide +kernel
theorem dX2_wrongPlace_36 : decode cX2_wrongPlace 36 = .ok (.iadd, 1) := by decide +kernel
theorem dX2_wrongPlace_37 : decode cX2_wrongPlace 37 = .ok (.istore_n 1, 1) := by decide +kernel
theorem dX2_wrongPlace_38 : decode cX2_wrongPlace 38 = .ok (.iinc 2 1, 3) := by decide +kernel
theorem dX2_wrongPlace_41 : decode cX2_wrongPlace 41 = .ok (.goto (-37), 3) := by decide +kernel
theorem dX2_wrongPlace_44 : decode cX2_wrongPlace 44 = .ok (.aload_n 0, 1) := by decide +kernel
theorem dX2_wrongPlace_45 : decode cX2_wrongPlace 45 = .ok (.getfield 15, 3) := by decide +kernel
theorem dX2_wrongPlace_48 : decode cX2_wrongPlace 48 = .ok (.ifCond .eq 11, 3) := by decide +kernel
theorem dX2_wrongPlace_51 : decode cX2_wrongPlace 51 = .ok (.iload_n 1, 1) := by decide +kernel
theorem dX2_wrongPlace_52 : decode cX2_wrongPlace 52 = .ok (.aload_n 0, 1) := by decide +kernel
theorem dX2_wrongPlace_53 : decode cX2_wrongPlace 53 = .ok (.getfield 15, 3) := by decide +kernel
theorem dX2_wrongPlace_56 : decode cX2_wrongPlace 56 = .ok (.if_icmp .ge 10, 3) := by decide +kernel
theorem dX2_wrongPlace_59 : decode cX2_wrongPlace 59 = .ok (.aload_n 0, 1) := by decide +kernel
theorem dX2_wrongPlace_60 : decode cX2_wrongPlace 60 = .ok (.getfield 15, 3) := by decide +kernel
theorem dX2_wrongPlace_63 : decode cX2_wrongPlace 63 = .ok (.goto 5, 3) := by decide +kernel
theorem dX2_wrongPlace_66 : decode cX2_wrongPlace 66 = .ok (.bipush (-9), 2) := by decide +kernel
theorem dX2_wrongPlace_68 : decode cX2_wrongPlace 68 = .ok (.ireturn, 1) := by decide +kernel
theorem dX2_fits_0 : decode cX2_fits 0 = .ok (.aload_n 0, 1) := by decide +kernel
theorem dX2_fits_1 : decode cX2_fits 1 = .ok (.getfield 9, 3) := by decide +kernel
theorem dX2_fits_4 : decode cX2_fits 4 = .ok (.iload_n 1, 1) := by decide +kernel
theorem dX2_fits_5 : decode cX2_fits 5 = .ok (.caload, 1) := by decide +kernel
theorem dX2_fits_6 : decode cX2_fits 6 = .ok (.invokestatic 23, 3) := by decide +kernel
theorem dX2_fits_9 : decode cX2_fits 9 = .ok (.istore_n 3, 1) := by decide +kernel
theorem dX2_fits_10 : decode cX2_fits 10 = .ok (.iload_n 2, 1) := by decide +kernel
theorem dX2_fits_11 : decode cX2_fits 11 = .ok (.iload_n 1, 1) := by decide +kernel
theorem dX2_fits_12 : decode cX2_fits 12 = .ok (.if_icmp .ne 13, 3) := by decide +kernel
theorem dX2_fits_15 : decode cX2_fits 15 = .ok (.iload_n 3, 1) := by decide +kernel
theorem dX2_fits_16 : decode cX2_fits 16 = .ok (.ifCond .le 7, 3) := by decide +kernel
theorem dX2_fits_19 : decode cX2_fits 19 = .ok (.iconst 1, 1) := by decide +kernel
theorem dX2_fits_20 : decode cX2_fits 20 = .ok (.goto 4, 3) := by decide +kernel
theorem dX2_fits_23 : decode cX2_fits 23 = .ok (.iconst 0, 1) := by decide +kernel
theorem dX2_fits_24 : decode cX2_fits 24 = .ok (.ireturn, 1) := by decide +kernel
theorem dX2_fits_25 : decode cX2_fits 25 = .ok (.iload_n 2, 1) := by decide +kernel
theorem dX2_fits_26 : decode cX2_fits 26 = .ok (.iload_n 1, 1) := by decide +kernel
theorem dX2_fits_27 : decode cX2_fits 27 = .ok (.isub, 1) := by decide +kernel
theorem dX2_fits_28 : decode cX2_fits 28 = .ok (.iload_n 3, 1) := by decide +kernel
theorem dX2_fits_29 : decode cX2_fits 29 = .ok (.if_icmp .le 20, 3) := by decide +kernel
theorem dX2_fits_32 : decode cX2_fits 32 = .ok (.aload_n 0, 1) := by decide +kernel
theorem dX2_fits_33 : decode cX2_fits 33 = .ok (.getfield 9, 3) := by decide +kernel
theorem dX2_fits_36 : decode cX2_fits 36 = .ok (.iload_n 2, 1) := by decide +kernel
theorem dX2_fits_37 : decode cX2_fits 37 = .ok (.caload, 1) := by decide +kernel
theorem dX2_fits_38 : decode cX2_fits 38 = .ok (.bipush 59, 2) := by decide +kernel
theorem dX2_fits_40 : decode cX2_fits 40 = .ok (.if_icmp .ne 7, 3) := by decide +kernel
theorem dX2_fits_43 : decode cX2_fits 43 = .ok (.iconst 1, 1) := by decide +kernel
theorem dX2_fits_44 : decode cX2_fits 44 = .ok (.goto 4, 3) := by decide +kernel
theorem dX2_fits_47 : decode cX2_fits 47 = .ok (.iconst 0, 1) := by decide +kernel
theorem dX2_fits_48 : decode cX2_fits 48 = .ok (.ireturn, 1) := by decide +kernel
theorem dX2_fits_49 : decode cX2_fits 49 = .ok (.iload_n 2, 1) := by decide +kernel
theorem dX2_fits_50 : decode cX2_fits 50 = .ok (.iload_n 1, 1) := by decide +kernel
theorem dX2_fits_51 : decode cX2_fits 51 = .ok (.iconst 1, 1) := by decide +kernel
theorem dX2_fits_52 : decode cX2_fits 52 = .ok (.iadd, 1) := by decide +kernel
theorem dX2_fits_53 : decode cX2_fits 53 = .ok (.if_icmp .ne 34, 3) := by decide +kernel
theorem dX2_fits_56 : decode cX2_fits 56 = .ok (.aload_n 0, 1) := by decide +kernel
theorem dX2_fits_57 : decode cX2_fits 57 = .ok (.getfield 9, 3) := by decide +kernel
theorem dX2_fits_60 : decode cX2_fits 60 = .ok (.iload_n 1, 1) := by decide +kernel
theorem dX2_fits_61 : decode cX2_fits 61 = .ok (.caload, 1) := by decide +kernel
theorem dX2_fits_62 : decode cX2_fits 62 = .ok (.bipush 115, 2) := by decide +kernel
theorem dX2_fits_64 : decode cX2_fits 64 = .ok (.if_icmp .ne 23, 3) := by decide +kernel
theorem dX2_fits_67 : decode cX2_fits 67 = .ok (.ldc 27, 2) := by decide +kernel
theorem dX2_fits_69 : decode cX2_fits 69 = .ok (.aload_n 0, 1) := by decide +kernel
theorem dX2_fits_70 : decode cX2_fits 70 = .ok (.getfield 9, 3) := by decide +kernel
theorem dX2_fits_73 : decode cX2_fits 73 = .ok (.iload_n 2, 1) := by decide +kernel
theorem dX2_fits_74 : decode cX2_fits 74 = .ok (.caload, 1) := by decide +kernel
theorem dX2_fits_75 : decode cX2_fits 75 = .ok (.invokevirtual 29, 3) := by decide +kernel
theorem dX2_fits_78 : decode cX2_fits 78 = .ok (.ifCond .lt 7, 3) := by decide +kernel
theorem dX2_fits_81 : decode cX2_fits 81 = .ok (.iconst 1, 1) := by decide +kernel
theorem dX2_fits_82 : decode cX2_fits 82 = .ok (.goto 4, 3) := by decide +kernel
theorem dX2_fits_85 : decode cX2_fits 85 = .ok (.iconst 0, 1) := by decide +kernel
theorem dX2_fits_86 : decode cX2_fits 86 = .ok (.ireturn, 1) := by decide +kernel
theorem dX2_fits_87 : decode cX2_fits 87 = .ok (.aload_n 0, 1) := by decide +kernel
theorem dX2_fits_88 : decode cX2_fits 88 = .ok (.getfield 9, 3) := by decide +kernel
theorem dX2_fits_91 : decode cX2_fits 91 = .ok (.iload_n 2, 1) := by decide +kernel
theorem dX2_fits_92 : decode cX2_fits 92 = .ok (.caload, 1) := by decide +kernel
theorem dX2_fits_93 : decode cX2_fits 93 = .ok (.bipush 48, 2) := by decide +kernel
theorem dX2_fits_95 : decode cX2_fits 95 = .ok (.if_icmp .lt 18, 3) := by decide +kernel
theorem dX2_fits_98 : decode cX2_fits 98 = .ok (.aload_n 0, 1) := by decide +kernel
theorem dX2_fits_99 : decode cX2_fits 99 = .ok (.getfield 9, 3) := by decide +kernel
theorem dX2_fits_102 : decode cX2_fits 102 = .ok (.iload_n 2, 1) := by decide +kernel
theorem dX2_fits_103 : decode cX2_fits 103 = .ok (.caload, 1) := by decide +kernel
theorem dX2_fits_104 : decode cX2_fits 104 = .ok (.bipush 57, 2) := by decide +kernel
theorem dX2_fits_106 : decode cX2_fits 106 = .ok (.if_icmp .gt 7, 3) := by decide +kernel
theorem dX2_fits_109 : decode cX2_fits 109 = .ok (.iconst 1, 1) := by decide +kernel
theorem dX2_fits_110 : decode cX2_fits 110 = .ok (.goto 4, 3) := by decide +kernel
theorem dX2_fits_113 : decode cX2_fits 113 = .ok (.iconst 0, 1) := by decide +kernel
theorem dX2_fits_114 : decode cX2_fits 114 = .ok (.ireturn, 1) := by decide +kernel
theorem dX2_signsBehind_0 : decode cX2_signsBehind 0 = .ok (.iload_n 0, 1) := by decide +kernel
theorem dX2_signsBehind_1 : decode cX2_signsBehind 1 = .ok (.tableswitch 105 99 119 #[99, 99, 105, 103, 105, 105, 105, 105, 105, 105, 105, 105, 101, 105, 105, 99, 99, 105, 105, 105, 99], 99) := by decide +kernel
theorem dX2_signsBehind_100 : decode cX2_signsBehind 100 = .ok (.iconst 2, 1) := by decide +kernel
theorem dX2_signsBehind_101 : decode cX2_signsBehind 101 = .ok (.ireturn, 1) := by decide +kernel
theorem dX2_signsBehind_102 : decode cX2_signsBehind 102 = .ok (.iconst 1, 1) := by decide +kernel
theorem dX2_signsBehind_103 : decode cX2_signsBehind 103 = .ok (.ireturn, 1) := by decide +kernel
theorem dX2_signsBehind_104 : decode cX2_signsBehind 104 = .ok (.iconst 3, 1) := by decide +kernel
theorem dX2_signsBehind_105 : decode cX2_signsBehind 105 = .ok (.ireturn, 1) := by decide +kernel
theorem dX2_signsBehind_106 : decode cX2_signsBehind 106 = .ok (.iconst 0, 1) := by decide +kernel
theorem dX2_signsBehind_107 : decode cX2_signsBehind 107 = .ok (.ireturn, 1) := by decide +kernel
theorem dX2_lengthAt_0 : decode cX2_lengthAt 0 = .ok (.aload_n 0, 1) := by decide +kernel
theorem dX2_lengthAt_1 : decode cX2_lengthAt 1 = .ok (.getfield 9, 3) := by decide +kernel
theorem dX2_lengthAt_4 : decode cX2_lengthAt 4 = .ok (.iload_n 1, 1) := by decide +kernel
theorem dX2_lengthAt_5 : decode cX2_lengthAt 5 = .ok (.caload, 1) := by decide +kernel
theorem dX2_lengthAt_6 : decode cX2_lengthAt 6 = .ok (.invokestatic 23, 3) := by decide +kernel
theorem dX2_lengthAt_9 : decode cX2_lengthAt 9 = .ok (.iconst 2, 1) := by decide +kernel
theorem dX2_lengthAt_10 : decode cX2_lengthAt 10 = .ok (.iadd, 1) := by decide +kernel
theorem dX2_lengthAt_11 : decode cX2_lengthAt 11 = .ok (.ireturn, 1) := by decide +kernel
theorem dX2_takes_0 : decode cX2_takes 0 = .ok (.aload_n 0, 1) := by decide +kernel
theorem dX2_takes_1 : decode cX2_takes 1 = .ok (.getfield 9, 3) := by decide +kernel
theorem dX2_takes_4 : decode cX2_takes 4 = .ok (.iload_n 2, 1) := by decide +kernel
theorem dX2_takes_5 : decode cX2_takes 5 = .ok (.caload, 1) := by decide +kernel
theorem dX2_takes_6 : decode cX2_takes 6 = .ok (.istore_n 3, 1) := by decide +kernel
theorem dX2_takes_7 : decode cX2_takes 7 = .ok (.iload_n 3, 1) := by decide +kernel
theorem dX2_takes_8 : decode cX2_takes 8 = .ok (.lookupswitch 166 #[(99, 85), (102, 128), (111, 116), (114, 147), (115, 60), (119, 97)], 60) := by decide +kernel
theorem dX2_takes_68 : decode cX2_takes 68 = .ok (.aload_n 1, 1) := by decide +kernel
theorem dX2_takes_69 : decode cX2_takes 69 = .ok (.ldc 27, 2) := by decide +kernel
theorem dX2_takes_71 : decode cX2_takes 71 = .ok (.aload_n 0, 1) := by decide +kernel
theorem dX2_takes_72 : decode cX2_takes 72 = .ok (.getfield 9, 3) := by decide +kernel
theorem dX2_takes_75 : decode cX2_takes 75 = .ok (.iload_n 2, 1) := by decide +kernel
theorem dX2_takes_76 : decode cX2_takes 76 = .ok (.iconst 1, 1) := by decide +kernel
theorem dX2_takes_77 : decode cX2_takes 77 = .ok (.iadd, 1) := by decide +kernel
theorem dX2_takes_78 : decode cX2_takes 78 = .ok (.caload, 1) := by decide +kernel
theorem dX2_takes_79 : decode cX2_takes 79 = .ok (.invokevirtual 29, 3) := by decide +kernel
theorem dX2_takes_82 : decode cX2_takes 82 = .ok (.aload_n 0, 1) := by decide +kernel
theorem dX2_takes_83 : decode cX2_takes 83 = .ok (.iload_n 2, 1) := by decide +kernel
theorem dX2_takes_84 : decode cX2_takes 84 = .ok (.iconst 2, 1) := by decide +kernel
theorem dX2_takes_85 : decode cX2_takes 85 = .ok (.iadd, 1) := by decide +kernel
theorem dX2_takes_86 : decode cX2_takes 86 = .ok (.invokevirtual 34, 3) := by decide +kernel
theorem dX2_takes_89 : decode cX2_takes 89 = .ok (.invokevirtual 37, 3) := by decide +kernel
theorem dX2_takes_92 : decode cX2_takes 92 = .ok (.ireturn, 1) := by decide +kernel
theorem dX2_takes_93 : decode cX2_takes 93 = .ok (.aload_n 1, 1) := by decide +kernel
theorem dX2_takes_94 : decode cX2_takes 94 = .ok (.aload_n 0, 1) := by decide +kernel
theorem dX2_takes_95 : decode cX2_takes 95 = .ok (.iload_n 2, 1) := by decide +kernel
theorem dX2_takes_96 : decode cX2_takes 96 = .ok (.iconst 1, 1) := by decide +kernel
theorem dX2_takes_97 : decode cX2_takes 97 = .ok (.iadd, 1) := by decide +kernel
theorem dX2_takes_98 : decode cX2_takes 98 = .ok (.invokevirtual 42, 3) := by decide +kernel
theorem dX2_takes_101 : decode cX2_takes 101 = .ok (.invokevirtual 45, 3) := by decide +kernel
theorem dX2_takes_104 : decode cX2_takes 104 = .ok (.ireturn, 1) := by decide +kernel
theorem dX2_takes_105 : decode cX2_takes 105 = .ok (.aload_n 1, 1) := by decide +kernel
theorem dX2_takes_106 : decode cX2_takes 106 = .ok (.aload_n 0, 1) := by decide +kernel
theorem dX2_takes_107 : decode cX2_takes 107 = .ok (.iload_n 2, 1) := by decide +kernel
theorem dX2_takes_108 : decode cX2_takes 108 = .ok (.iconst 1, 1) := by decide +kernel
theorem dX2_takes_109 : decode cX2_takes 109 = .ok (.iadd, 1) := by decide +kernel
theorem dX2_takes_110 : decode cX2_takes 110 = .ok (.invokevirtual 34, 3) := by decide +kernel
theorem dX2_takes_113 : decode cX2_takes 113 = .ok (.aload_n 0, 1) := by decide +kernel
theorem dX2_takes_114 : decode cX2_takes 114 = .ok (.iload_n 2, 1) := by decide +kernel
theorem dX2_takes_115 : decode cX2_takes 115 = .ok (.iconst 2, 1) := by decide +kernel
theorem dX2_takes_116 : decode cX2_takes 116 = .ok (.iadd, 1) := by decide +kernel
theorem dX2_takes_117 : decode cX2_takes 117 = .ok (.invokevirtual 34, 3) := by decide +kernel
theorem dX2_takes_120 : decode cX2_takes 120 = .ok (.invokestatic 49, 3) := by decide +kernel
theorem dX2_takes_123 : decode cX2_takes 123 = .ok (.ireturn, 1) := by decide +kernel
theorem dX2_takes_124 : decode cX2_takes 124 = .ok (.aload_n 1, 1) := by decide +kernel
theorem dX2_takes_125 : decode cX2_takes 125 = .ok (.aload_n 0, 1) := by decide +kernel
theorem dX2_takes_126 : decode cX2_takes 126 = .ok (.iload_n 2, 1) := by decide +kernel
theorem dX2_takes_127 : decode cX2_takes 127 = .ok (.iconst 1, 1) := by decide +kernel
theorem dX2_takes_128 : decode cX2_takes 128 = .ok (.iadd, 1) := by decide +kernel
theorem dX2_takes_129 : decode cX2_takes 129 = .ok (.invokevirtual 34, 3) := by decide +kernel
theorem dX2_takes_132 : decode cX2_takes 132 = .ok (.invokestatic 53, 3) := by decide +kernel
theorem dX2_takes_135 : decode cX2_takes 135 = .ok (.ireturn, 1) := by decide +kernel
theorem dX2_takes_136 : decode cX2_takes 136 = .ok (.aload_n 1, 1) := by decide +kernel
theorem dX2_takes_137 : decode cX2_takes 137 = .ok (.aload_n 0, 1) := by decide +kernel
theorem dX2_takes_138 : decode cX2_takes 138 = .ok (.iload_n 2, 1) := by decide +kernel
theorem dX2_takes_139 : decode cX2_takes 139 = .ok (.iconst 1, 1) := by decide +kernel
theorem dX2_takes_140 : decode cX2_takes 140 = .ok (.iadd, 1) := by decide +kernel
theorem dX2_takes_141 : decode cX2_takes 141 = .ok (.invokevirtual 34, 3) := by decide +kernel
theorem dX2_takes_144 : decode cX2_takes 144 = .ok (.aload_n 0, 1) := by decide +kernel
theorem dX2_takes_145 : decode cX2_takes 145 = .ok (.iload_n 2, 1) := by decide +kernel
theorem dX2_takes_146 : decode cX2_takes 146 = .ok (.iconst 2, 1) := by decide +kernel
theorem dX2_takes_147 : decode cX2_takes 147 = .ok (.iadd, 1) := by decide +kernel
theorem dX2_takes_148 : decode cX2_takes 148 = .ok (.invokevirtual 42, 3) := by decide +kernel
theorem dX2_takes_151 : decode cX2_takes 151 = .ok (.invokestatic 57, 3) := by decide +kernel
theorem dX2_takes_154 : decode cX2_takes 154 = .ok (.ireturn, 1) := by decide +kernel
theorem dX2_takes_155 : decode cX2_takes 155 = .ok (.aload_n 1, 1) := by decide +kernel
theorem dX2_takes_156 : decode cX2_takes 156 = .ok (.aload_n 0, 1) := by decide +kernel
theorem dX2_takes_157 : decode cX2_takes 157 = .ok (.iload_n 2, 1) := by decide +kernel
theorem dX2_takes_158 : decode cX2_takes 158 = .ok (.iconst 1, 1) := by decide +kernel
theorem dX2_takes_159 : decode cX2_takes 159 = .ok (.iadd, 1) := by decide +kernel
theorem dX2_takes_160 : decode cX2_takes 160 = .ok (.invokevirtual 34, 3) := by decide +kernel
theorem dX2_takes_163 : decode cX2_takes 163 = .ok (.aload_n 0, 1) := by decide +kernel
theorem dX2_takes_164 : decode cX2_takes 164 = .ok (.iload_n 2, 1) := by decide +kernel
theorem dX2_takes_165 : decode cX2_takes 165 = .ok (.iconst 2, 1) := by decide +kernel
theorem dX2_takes_166 : decode cX2_takes 166 = .ok (.iadd, 1) := by decide +kernel
theorem dX2_takes_167 : decode cX2_takes 167 = .ok (.invokevirtual 34, 3) := by decide +kernel
theorem dX2_takes_170 : decode cX2_takes 170 = .ok (.invokestatic 60, 3) := by decide +kernel
theorem dX2_takes_173 : decode cX2_takes 173 = .ok (.ireturn, 1) := by decide +kernel
theorem dX2_takes_174 : decode cX2_takes 174 = .ok (.aload_n 0, 1) := by decide +kernel
theorem dX2_takes_175 : decode cX2_takes 175 = .ok (.iload_n 2, 1) := by decide +kernel
theorem dX2_takes_176 : decode cX2_takes 176 = .ok (.iconst 1, 1) := by decide +kernel
theorem dX2_takes_177 : decode cX2_takes 177 = .ok (.iadd, 1) := by decide +kernel
theorem dX2_takes_178 : decode cX2_takes 178 = .ok (.invokevirtual 42, 3) := by decide +kernel
theorem dX2_takes_181 : decode cX2_takes 181 = .ok (.istore 4, 2) := by decide +kernel
theorem dX2_takes_183 : decode cX2_takes 183 = .ok (.iload 4, 2) := by decide +kernel
theorem dX2_takes_185 : decode cX2_takes 185 = .ok (.iconst 1, 1) := by decide +kernel
theorem dX2_takes_186 : decode cX2_takes 186 = .ok (.if_icmp .lt 27, 3) := by decide +kernel
theorem dX2_takes_189 : decode cX2_takes 189 = .ok (.iload 4, 2) := by decide +kernel
theorem dX2_takes_191 : decode cX2_takes 191 = .ok (.bipush 60, 2) := by decide +kernel
theorem dX2_takes_193 : decode cX2_takes 193 = .ok (.if_icmp .gt 20, 3) := by decide +kernel
theorem dX2_takes_196 : decode cX2_takes 196 = .ok (.aload_n 1, 1) := by decide +kernel
theorem dX2_takes_197 : decode cX2_takes 197 = .ok (.getfield 63, 3) := by decide +kernel
theorem dX2_takes_200 : decode cX2_takes 200 = .ok (.iload 4, 2) := by decide +kernel
theorem dX2_takes_202 : decode cX2_takes 202 = .ok (.iadd, 1) := by decide +kernel
theorem dX2_takes_203 : decode cX2_takes 203 = .ok (.sipush 999, 3) := by decide +kernel
theorem dX2_takes_206 : decode cX2_takes 206 = .ok (.if_icmp .gt 7, 3) := by decide +kernel
theorem dX2_takes_209 : decode cX2_takes 209 = .ok (.iconst 1, 1) := by decide +kernel
theorem dX2_takes_210 : decode cX2_takes 210 = .ok (.goto 4, 3) := by decide +kernel
theorem dX2_takes_213 : decode cX2_takes 213 = .ok (.iconst 0, 1) := by decide +kernel
theorem dX2_takes_214 : decode cX2_takes 214 = .ok (.istore 5, 2) := by decide +kernel
theorem dX2_takes_216 : decode cX2_takes 216 = .ok (.aload_n 1, 1) := by decide +kernel
theorem dX2_takes_217 : decode cX2_takes 217 = .ok (.iload 5, 2) := by decide +kernel
theorem dX2_takes_219 : decode cX2_takes 219 = .ok (.ifCond .eq 8, 3) := by decide +kernel
theorem dX2_takes_222 : decode cX2_takes 222 = .ok (.iload 4, 2) := by decide +kernel
theorem dX2_takes_224 : decode cX2_takes 224 = .ok (.goto 4, 3) := by decide +kernel
theorem dX2_takes_227 : decode cX2_takes 227 = .ok (.iconst 0, 1) := by decide +kernel
theorem dX2_takes_228 : decode cX2_takes 228 = .ok (.invokevirtual 66, 3) := by decide +kernel
theorem dX2_takes_231 : decode cX2_takes 231 = .ok (.iload 5, 2) := by decide +kernel
theorem dX2_takes_233 : decode cX2_takes 233 = .ok (.ireturn, 1) := by decide +kernel
theorem dX2_digit_0 : decode cX2_digit 0 = .ok (.aload_n 0, 1) := by decide +kernel
theorem dX2_digit_1 : decode cX2_digit 1 = .ok (.getfield 9, 3) := by decide +kernel
theorem dX2_digit_4 : decode cX2_digit 4 = .ok (.iload_n 1, 1) := by decide +kernel
theorem dX2_digit_5 : decode cX2_digit 5 = .ok (.caload, 1) := by decide +kernel
theorem dX2_digit_6 : decode cX2_digit 6 = .ok (.bipush 48, 2) := by decide +kernel
theorem dX2_digit_8 : decode cX2_digit 8 = .ok (.isub, 1) := by decide +kernel
theorem dX2_digit_9 : decode cX2_digit 9 = .ok (.ireturn, 1) := by decide +kernel
theorem dX2_number_0 : decode cX2_number 0 = .ok (.bipush 10, 2) := by decide +kernel
theorem dX2_number_2 : decode cX2_number 2 = .ok (.aload_n 0, 1) := by decide +kernel
theorem dX2_number_3 : decode cX2_number 3 = .ok (.iload_n 1, 1) := by decide +kernel
theorem dX2_number_4 : decode cX2_number 4 = .ok (.invokevirtual 34, 3) := by decide +kernel
theorem dX2_number_7 : decode cX2_number 7 = .ok (.imul, 1) := by decide +kernel
theorem dX2_number_8 : decode cX2_number 8 = .ok (.aload_n 0, 1) := by decide +kernel
theorem dX2_number_9 : decode cX2_number 9 = .ok (.iload_n 1, 1) := by decide +kernel
theorem dX2_number_10 : decode cX2_number 10 = .ok (.iconst 1, 1) := by decide +kernel
theorem dX2_number_11 : decode cX2_number 11 = .ok (.iadd, 1) := by decide +kernel
theorem dX2_number_12 : decode cX2_number 12 = .ok (.invokevirtual 34, 3) := by decide +kernel
theorem dX2_number_15 : decode cX2_number 15 = .ok (.iadd, 1) := by decide +kernel
theorem dX2_number_16 : decode cX2_number 16 = .ok (.ireturn, 1) := by decide +kernel
theorem dX2_takesWearing_0 : decode cX2_takesWearing 0 = .ok (.iload_n 1, 1) := by decide +kernel
theorem dX2_takesWearing_1 : decode cX2_takesWearing 1 = .ok (.aload_n 0, 1) := by decide +kernel
theorem dX2_takesWearing_2 : decode cX2_takesWearing 2 = .ok (.getfield 70, 3) := by decide +kernel
theorem dX2_takesWearing_5 : decode cX2_takesWearing 5 = .ok (.if_icmp .ge 11, 3) := by decide +kernel
theorem dX2_takesWearing_8 : decode cX2_takesWearing 8 = .ok (.iload_n 2, 1) := by decide +kernel
theorem dX2_takesWearing_9 : decode cX2_takesWearing 9 = .ok (.aload_n 0, 1) := by decide +kernel
theorem dX2_takesWearing_10 : decode cX2_takesWearing 10 = .ok (.getfield 73, 3) := by decide +kernel
theorem dX2_takesWearing_13 : decode cX2_takesWearing 13 = .ok (.if_icmp .lt 5, 3) := by decide +kernel
theorem dX2_takesWearing_16 : decode cX2_takesWearing 16 = .ok (.iconst 0, 1) := by decide +kernel
theorem dX2_takesWearing_17 : decode cX2_takesWearing 17 = .ok (.ireturn, 1) := by decide +kernel
theorem dX2_takesWearing_18 : decode cX2_takesWearing 18 = .ok (.aload_n 0, 1) := by decide +kernel
theorem dX2_takesWearing_19 : decode cX2_takesWearing 19 = .ok (.iload_n 1, 1) := by decide +kernel
theorem dX2_takesWearing_20 : decode cX2_takesWearing 20 = .ok (.iload_n 2, 1) := by decide +kernel
theorem dX2_takesWearing_21 : decode cX2_takesWearing 21 = .ok (.invokevirtual 76, 3) := by decide +kernel
theorem dX2_takesWearing_24 : decode cX2_takesWearing 24 = .ok (.iconst 1, 1) := by decide +kernel
theorem dX2_takesWearing_25 : decode cX2_takesWearing 25 = .ok (.ireturn, 1) := by decide +kernel
theorem dX2_takesUndressing_0 : decode cX2_takesUndressing 0 = .ok (.iload_n 1, 1) := by decide +kernel
theorem dX2_takesUndressing_1 : decode cX2_takesUndressing 1 = .ok (.aload_n 0, 1) := by decide +kernel
theorem dX2_takesUndressing_2 : decode cX2_takesUndressing 2 = .ok (.getfield 70, 3) := by decide +kernel
theorem dX2_takesUndressing_5 : decode cX2_takesUndressing 5 = .ok (.if_icmp .lt 5, 3) := by decide +kernel
theorem dX2_takesUndressing_8 : decode cX2_takesUndressing 8 = .ok (.iconst 0, 1) := by decide +kernel
theorem dX2_takesUndressing_9 : decode cX2_takesUndressing 9 = .ok (.ireturn, 1) := by decide +kernel
theorem dX2_takesUndressing_10 : decode cX2_takesUndressing 10 = .ok (.aload_n 0, 1) := by decide +kernel
theorem dX2_takesUndressing_11 : decode cX2_takesUndressing 11 = .ok (.getfield 80, 3) := by decide +kernel
theorem dX2_takesUndressing_14 : decode cX2_takesUndressing 14 = .ok (.iload_n 1, 1) := by decide +kernel
theorem dX2_takesUndressing_15 : decode cX2_takesUndressing 15 = .ok (.bipush (-9), 2) := by decide +kernel
theorem dX2_takesUndressing_17 : decode cX2_takesUndressing 17 = .ok (.iastore, 1) := by decide +kernel
theorem dX2_takesUndressing_18 : decode cX2_takesUndressing 18 = .ok (.iconst 1, 1) := by decide +kernel
theorem dX2_takesUndressing_19 : decode cX2_takesUndressing 19 = .ok (.ireturn, 1) := by decide +kernel
theorem dX2_takesFear_0 : decode cX2_takesFear 0 = .ok (.iload_n 1, 1) := by decide +kernel
theorem dX2_takesFear_1 : decode cX2_takesFear 1 = .ok (.aload_n 0, 1) := by decide +kernel
theorem dX2_takesFear_2 : decode cX2_takesFear 2 = .ok (.getfield 70, 3) := by decide +kernel
theorem dX2_takesFear_5 : decode cX2_takesFear 5 = .ok (.if_icmp .ge 9, 3) := by decide +kernel
theorem dX2_takesFear_8 : decode cX2_takesFear 8 = .ok (.iload_n 2, 1) := by decide +kernel
theorem dX2_takesFear_9 : decode cX2_takesFear 9 = .ok (.bipush 20, 2) := by decide +kernel
theorem dX2_takesFear_11 : decode cX2_takesFear 11 = .ok (.if_icmp .le 5, 3) := by decide +kernel
theorem dX2_takesFear_14 : decode cX2_takesFear 14 = .ok (.iconst 0, 1) := by decide +kernel
theorem dX2_takesFear_15 : decode cX2_takesFear 15 = .ok (.ireturn, 1) := by decide +kernel
theorem dX2_takesFear_16 : decode cX2_takesFear 16 = .ok (.aload_n 0, 1) := by decide +kernel
theorem dX2_takesFear_17 : decode cX2_takesFear 17 = .ok (.getfield 84, 3) := by decide +kernel
theorem dX2_takesFear_20 : decode cX2_takesFear 20 = .ok (.iload_n 1, 1) := by decide +kernel
theorem dX2_takesFear_21 : decode cX2_takesFear 21 = .ok (.iload_n 2, 1) := by decide +kernel
theorem dX2_takesFear_22 : decode cX2_takesFear 22 = .ok (.iastore, 1) := by decide +kernel
theorem dX2_takesFear_23 : decode cX2_takesFear 23 = .ok (.iconst 1, 1) := by decide +kernel
theorem dX2_takesFear_24 : decode cX2_takesFear 24 = .ok (.ireturn, 1) := by decide +kernel
theorem dX2_takesRust_0 : decode cX2_takesRust 0 = .ok (.iload_n 1, 1) := by decide +kernel
theorem dX2_takesRust_1 : decode cX2_takesRust 1 = .ok (.aload_n 0, 1) := by decide +kernel
theorem dX2_takesRust_2 : decode cX2_takesRust 2 = .ok (.getfield 73, 3) := by decide +kernel
theorem dX2_takesRust_5 : decode cX2_takesRust 5 = .ok (.if_icmp .lt 5, 3) := by decide +kernel
theorem dX2_takesRust_8 : decode cX2_takesRust 8 = .ok (.iconst 0, 1) := by decide +kernel
theorem dX2_takesRust_9 : decode cX2_takesRust 9 = .ok (.ireturn, 1) := by decide +kernel
theorem dX2_takesRust_10 : decode cX2_takesRust 10 = .ok (.aload_n 0, 1) := by decide +kernel
theorem dX2_takesRust_11 : decode cX2_takesRust 11 = .ok (.getfield 87, 3) := by decide +kernel
theorem dX2_takesRust_14 : decode cX2_takesRust 14 = .ok (.iload_n 1, 1) := by decide +kernel
theorem dX2_takesRust_15 : decode cX2_takesRust 15 = .ok (.iload_n 2, 1) := by decide +kernel
theorem dX2_takesRust_16 : decode cX2_takesRust 16 = .ok (.iastore, 1) := by decide +kernel
theorem dX2_takesRust_17 : decode cX2_takesRust 17 = .ok (.iconst 1, 1) := by decide +kernel
theorem dX2_takesRust_18 : decode cX2_takesRust 18 = .ok (.ireturn, 1) := by decide +kernel
theorem dJ11_isValidCodePoint_9a6ad_0 : decode cJ11_isValidCodePoint_9a6ad 0 = .ok (.iload_n 0, 1) := by decide +kernel
theorem dJ11_isValidCodePoint_9a6ad_1 : decode cJ11_isValidCodePoint_9a6ad 1 = .ok (.bipush 16, 2) := by decide +kernel
theorem dJ11_isValidCodePoint_9a6ad_3 : decode cJ11_isValidCodePoint_9a6ad 3 = .ok (.iushr, 1) := by decide +kernel
theorem dJ11_isValidCodePoint_9a6ad_4 : decode cJ11_isValidCodePoint_9a6ad 4 = .ok (.istore_n 1, 1) := by decide +kernel
theorem dJ11_isValidCodePoint_9a6ad_5 : decode cJ11_isValidCodePoint_9a6ad 5 = .ok (.iload_n 1, 1) := by decide +kernel
theorem dJ11_isValidCodePoint_9a6ad_6 : decode cJ11_isValidCodePoint_9a6ad 6 = .ok (.bipush 17, 2) := by decide +kernel
theorem dJ11_isValidCodePoint_9a6ad_8 : decode cJ11_isValidCodePoint_9a6ad 8 = .ok (.if_icmp .ge 7, 3) := by decide +kernel
theorem dJ11_isValidCodePoint_9a6ad_11 : decode cJ11_isValidCodePoint_9a6ad 11 = .ok (.iconst 1, 1) := by decide +kernel
theorem dJ11_isValidCodePoint_9a6ad_12 : decode cJ11_isValidCodePoint_9a6ad 12 = .ok (.goto 4, 3) := by decide +kernel
theorem dJ11_isValidCodePoint_9a6ad_15 : decode cJ11_isValidCodePoint_9a6ad 15 = .ok (.iconst 0, 1) := by decide +kernel
theorem dJ11_isValidCodePoint_9a6ad_16 : decode cJ11_isValidCodePoint_9a6ad 16 = .ok (.ireturn, 1) := by decide +kernel
theorem dJ11_highSurrogate_5068e_0 : decode cJ11_highSurrogate_5068e 0 = .ok (.iload_n 0, 1) := by decide +kernel
theorem dJ11_highSurrogate_5068e_1 : decode cJ11_highSurrogate_5068e 1 = .ok (.bipush 10, 2) := by decide +kernel
theorem dJ11_highSurrogate_5068e_3 : decode cJ11_highSurrogate_5068e 3 = .ok (.iushr, 1) := by decide +kernel
theorem dJ11_highSurrogate_5068e_4 : decode cJ11_highSurrogate_5068e 4 = .ok (.ldc 110, 2) := by decide +kernel
theorem dJ11_highSurrogate_5068e_6 : decode cJ11_highSurrogate_5068e 6 = .ok (.iadd, 1) := by decide +kernel
theorem dJ11_highSurrogate_5068e_7 : decode cJ11_highSurrogate_5068e 7 = .ok (.i2c, 1) := by decide +kernel
theorem dJ11_highSurrogate_5068e_8 : decode cJ11_highSurrogate_5068e 8 = .ok (.ireturn, 1) := by decide +kernel
theorem dJ11_lowSurrogate_5068e_0 : decode cJ11_lowSurrogate_5068e 0 = .ok (.iload_n 0, 1) := by decide +kernel
theorem dJ11_lowSurrogate_5068e_1 : decode cJ11_lowSurrogate_5068e 1 = .ok (.sipush 1023, 3) := by decide +kernel
theorem dJ11_lowSurrogate_5068e_4 : decode cJ11_lowSurrogate_5068e 4 = .ok (.iand, 1) := by decide +kernel
theorem dJ11_lowSurrogate_5068e_5 : decode cJ11_lowSurrogate_5068e 5 = .ok (.ldc 76, 2) := by decide +kernel
theorem dJ11_lowSurrogate_5068e_7 : decode cJ11_lowSurrogate_5068e 7 = .ok (.iadd, 1) := by decide +kernel
theorem dJ11_lowSurrogate_5068e_8 : decode cJ11_lowSurrogate_5068e 8 = .ok (.i2c, 1) := by decide +kernel
theorem dJ11_lowSurrogate_5068e_9 : decode cJ11_lowSurrogate_5068e 9 = .ok (.ireturn, 1) := by decide +kernel
theorem dJ9_max_7cf53_0 : decode cJ9_max_7cf53 0 = .ok (.iload_n 0, 1) := by decide +kernel
theorem dJ9_max_7cf53_1 : decode cJ9_max_7cf53 1 = .ok (.iload_n 1, 1) := by decide +kernel
theorem dJ9_max_7cf53_2 : decode cJ9_max_7cf53 2 = .ok (.if_icmp .lt 7, 3) := by decide +kernel
theorem dJ9_max_7cf53_5 : decode cJ9_max_7cf53 5 = .ok (.iload_n 0, 1) := by decide +kernel
theorem dJ9_max_7cf53_6 : decode cJ9_max_7cf53 6 = .ok (.goto 4, 3) := by decide +kernel
theorem dJ9_max_7cf53_9 : decode cJ9_max_7cf53 9 = .ok (.iload_n 1, 1) := by decide +kernel
theorem dJ9_max_7cf53_10 : decode cJ9_max_7cf53 10 = .ok (.ireturn, 1) := by decide +kernel
theorem dJ9_min_7cf53_0 : decode cJ9_min_7cf53 0 = .ok (.iload_n 0, 1) := by decide +kernel
theorem dJ9_min_7cf53_1 : decode cJ9_min_7cf53 1 = .ok (.iload_n 1, 1) := by decide +kernel
theorem dJ9_min_7cf53_2 : decode cJ9_min_7cf53 2 = .ok (.if_icmp .gt 7, 3) := by decide +kernel
theorem dJ9_min_7cf53_5 : decode cJ9_min_7cf53 5 = .ok (.iload_n 0, 1) := by decide +kernel
theorem dJ9_min_7cf53_6 : decode cJ9_min_7cf53 6 = .ok (.goto 4, 3) := by decide +kernel
theorem dJ9_min_7cf53_9 : decode cJ9_min_7cf53 9 = .ok (.iload_n 1, 1) := by decide +kernel
theorem dJ9_min_7cf53_10 : decode cJ9_min_7cf53 10 = .ok (.ireturn, 1) := by decide +kernel
theorem dJ0_length_8abf5_0 : decode cJ0_length_8abf5 0 = .ok (.aload_n 0, 1) := by decide +kernel
theorem dJ0_length_8abf5_1 : decode cJ0_length_8abf5 1 = .ok (.getfield 9, 3) := by decide +kernel
theorem dJ0_length_8abf5_4 : decode cJ0_length_8abf5 4 = .ok (.arraylength, 1) := by decide +kernel
theorem dJ0_length_8abf5_5 : decode cJ0_length_8abf5 5 = .ok (.aload_n 0, 1) := by decide +kernel
theorem dJ0_length_8abf5_6 : decode cJ0_length_8abf5 6 = .ok (.invokevirtual 335, 3) := by decide +kernel
theorem dJ0_length_8abf5_9 : decode cJ0_length_8abf5 9 = .ok (.ishr, 1) := by decide +kernel
theorem dJ0_length_8abf5_10 : decode cJ0_length_8abf5 10 = .ok (.ireturn, 1) := by decide +kernel
theorem dJ0_indexOf_0f7a4_0 : decode cJ0_indexOf_0f7a4 0 = .ok (.aload_n 0, 1) := by decide +kernel
theorem dJ0_indexOf_0f7a4_1 : decode cJ0_indexOf_0f7a4 1 = .ok (.iload_n 1, 1) := by decide +kernel
theorem dJ0_indexOf_0f7a4_2 : decode cJ0_indexOf_0f7a4 2 = .ok (.iconst 0, 1) := by decide +kernel
theorem dJ0_indexOf_0f7a4_3 : decode cJ0_indexOf_0f7a4 3 = .ok (.invokevirtual 633, 3) := by decide +kernel
theorem dJ0_indexOf_0f7a4_6 : decode cJ0_indexOf_0f7a4 6 = .ok (.ireturn, 1) := by decide +kernel
theorem dJ0_indexOf_7cf53_0 : decode cJ0_indexOf_7cf53 0 = .ok (.aload_n 0, 1) := by decide +kernel
theorem dJ0_indexOf_7cf53_1 : decode cJ0_indexOf_7cf53 1 = .ok (.invokevirtual 492, 3) := by decide +kernel
theorem dJ0_indexOf_7cf53_4 : decode cJ0_indexOf_7cf53 4 = .ok (.ifCond .eq 19, 3) := by decide +kernel
theorem dJ0_indexOf_7cf53_7 : decode cJ0_indexOf_7cf53 7 = .ok (.aload_n 0, 1) := by decide +kernel
theorem dJ0_indexOf_7cf53_8 : decode cJ0_indexOf_7cf53 8 = .ok (.getfield 9, 3) := by decide +kernel
theorem dJ0_indexOf_7cf53_11 : decode cJ0_indexOf_7cf53 11 = .ok (.iload_n 1, 1) := by decide +kernel
theorem dJ0_indexOf_7cf53_12 : decode cJ0_indexOf_7cf53 12 = .ok (.iload_n 2, 1) := by decide +kernel
theorem dJ0_indexOf_7cf53_13 : decode cJ0_indexOf_7cf53 13 = .ok (.aload_n 0, 1) := by decide +kernel
theorem dJ0_indexOf_7cf53_14 : decode cJ0_indexOf_7cf53 14 = .ok (.invokevirtual 505, 3) := by decide +kernel
theorem dJ0_indexOf_7cf53_17 : decode cJ0_indexOf_7cf53 17 = .ok (.invokestatic 637, 3) := by decide +kernel
theorem dJ0_indexOf_7cf53_20 : decode cJ0_indexOf_7cf53 20 = .ok (.goto 16, 3) := by decide +kernel
theorem dJ0_indexOf_7cf53_23 : decode cJ0_indexOf_7cf53 23 = .ok (.aload_n 0, 1) := by decide +kernel
theorem dJ0_indexOf_7cf53_24 : decode cJ0_indexOf_7cf53 24 = .ok (.getfield 9, 3) := by decide +kernel
theorem dJ0_indexOf_7cf53_27 : decode cJ0_indexOf_7cf53 27 = .ok (.iload_n 1, 1) := by decide +kernel
theorem dJ0_indexOf_7cf53_28 : decode cJ0_indexOf_7cf53 28 = .ok (.iload_n 2, 1) := by decide +kernel
theorem dJ0_indexOf_7cf53_29 : decode cJ0_indexOf_7cf53 29 = .ok (.aload_n 0, 1) := by decide +kernel
theorem dJ0_indexOf_7cf53_30 : decode cJ0_indexOf_7cf53 30 = .ok (.invokevirtual 505, 3) := by decide +kernel
theorem dJ0_indexOf_7cf53_33 : decode cJ0_indexOf_7cf53 33 = .ok (.invokestatic 640, 3) := by decide +kernel
theorem dJ0_indexOf_7cf53_36 : decode cJ0_indexOf_7cf53 36 = .ok (.ireturn, 1) := by decide +kernel
theorem dJ0_coder_7d493_0 : decode cJ0_coder_7d493 0 = .ok (.getstatic 38, 3) := by decide +kernel
theorem dJ0_coder_7d493_3 : decode cJ0_coder_7d493 3 = .ok (.ifCond .eq 10, 3) := by decide +kernel
theorem dJ0_coder_7d493_6 : decode cJ0_coder_7d493 6 = .ok (.aload_n 0, 1) := by decide +kernel
theorem dJ0_coder_7d493_7 : decode cJ0_coder_7d493 7 = .ok (.getfield 15, 3) := by decide +kernel
theorem dJ0_coder_7d493_10 : decode cJ0_coder_7d493 10 = .ok (.goto 4, 3) := by decide +kernel
theorem dJ0_coder_7d493_13 : decode cJ0_coder_7d493 13 = .ok (.iconst 1, 1) := by decide +kernel
theorem dJ0_coder_7d493_14 : decode cJ0_coder_7d493 14 = .ok (.ireturn, 1) := by decide +kernel
theorem dJ0_isLatin1_aae02_0 : decode cJ0_isLatin1_aae02 0 = .ok (.getstatic 38, 3) := by decide +kernel
theorem dJ0_isLatin1_aae02_3 : decode cJ0_isLatin1_aae02 3 = .ok (.ifCond .eq 14, 3) := by decide +kernel
theorem dJ0_isLatin1_aae02_6 : decode cJ0_isLatin1_aae02 6 = .ok (.aload_n 0, 1) := by decide +kernel
theorem dJ0_isLatin1_aae02_7 : decode cJ0_isLatin1_aae02 7 = .ok (.getfield 15, 3) := by decide +kernel
theorem dJ0_isLatin1_aae02_10 : decode cJ0_isLatin1_aae02 10 = .ok (.ifCond .ne 7, 3) := by decide +kernel
theorem dJ0_isLatin1_aae02_13 : decode cJ0_isLatin1_aae02 13 = .ok (.iconst 1, 1) := by decide +kernel
theorem dJ0_isLatin1_aae02_14 : decode cJ0_isLatin1_aae02 14 = .ok (.goto 4, 3) := by decide +kernel
theorem dJ0_isLatin1_aae02_17 : decode cJ0_isLatin1_aae02 17 = .ok (.iconst 0, 1) := by decide +kernel
theorem dJ0_isLatin1_aae02_18 : decode cJ0_isLatin1_aae02 18 = .ok (.ireturn, 1) := by decide +kernel
theorem dJ0_checkBoundsBeginEnd_23922_0 : decode cJ0_checkBoundsBeginEnd_23922 0 = .ok (.iload_n 0, 1) := by decide +kernel
theorem dJ0_checkBoundsBeginEnd_23922_1 : decode cJ0_checkBoundsBeginEnd_23922 1 = .ok (.iload_n 1, 1) := by decide +kernel
theorem dJ0_checkBoundsBeginEnd_23922_2 : decode cJ0_checkBoundsBeginEnd_23922 2 = .ok (.iload_n 2, 1) := by decide +kernel
theorem dJ0_checkBoundsBeginEnd_23922_3 : decode cJ0_checkBoundsBeginEnd_23922 3 = .ok (.getstatic 1053, 3) := by decide +kernel
theorem dJ0_checkBoundsBeginEnd_23922_6 : decode cJ0_checkBoundsBeginEnd_23922 6 = .ok (.invokestatic 1062, 3) := by decide +kernel
theorem dJ0_checkBoundsBeginEnd_23922_9 : decode cJ0_checkBoundsBeginEnd_23922 9 = .ok (.pop, 1) := by decide +kernel
theorem dJ0_checkBoundsBeginEnd_23922_10 : decode cJ0_checkBoundsBeginEnd_23922 10 = .ok (.return_, 1) := by decide +kernel
theorem dJ1_canEncode_9a6ad_0 : decode cJ1_canEncode_9a6ad 0 = .ok (.iload_n 0, 1) := by decide +kernel
theorem dJ1_canEncode_9a6ad_1 : decode cJ1_canEncode_9a6ad 1 = .ok (.ifCond .lt 14, 3) := by decide +kernel
theorem dJ1_canEncode_9a6ad_4 : decode cJ1_canEncode_9a6ad 4 = .ok (.iload_n 0, 1) := by decide +kernel
theorem dJ1_canEncode_9a6ad_5 : decode cJ1_canEncode_9a6ad 5 = .ok (.sipush 255, 3) := by decide +kernel
theorem dJ1_canEncode_9a6ad_8 : decode cJ1_canEncode_9a6ad 8 = .ok (.if_icmp .gt 7, 3) := by decide +kernel
theorem dJ1_canEncode_9a6ad_11 : decode cJ1_canEncode_9a6ad 11 = .ok (.iconst 1, 1) := by decide +kernel
theorem dJ1_canEncode_9a6ad_12 : decode cJ1_canEncode_9a6ad 12 = .ok (.goto 4, 3) := by decide +kernel
theorem dJ1_canEncode_9a6ad_15 : decode cJ1_canEncode_9a6ad 15 = .ok (.iconst 0, 1) := by decide +kernel
theorem dJ1_canEncode_9a6ad_16 : decode cJ1_canEncode_9a6ad 16 = .ok (.ireturn, 1) := by decide +kernel
theorem dJ1_indexOf_4cfef_0 : decode cJ1_indexOf_4cfef 0 = .ok (.iload_n 1, 1) := by decide +kernel
theorem dJ1_indexOf_4cfef_1 : decode cJ1_indexOf_4cfef 1 = .ok (.invokestatic 88, 3) := by decide +kernel
theorem dJ1_indexOf_4cfef_4 : decode cJ1_indexOf_4cfef 4 = .ok (.ifCond .ne 5, 3) := by decide +kernel
theorem dJ1_indexOf_4cfef_7 : decode cJ1_indexOf_4cfef 7 = .ok (.iconst (-1), 1) := by decide +kernel
theorem dJ1_indexOf_4cfef_8 : decode cJ1_indexOf_4cfef 8 = .ok (.ireturn, 1) := by decide +kernel
theorem dJ1_indexOf_4cfef_9 : decode cJ1_indexOf_4cfef 9 = .ok (.iload_n 2, 1) := by decide +kernel
theorem dJ1_indexOf_4cfef_10 : decode cJ1_indexOf_4cfef 10 = .ok (.iconst 0, 1) := by decide +kernel
theorem dJ1_indexOf_4cfef_11 : decode cJ1_indexOf_4cfef 11 = .ok (.invokestatic 92, 3) := by decide +kernel
theorem dJ1_indexOf_4cfef_14 : decode cJ1_indexOf_4cfef 14 = .ok (.istore_n 2, 1) := by decide +kernel
theorem dJ1_indexOf_4cfef_15 : decode cJ1_indexOf_4cfef 15 = .ok (.iload_n 3, 1) := by decide +kernel
theorem dJ1_indexOf_4cfef_16 : decode cJ1_indexOf_4cfef 16 = .ok (.aload_n 0, 1) := by decide +kernel
theorem dJ1_indexOf_4cfef_17 : decode cJ1_indexOf_4cfef 17 = .ok (.arraylength, 1) := by decide +kernel
theorem dJ1_indexOf_4cfef_18 : decode cJ1_indexOf_4cfef 18 = .ok (.invokestatic 38, 3) := by decide +kernel
theorem dJ1_indexOf_4cfef_21 : decode cJ1_indexOf_4cfef 21 = .ok (.istore_n 3, 1) := by decide +kernel
theorem dJ1_indexOf_4cfef_22 : decode cJ1_indexOf_4cfef 22 = .ok (.iload_n 2, 1) := by decide +kernel
theorem dJ1_indexOf_4cfef_23 : decode cJ1_indexOf_4cfef 23 = .ok (.iload_n 3, 1) := by decide +kernel
theorem dJ1_indexOf_4cfef_24 : decode cJ1_indexOf_4cfef 24 = .ok (.if_icmp .lt 5, 3) := by decide +kernel
theorem dJ1_indexOf_4cfef_27 : decode cJ1_indexOf_4cfef 27 = .ok (.iconst (-1), 1) := by decide +kernel
theorem dJ1_indexOf_4cfef_28 : decode cJ1_indexOf_4cfef 28 = .ok (.ireturn, 1) := by decide +kernel
theorem dJ1_indexOf_4cfef_29 : decode cJ1_indexOf_4cfef 29 = .ok (.aload_n 0, 1) := by decide +kernel
theorem dJ1_indexOf_4cfef_30 : decode cJ1_indexOf_4cfef 30 = .ok (.iload_n 1, 1) := by decide +kernel
theorem dJ1_indexOf_4cfef_31 : decode cJ1_indexOf_4cfef 31 = .ok (.iload_n 2, 1) := by decide +kernel
theorem dJ1_indexOf_4cfef_32 : decode cJ1_indexOf_4cfef 32 = .ok (.iload_n 3, 1) := by decide +kernel
theorem dJ1_indexOf_4cfef_33 : decode cJ1_indexOf_4cfef 33 = .ok (.invokestatic 95, 3) := by decide +kernel
theorem dJ1_indexOf_4cfef_36 : decode cJ1_indexOf_4cfef 36 = .ok (.ireturn, 1) := by decide +kernel
theorem dJ1_indexOfChar_4cfef_0 : decode cJ1_indexOfChar_4cfef 0 = .ok (.iload_n 1, 1) := by decide +kernel
theorem dJ1_indexOfChar_4cfef_1 : decode cJ1_indexOfChar_4cfef 1 = .ok (.i2b, 1) := by decide +kernel
theorem dJ1_indexOfChar_4cfef_2 : decode cJ1_indexOfChar_4cfef 2 = .ok (.istore 4, 2) := by decide +kernel
theorem dJ1_indexOfChar_4cfef_4 : decode cJ1_indexOfChar_4cfef 4 = .ok (.iload_n 2, 1) := by decide +kernel
theorem dJ1_indexOfChar_4cfef_5 : decode cJ1_indexOfChar_4cfef 5 = .ok (.istore 5, 2) := by decide +kernel
theorem dJ1_indexOfChar_4cfef_7 : decode cJ1_indexOfChar_4cfef 7 = .ok (.iload 5, 2) := by decide +kernel
theorem dJ1_indexOfChar_4cfef_9 : decode cJ1_indexOfChar_4cfef 9 = .ok (.iload_n 3, 1) := by decide +kernel
theorem dJ1_indexOfChar_4cfef_10 : decode cJ1_indexOfChar_4cfef 10 = .ok (.if_icmp .ge 21, 3) := by decide +kernel
theorem dJ1_indexOfChar_4cfef_13 : decode cJ1_indexOfChar_4cfef 13 = .ok (.aload_n 0, 1) := by decide +kernel
theorem dJ1_indexOfChar_4cfef_14 : decode cJ1_indexOfChar_4cfef 14 = .ok (.iload 5, 2) := by decide +kernel
theorem dJ1_indexOfChar_4cfef_16 : decode cJ1_indexOfChar_4cfef 16 = .ok (.baload, 1) := by decide +kernel
theorem dJ1_indexOfChar_4cfef_17 : decode cJ1_indexOfChar_4cfef 17 = .ok (.iload 4, 2) := by decide +kernel
theorem dJ1_indexOfChar_4cfef_19 : decode cJ1_indexOfChar_4cfef 19 = .ok (.if_icmp .ne 6, 3) := by decide +kernel
theorem dJ1_indexOfChar_4cfef_22 : decode cJ1_indexOfChar_4cfef 22 = .ok (.iload 5, 2) := by decide +kernel
theorem dJ1_indexOfChar_4cfef_24 : decode cJ1_indexOfChar_4cfef 24 = .ok (.ireturn, 1) := by decide +kernel
theorem dJ1_indexOfChar_4cfef_25 : decode cJ1_indexOfChar_4cfef 25 = .ok (.iinc 5 1, 3) := by decide +kernel
theorem dJ1_indexOfChar_4cfef_28 : decode cJ1_indexOfChar_4cfef 28 = .ok (.goto (-21), 3) := by decide +kernel
theorem dJ1_indexOfChar_4cfef_31 : decode cJ1_indexOfChar_4cfef 31 = .ok (.iconst (-1), 1) := by decide +kernel
theorem dJ1_indexOfChar_4cfef_32 : decode cJ1_indexOfChar_4cfef 32 = .ok (.ireturn, 1) := by decide +kernel
theorem dJ2_getChar_3b067_0 : decode cJ2_getChar_3b067 0 = .ok (.getstatic 44, 3) := by decide +kernel
theorem dJ2_getChar_3b067_3 : decode cJ2_getChar_3b067 3 = .ok (.ifCond .ne 25, 3) := by decide +kernel
theorem dJ2_getChar_3b067_6 : decode cJ2_getChar_3b067 6 = .ok (.iload_n 1, 1) := by decide +kernel
theorem dJ2_getChar_3b067_7 : decode cJ2_getChar_3b067 7 = .ok (.ifCond .lt 11, 3) := by decide +kernel
theorem dJ2_getChar_3b067_10 : decode cJ2_getChar_3b067 10 = .ok (.iload_n 1, 1) := by decide +kernel
theorem dJ2_getChar_3b067_11 : decode cJ2_getChar_3b067 11 = .ok (.aload_n 0, 1) := by decide +kernel
theorem dJ2_getChar_3b067_12 : decode cJ2_getChar_3b067 12 = .ok (.invokestatic 48, 3) := by decide +kernel
theorem dJ2_getChar_3b067_15 : decode cJ2_getChar_3b067 15 = .ok (.if_icmp .lt 13, 3) := by decide +kernel
theorem dJ2_getChar_3b067_18 : decode cJ2_getChar_3b067 18 = .ok (.new 52, 3) := by decide +kernel
theorem dJ2_getChar_3b067_21 : decode cJ2_getChar_3b067 21 = .ok (.dup, 1) := by decide +kernel
theorem dJ2_getChar_3b067_22 : decode cJ2_getChar_3b067 22 = .ok (.ldc 54, 2) := by decide +kernel
theorem dJ2_getChar_3b067_24 : decode cJ2_getChar_3b067 24 = .ok (.invokespecial 56, 3) := by decide +kernel
theorem dJ2_getChar_3b067_27 : decode cJ2_getChar_3b067 27 = .ok (.athrow, 1) := by decide +kernel
theorem dJ2_getChar_3b067_28 : decode cJ2_getChar_3b067 28 = .ok (.iload_n 1, 1) := by decide +kernel
theorem dJ2_getChar_3b067_29 : decode cJ2_getChar_3b067 29 = .ok (.iconst 1, 1) := by decide +kernel
theorem dJ2_getChar_3b067_30 : decode cJ2_getChar_3b067 30 = .ok (.ishl, 1) := by decide +kernel
theorem dJ2_getChar_3b067_31 : decode cJ2_getChar_3b067 31 = .ok (.istore_n 1, 1) := by decide +kernel
theorem dJ2_getChar_3b067_32 : decode cJ2_getChar_3b067 32 = .ok (.aload_n 0, 1) := by decide +kernel
theorem dJ2_getChar_3b067_33 : decode cJ2_getChar_3b067 33 = .ok (.iload_n 1, 1) := by decide +kernel
theorem dJ2_getChar_3b067_34 : decode cJ2_getChar_3b067 34 = .ok (.iinc 1 1, 3) := by decide +kernel
theorem dJ2_getChar_3b067_37 : decode cJ2_getChar_3b067 37 = .ok (.baload, 1) := by decide +kernel
theorem dJ2_getChar_3b067_38 : decode cJ2_getChar_3b067 38 = .ok (.sipush 255, 3) := by decide +kernel
theorem dJ2_getChar_3b067_41 : decode cJ2_getChar_3b067 41 = .ok (.iand, 1) := by decide +kernel
theorem dJ2_getChar_3b067_42 : decode cJ2_getChar_3b067 42 = .ok (.getstatic 59, 3) := by decide +kernel
theorem dJ2_getChar_3b067_45 : decode cJ2_getChar_3b067 45 = .ok (.ishl, 1) := by decide +kernel
theorem dJ2_getChar_3b067_46 : decode cJ2_getChar_3b067 46 = .ok (.aload_n 0, 1) := by decide +kernel
theorem dJ2_getChar_3b067_47 : decode cJ2_getChar_3b067 47 = .ok (.iload_n 1, 1) := by decide +kernel
theorem dJ2_getChar_3b067_48 : decode cJ2_getChar_3b067 48 = .ok (.baload, 1) := by decide +kernel
theorem dJ2_getChar_3b067_49 : decode cJ2_getChar_3b067 49 = .ok (.sipush 255, 3) := by decide +kernel
theorem dJ2_getChar_3b067_52 : decode cJ2_getChar_3b067 52 = .ok (.iand, 1) := by decide +kernel
theorem dJ2_getChar_3b067_53 : decode cJ2_getChar_3b067 53 = .ok (.getstatic 63, 3) := by decide +kernel
theorem dJ2_getChar_3b067_56 : decode cJ2_getChar_3b067 56 = .ok (.ishl, 1) := by decide +kernel
theorem dJ2_getChar_3b067_57 : decode cJ2_getChar_3b067 57 = .ok (.ior, 1) := by decide +kernel
theorem dJ2_getChar_3b067_58 : decode cJ2_getChar_3b067 58 = .ok (.i2c, 1) := by decide +kernel
theorem dJ2_getChar_3b067_59 : decode cJ2_getChar_3b067 59 = .ok (.ireturn, 1) := by decide +kernel
theorem dJ2_length_9d52b_0 : decode cJ2_length_9d52b 0 = .ok (.aload_n 0, 1) := by decide +kernel
theorem dJ2_length_9d52b_1 : decode cJ2_length_9d52b 1 = .ok (.arraylength, 1) := by decide +kernel
theorem dJ2_length_9d52b_2 : decode cJ2_length_9d52b 2 = .ok (.iconst 1, 1) := by decide +kernel
theorem dJ2_length_9d52b_3 : decode cJ2_length_9d52b 3 = .ok (.ishr, 1) := by decide +kernel
theorem dJ2_length_9d52b_4 : decode cJ2_length_9d52b 4 = .ok (.ireturn, 1) := by decide +kernel
theorem dJ2_indexOf_4cfef_0 : decode cJ2_indexOf_4cfef 0 = .ok (.iload_n 2, 1) := by decide +kernel
theorem dJ2_indexOf_4cfef_1 : decode cJ2_indexOf_4cfef 1 = .ok (.iconst 0, 1) := by decide +kernel
theorem dJ2_indexOf_4cfef_2 : decode cJ2_indexOf_4cfef 2 = .ok (.invokestatic 224, 3) := by decide +kernel
theorem dJ2_indexOf_4cfef_5 : decode cJ2_indexOf_4cfef 5 = .ok (.istore_n 2, 1) := by decide +kernel
theorem dJ2_indexOf_4cfef_6 : decode cJ2_indexOf_4cfef 6 = .ok (.iload_n 3, 1) := by decide +kernel
theorem dJ2_indexOf_4cfef_7 : decode cJ2_indexOf_4cfef 7 = .ok (.aload_n 0, 1) := by decide +kernel
theorem dJ2_indexOf_4cfef_8 : decode cJ2_indexOf_4cfef 8 = .ok (.arraylength, 1) := by decide +kernel
theorem dJ2_indexOf_4cfef_9 : decode cJ2_indexOf_4cfef 9 = .ok (.iconst 1, 1) := by decide +kernel
theorem dJ2_indexOf_4cfef_10 : decode cJ2_indexOf_4cfef 10 = .ok (.ishr, 1) := by decide +kernel
theorem dJ2_indexOf_4cfef_11 : decode cJ2_indexOf_4cfef 11 = .ok (.invokestatic 183, 3) := by decide +kernel
theorem dJ2_indexOf_4cfef_14 : decode cJ2_indexOf_4cfef 14 = .ok (.istore_n 3, 1) := by decide +kernel
theorem dJ2_indexOf_4cfef_15 : decode cJ2_indexOf_4cfef 15 = .ok (.iload_n 2, 1) := by decide +kernel
theorem dJ2_indexOf_4cfef_16 : decode cJ2_indexOf_4cfef 16 = .ok (.iload_n 3, 1) := by decide +kernel
theorem dJ2_indexOf_4cfef_17 : decode cJ2_indexOf_4cfef 17 = .ok (.if_icmp .lt 5, 3) := by decide +kernel
theorem dJ2_indexOf_4cfef_20 : decode cJ2_indexOf_4cfef 20 = .ok (.iconst (-1), 1) := by decide +kernel
theorem dJ2_indexOf_4cfef_21 : decode cJ2_indexOf_4cfef 21 = .ok (.ireturn, 1) := by decide +kernel
theorem dJ2_indexOf_4cfef_22 : decode cJ2_indexOf_4cfef 22 = .ok (.iload_n 1, 1) := by decide +kernel
theorem dJ2_indexOf_4cfef_23 : decode cJ2_indexOf_4cfef 23 = .ok (.ldc 227, 2) := by decide +kernel
theorem dJ2_indexOf_4cfef_25 : decode cJ2_indexOf_4cfef 25 = .ok (.if_icmp .ge 11, 3) := by decide +kernel
theorem dJ2_indexOf_4cfef_28 : decode cJ2_indexOf_4cfef 28 = .ok (.aload_n 0, 1) := by decide +kernel
theorem dJ2_indexOf_4cfef_29 : decode cJ2_indexOf_4cfef 29 = .ok (.iload_n 1, 1) := by decide +kernel
theorem dJ2_indexOf_4cfef_30 : decode cJ2_indexOf_4cfef 30 = .ok (.iload_n 2, 1) := by decide +kernel
theorem dJ2_indexOf_4cfef_31 : decode cJ2_indexOf_4cfef 31 = .ok (.iload_n 3, 1) := by decide +kernel
theorem dJ2_indexOf_4cfef_32 : decode cJ2_indexOf_4cfef 32 = .ok (.invokestatic 228, 3) := by decide +kernel
theorem dJ2_indexOf_4cfef_35 : decode cJ2_indexOf_4cfef 35 = .ok (.ireturn, 1) := by decide +kernel
theorem dJ2_indexOf_4cfef_36 : decode cJ2_indexOf_4cfef 36 = .ok (.aload_n 0, 1) := by decide +kernel
theorem dJ2_indexOf_4cfef_37 : decode cJ2_indexOf_4cfef 37 = .ok (.iload_n 1, 1) := by decide +kernel
theorem dJ2_indexOf_4cfef_38 : decode cJ2_indexOf_4cfef 38 = .ok (.iload_n 2, 1) := by decide +kernel
theorem dJ2_indexOf_4cfef_39 : decode cJ2_indexOf_4cfef 39 = .ok (.iload_n 3, 1) := by decide +kernel
theorem dJ2_indexOf_4cfef_40 : decode cJ2_indexOf_4cfef 40 = .ok (.invokestatic 232, 3) := by decide +kernel
theorem dJ2_indexOf_4cfef_43 : decode cJ2_indexOf_4cfef 43 = .ok (.ireturn, 1) := by decide +kernel
theorem dJ2_indexOfChar_4cfef_0 : decode cJ2_indexOfChar_4cfef 0 = .ok (.iload_n 2, 1) := by decide +kernel
theorem dJ2_indexOfChar_4cfef_1 : decode cJ2_indexOfChar_4cfef 1 = .ok (.iload_n 3, 1) := by decide +kernel
theorem dJ2_indexOfChar_4cfef_2 : decode cJ2_indexOfChar_4cfef 2 = .ok (.aload_n 0, 1) := by decide +kernel
theorem dJ2_indexOfChar_4cfef_3 : decode cJ2_indexOfChar_4cfef 3 = .ok (.invokestatic 96, 3) := by decide +kernel
theorem dJ2_indexOfChar_4cfef_6 : decode cJ2_indexOfChar_4cfef 6 = .ok (.aload_n 0, 1) := by decide +kernel
theorem dJ2_indexOfChar_4cfef_7 : decode cJ2_indexOfChar_4cfef 7 = .ok (.iload_n 1, 1) := by decide +kernel
theorem dJ2_indexOfChar_4cfef_8 : decode cJ2_indexOfChar_4cfef 8 = .ok (.iload_n 2, 1) := by decide +kernel
theorem dJ2_indexOfChar_4cfef_9 : decode cJ2_indexOfChar_4cfef 9 = .ok (.iload_n 3, 1) := by decide +kernel
theorem dJ2_indexOfChar_4cfef_10 : decode cJ2_indexOfChar_4cfef 10 = .ok (.invokestatic 244, 3) := by decide +kernel
theorem dJ2_indexOfChar_4cfef_13 : decode cJ2_indexOfChar_4cfef 13 = .ok (.ireturn, 1) := by decide +kernel
theorem dJ2_indexOfCharUnsafe_4cfef_0 : decode cJ2_indexOfCharUnsafe_4cfef 0 = .ok (.iload_n 2, 1) := by decide +kernel
theorem dJ2_indexOfCharUnsafe_4cfef_1 : decode cJ2_indexOfCharUnsafe_4cfef 1 = .ok (.istore 4, 2) := by decide +kernel
theorem dJ2_indexOfCharUnsafe_4cfef_3 : decode cJ2_indexOfCharUnsafe_4cfef 3 = .ok (.iload 4, 2) := by decide +kernel
theorem dJ2_indexOfCharUnsafe_4cfef_5 : decode cJ2_indexOfCharUnsafe_4cfef 5 = .ok (.iload_n 3, 1) := by decide +kernel
theorem dJ2_indexOfCharUnsafe_4cfef_6 : decode cJ2_indexOfCharUnsafe_4cfef 6 = .ok (.if_icmp .ge 22, 3) := by decide +kernel
theorem dJ2_indexOfCharUnsafe_4cfef_9 : decode cJ2_indexOfCharUnsafe_4cfef 9 = .ok (.aload_n 0, 1) := by decide +kernel
theorem dJ2_indexOfCharUnsafe_4cfef_10 : decode cJ2_indexOfCharUnsafe_4cfef 10 = .ok (.iload 4, 2) := by decide +kernel
theorem dJ2_indexOfCharUnsafe_4cfef_12 : decode cJ2_indexOfCharUnsafe_4cfef 12 = .ok (.invokestatic 71, 3) := by decide +kernel
theorem dJ2_indexOfCharUnsafe_4cfef_15 : decode cJ2_indexOfCharUnsafe_4cfef 15 = .ok (.iload_n 1, 1) := by decide +kernel
theorem dJ2_indexOfCharUnsafe_4cfef_16 : decode cJ2_indexOfCharUnsafe_4cfef 16 = .ok (.if_icmp .ne 6, 3) := by decide +kernel
theorem dJ2_indexOfCharUnsafe_4cfef_19 : decode cJ2_indexOfCharUnsafe_4cfef 19 = .ok (.iload 4, 2) := by decide +kernel
theorem dJ2_indexOfCharUnsafe_4cfef_21 : decode cJ2_indexOfCharUnsafe_4cfef 21 = .ok (.ireturn, 1) := by decide +kernel
theorem dJ2_indexOfCharUnsafe_4cfef_22 : decode cJ2_indexOfCharUnsafe_4cfef 22 = .ok (.iinc 4 1, 3) := by decide +kernel
theorem dJ2_indexOfCharUnsafe_4cfef_25 : decode cJ2_indexOfCharUnsafe_4cfef 25 = .ok (.goto (-22), 3) := by decide +kernel
theorem dJ2_indexOfCharUnsafe_4cfef_28 : decode cJ2_indexOfCharUnsafe_4cfef 28 = .ok (.iconst (-1), 1) := by decide +kernel
theorem dJ2_indexOfCharUnsafe_4cfef_29 : decode cJ2_indexOfCharUnsafe_4cfef 29 = .ok (.ireturn, 1) := by decide +kernel
theorem dJ2_indexOfSupplementary_4cfef_0 : decode cJ2_indexOfSupplementary_4cfef 0 = .ok (.iload_n 1, 1) := by decide +kernel
theorem dJ2_indexOfSupplementary_4cfef_1 : decode cJ2_indexOfSupplementary_4cfef 1 = .ok (.invokestatic 164, 3) := by decide +kernel
theorem dJ2_indexOfSupplementary_4cfef_4 : decode cJ2_indexOfSupplementary_4cfef 4 = .ok (.ifCond .eq 65, 3) := by decide +kernel
theorem dJ2_indexOfSupplementary_4cfef_7 : decode cJ2_indexOfSupplementary_4cfef 7 = .ok (.iload_n 1, 1) := by decide +kernel
theorem dJ2_indexOfSupplementary_4cfef_8 : decode cJ2_indexOfSupplementary_4cfef 8 = .ok (.invokestatic 157, 3) := by decide +kernel
theorem dJ2_indexOfSupplementary_4cfef_11 : decode cJ2_indexOfSupplementary_4cfef 11 = .ok (.istore 4, 2) := by decide +kernel
theorem dJ2_indexOfSupplementary_4cfef_13 : decode cJ2_indexOfSupplementary_4cfef 13 = .ok (.iload_n 1, 1) := by decide +kernel
theorem dJ2_indexOfSupplementary_4cfef_14 : decode cJ2_indexOfSupplementary_4cfef 14 = .ok (.invokestatic 161, 3) := by decide +kernel
theorem dJ2_indexOfSupplementary_4cfef_17 : decode cJ2_indexOfSupplementary_4cfef 17 = .ok (.istore 5, 2) := by decide +kernel
theorem dJ2_indexOfSupplementary_4cfef_19 : decode cJ2_indexOfSupplementary_4cfef 19 = .ok (.iload_n 2, 1) := by decide +kernel
theorem dJ2_indexOfSupplementary_4cfef_20 : decode cJ2_indexOfSupplementary_4cfef 20 = .ok (.iload_n 3, 1) := by decide +kernel
theorem dJ2_indexOfSupplementary_4cfef_21 : decode cJ2_indexOfSupplementary_4cfef 21 = .ok (.aload_n 0, 1) := by decide +kernel
theorem dJ2_indexOfSupplementary_4cfef_22 : decode cJ2_indexOfSupplementary_4cfef 22 = .ok (.invokestatic 96, 3) := by decide +kernel
theorem dJ2_indexOfSupplementary_4cfef_25 : decode cJ2_indexOfSupplementary_4cfef 25 = .ok (.iload_n 2, 1) := by decide +kernel
theorem dJ2_indexOfSupplementary_4cfef_26 : decode cJ2_indexOfSupplementary_4cfef 26 = .ok (.istore 6, 2) := by decide +kernel
theorem dJ2_indexOfSupplementary_4cfef_28 : decode cJ2_indexOfSupplementary_4cfef 28 = .ok (.iload 6, 2) := by decide +kernel
theorem dJ2_indexOfSupplementary_4cfef_30 : decode cJ2_indexOfSupplementary_4cfef 30 = .ok (.iload_n 3, 1) := by decide +kernel
theorem dJ2_indexOfSupplementary_4cfef_31 : decode cJ2_indexOfSupplementary_4cfef 31 = .ok (.iconst 1, 1) := by decide +kernel
theorem dJ2_indexOfSupplementary_4cfef_32 : decode cJ2_indexOfSupplementary_4cfef 32 = .ok (.isub, 1) := by decide +kernel
theorem dJ2_indexOfSupplementary_4cfef_33 : decode cJ2_indexOfSupplementary_4cfef 33 = .ok (.if_icmp .ge 36, 3) := by decide +kernel
theorem dJ2_indexOfSupplementary_4cfef_36 : decode cJ2_indexOfSupplementary_4cfef 36 = .ok (.aload_n 0, 1) := by decide +kernel
theorem dJ2_indexOfSupplementary_4cfef_37 : decode cJ2_indexOfSupplementary_4cfef 37 = .ok (.iload 6, 2) := by decide +kernel
theorem dJ2_indexOfSupplementary_4cfef_39 : decode cJ2_indexOfSupplementary_4cfef 39 = .ok (.invokestatic 71, 3) := by decide +kernel
theorem dJ2_indexOfSupplementary_4cfef_42 : decode cJ2_indexOfSupplementary_4cfef 42 = .ok (.iload 4, 2) := by decide +kernel
theorem dJ2_indexOfSupplementary_4cfef_44 : decode cJ2_indexOfSupplementary_4cfef 44 = .ok (.if_icmp .ne 19, 3) := by decide +kernel
theorem dJ2_indexOfSupplementary_4cfef_47 : decode cJ2_indexOfSupplementary_4cfef 47 = .ok (.aload_n 0, 1) := by decide +kernel
theorem dJ2_indexOfSupplementary_4cfef_48 : decode cJ2_indexOfSupplementary_4cfef 48 = .ok (.iload 6, 2) := by decide +kernel
theorem dJ2_indexOfSupplementary_4cfef_50 : decode cJ2_indexOfSupplementary_4cfef 50 = .ok (.iconst 1, 1) := by decide +kernel
theorem dJ2_indexOfSupplementary_4cfef_51 : decode cJ2_indexOfSupplementary_4cfef 51 = .ok (.iadd, 1) := by decide +kernel
theorem dJ2_indexOfSupplementary_4cfef_52 : decode cJ2_indexOfSupplementary_4cfef 52 = .ok (.invokestatic 71, 3) := by decide +kernel
theorem dJ2_indexOfSupplementary_4cfef_55 : decode cJ2_indexOfSupplementary_4cfef 55 = .ok (.iload 5, 2) := by decide +kernel
theorem dJ2_indexOfSupplementary_4cfef_57 : decode cJ2_indexOfSupplementary_4cfef 57 = .ok (.if_icmp .ne 6, 3) := by decide +kernel
theorem dJ2_indexOfSupplementary_4cfef_60 : decode cJ2_indexOfSupplementary_4cfef 60 = .ok (.iload 6, 2) := by decide +kernel
theorem dJ2_indexOfSupplementary_4cfef_62 : decode cJ2_indexOfSupplementary_4cfef 62 = .ok (.ireturn, 1) := by decide +kernel
theorem dJ2_indexOfSupplementary_4cfef_63 : decode cJ2_indexOfSupplementary_4cfef 63 = .ok (.iinc 6 1, 3) := by decide +kernel
theorem dJ2_indexOfSupplementary_4cfef_66 : decode cJ2_indexOfSupplementary_4cfef 66 = .ok (.goto (-38), 3) := by decide +kernel
theorem dJ2_indexOfSupplementary_4cfef_69 : decode cJ2_indexOfSupplementary_4cfef 69 = .ok (.iconst (-1), 1) := by decide +kernel
theorem dJ2_indexOfSupplementary_4cfef_70 : decode cJ2_indexOfSupplementary_4cfef 70 = .ok (.ireturn, 1) := by decide +kernel
theorem dJ2_checkBoundsBeginEnd_d044e_0 : decode cJ2_checkBoundsBeginEnd_d044e 0 = .ok (.iload_n 0, 1) := by decide +kernel
theorem dJ2_checkBoundsBeginEnd_d044e_1 : decode cJ2_checkBoundsBeginEnd_d044e 1 = .ok (.iload_n 1, 1) := by decide +kernel
theorem dJ2_checkBoundsBeginEnd_d044e_2 : decode cJ2_checkBoundsBeginEnd_d044e 2 = .ok (.aload_n 2, 1) := by decide +kernel
theorem dJ2_checkBoundsBeginEnd_d044e_3 : decode cJ2_checkBoundsBeginEnd_d044e 3 = .ok (.invokestatic 48, 3) := by decide +kernel
theorem dJ2_checkBoundsBeginEnd_d044e_6 : decode cJ2_checkBoundsBeginEnd_d044e 6 = .ok (.invokestatic 241, 3) := by decide +kernel
theorem dJ2_checkBoundsBeginEnd_d044e_9 : decode cJ2_checkBoundsBeginEnd_d044e 9 = .ok (.return_, 1) := by decide +kernel
theorem dJ3_checkFromToIndex_8c36e_0 : decode cJ3_checkFromToIndex_8c36e 0 = .ok (.iload_n 0, 1) := by decide +kernel
theorem dJ3_checkFromToIndex_8c36e_1 : decode cJ3_checkFromToIndex_8c36e 1 = .ok (.ifCond .lt 13, 3) := by decide +kernel
theorem dJ3_checkFromToIndex_8c36e_4 : decode cJ3_checkFromToIndex_8c36e 4 = .ok (.iload_n 0, 1) := by decide +kernel
theorem dJ3_checkFromToIndex_8c36e_5 : decode cJ3_checkFromToIndex_8c36e 5 = .ok (.iload_n 1, 1) := by decide +kernel
theorem dJ3_checkFromToIndex_8c36e_6 : decode cJ3_checkFromToIndex_8c36e 6 = .ok (.if_icmp .gt 8, 3) := by decide +kernel
theorem dJ3_checkFromToIndex_8c36e_9 : decode cJ3_checkFromToIndex_8c36e 9 = .ok (.iload_n 1, 1) := by decide +kernel
theorem dJ3_checkFromToIndex_8c36e_10 : decode cJ3_checkFromToIndex_8c36e 10 = .ok (.iload_n 2, 1) := by decide +kernel
theorem dJ3_checkFromToIndex_8c36e_11 : decode cJ3_checkFromToIndex_8c36e 11 = .ok (.if_icmp .le 11, 3) := by decide +kernel
theorem dJ3_checkFromToIndex_8c36e_14 : decode cJ3_checkFromToIndex_8c36e 14 = .ok (.aload_n 3, 1) := by decide +kernel
theorem dJ3_checkFromToIndex_8c36e_15 : decode cJ3_checkFromToIndex_8c36e 15 = .ok (.iload_n 0, 1) := by decide +kernel
theorem dJ3_checkFromToIndex_8c36e_16 : decode cJ3_checkFromToIndex_8c36e 16 = .ok (.iload_n 1, 1) := by decide +kernel
theorem dJ3_checkFromToIndex_8c36e_17 : decode cJ3_checkFromToIndex_8c36e 17 = .ok (.iload_n 2, 1) := by decide +kernel
theorem dJ3_checkFromToIndex_8c36e_18 : decode cJ3_checkFromToIndex_8c36e 18 = .ok (.invokestatic 99, 3) := by decide +kernel
theorem dJ3_checkFromToIndex_8c36e_21 : decode cJ3_checkFromToIndex_8c36e 21 = .ok (.athrow, 1) := by decide +kernel
theorem dJ3_checkFromToIndex_8c36e_22 : decode cJ3_checkFromToIndex_8c36e 22 = .ok (.iload_n 0, 1) := by decide +kernel
theorem dJ3_checkFromToIndex_8c36e_23 : decode cJ3_checkFromToIndex_8c36e 23 = .ok (.ireturn, 1) := by decide +kernel
end
section
/-! ===== the machine as this system needs it: one world of 58 cells that never grows; their ints are one function ===== -/
abbrev gG : Type := Nat → Nat → Int32
def gup (g : gG) (k j : Nat) (x : Int32) : gG := fun a b => if a = k ∧ b = j then x else g a b
def gcp (g : gG) (k0 k1 n : Nat) : gG := fun a b => if a = k1 ∧ b < n then g k0 b else g a b
/-- a cell: an object (its class, a field is an int or the ref of a cell), or an array (0 ints, 1 chars, 2 arrays of ints, which are the next cells) -/
abbrev gS : Type := (Nat × List (Option Nat)) ⊕ (Nat × Nat)
def gshL : List gS := [.inl (3, [some 1, some 9, some 17, none, some 25, some 27, some 30, none, some 31, some 32, some 33, some 34]), .inl (0, [some 2, some 3, some 4, some 5, some 6, some 7, some 8, none, none, none, none]), .inr (0, 6), .inr (0, 6), .inr (0, 6), .inr (0, 5), .inr (0, 5), .inr (0, 5), .inr (0, 5), .inl (0, [some 10, some 11, some 12, some 13, some 14, some 15, some 16, none, none, none, none]), .inr (0, 6), .inr (0, 6), .inr (0, 6), .inr (0, 5), .inr (0, 5), .inr (0, 5), .inr (0, 5), .inl (0, [some 18, some 19, some 20, some 21, some 22, some 23, some 24, none, none, none, none]), .inr (0, 6), .inr (0, 6), .inr (0, 6), .inr (0, 5), .inr (0, 5), .inr (0, 5), .inr (0, 5), .inl (2, [some 26, none]), .inr (1, 96), .inl (1, [some 28, some 29]), .inr (0, 384), .inr (0, 5), .inr (0, 16), .inr (0, 7), .inr (0, 69), .inr (0, 4), .inr (0, 4), .inl (4, [some 36, some 37, some 38, some 39, some 40, some 41, some 42, some 43, none, none, none, none, some 44, some 45, some 46, some 47, none, none, none, some 48, none, none, none, some 49, none, none, none, none, some 56, some 57, none, none]), .inr (0, 7), .inr (0, 6), .inr (0, 6), .inr (0, 6), .inr (0, 5), .inr (0, 5), .inr (0, 5), .inr (0, 5), .inr (0, 96), .inr (0, 48), .inr (0, 48), .inr (0, 96), .inr (0, 126), .inr (2, 6), .inr (0, 64), .inr (0, 64), .inr (0, 64), .inr (0, 64), .inr (0, 64), .inr (0, 64), .inr (0, 8), .inr (0, 16)]
/-- the words of the tables that every method is given -/
def gw : List Cond := lw_tbl.filter goodWord
theorem gw_mem {w : Cond} (i : Nat) (h : lw_tbl[i]? = some w) (hg : goodWord w = true) : w ∈ gw := List.mem_filter.mpr ⟨List.mem_of_getElem? h, hg⟩
theorem gw_tbl {w : Cond} (h : w ∈ gw) : w ∈ lw_tbl := (List.mem_filter.mp h).1
theorem gw_good {w : Cond} (h : w ∈ gw) : (w.onTables && w.keeps) = true ∨ ∃ ty, w = .arrayClass ty := good_of_word (List.mem_filter.mp h).2
abbrev vwCl : List vw_C := [(RX0, TX0, 11), (RX1, TX1, 2), (RX2, TX2, 2), (RX3, TX3, 12), (RX4, TX4, 32)]
def gtv (ad : Nat → Nat) (v : Value) : Value := match v with
  | .ref k => .ref (ad k)
  | v => v
def gfo (ad : Nat → Nat) (g : gG) (k j : Nat) (o : Option Nat) : Value := match o with
  | none => .int (g k j)
  | some a => .ref (ad a)
def gce (ad : Nat → Nat) (cA : Nat → ClassId) (g : gG) (k : Nat) (s : gS) : va_E := match s with
  | .inl q => .inr (q.1, q.2.mapIdx (gfo ad g k))
  | .inr q => .inl (cA q.1, q.2, if q.1 = 2 then .inr (.inr (.inr (.inr fun i => if i < q.2 then some (ad (k + 1 + i)) else none))) else .inl (g k))
def gws (ad : Nat → Nat) (cA : Nat → ClassId) (g : gG) : va_W := gshL.mapIdx fun k s => (ad k, gce ad cA g k s)
def gtys (cA : Nat → ClassId) : List (ClassId × FieldType) := [(cA 0, .int), (cA 1, .char), (cA 2, .array .int)]
def gA (ad : Nat → Nat) : Nat → Prop := fun q => ∃ k, k < 58 ∧ q = ad k
def ginj (ad : Nat → Nat) : Prop := ∀ i j, i < 58 → j < 58 → ad i = ad j → i = j
theorem gsh_lt {k : Nat} {s : gS} (h : gshL[k]? = some s) : k < 58 := (List.getElem?_eq_some_iff.mp h).1
theorem gfo_eq {ad : Nat → Nat} {g g' : gG} {k : Nat} (h : g' k = g k) : gfo ad g' k = gfo ad g k := by
  funext j o
  cases o <;> simp [gfo, h]
theorem gce_eq {ad : Nat → Nat} {cA : Nat → ClassId} {g g' : gG} {k : Nat} {s : gS} (h : g' k = g k) : gce ad cA g' k s = gce ad cA g k s := by
  cases s <;> simp [gce, gfo_eq h, h]
theorem gws_at {ad : Nat → Nat} {cA : Nat → ClassId} {g : gG} {k : Nat} {s : gS} (h : gshL[k]? = some s) : (gws ad cA g)[k]? = some (ad k, gce ad cA g k s) := by
  unfold gws
  rw [List.getElem?_mapIdx, h]
  rfl
theorem gws_some {ad : Nat → Nat} {cA : Nat → ClassId} {g : gG} {k : Nat} {q : Nat × va_E} (h : (gws ad cA g)[k]? = some q) : k < 58 ∧ q.1 = ad k := by
  unfold gws at h
  rw [List.getElem?_mapIdx] at h
  cases hk : gshL[k]? with
  | none => rw [hk] at h; cases h
  | some s =>
    rw [hk] at h
    cases h
    exact ⟨gsh_lt hk, rfl⟩
theorem gws_set {ad : Nat → Nat} {cA : Nat → ClassId} {g g' : gG} {k : Nat} {s : gS} {e : va_E} (h : gshL[k]? = some s) (he : gce ad cA g' k s = e) (ho : ∀ i, i ≠ k → g' i = g i) : (gws ad cA g).set k (ad k, e) = gws ad cA g' := by
  apply List.ext_getElem?
  intro i
  rw [List.getElem?_set]
  by_cases hi : k = i
  · subst hi
    rw [if_pos rfl, gws_at h, he, if_pos]
    unfold gws
    rw [List.length_mapIdx]
    exact (List.getElem?_eq_some_iff.mp h).1
  · rw [if_neg hi]
    unfold gws
    rw [List.getElem?_mapIdx, List.getElem?_mapIdx]
    cases gshL[i]? with
    | none => rfl
    | some s => simp only [Option.map_some]; rw [gce_eq (ho i (Ne.symm hi))]
theorem gD {ad : Nat → Nat} {cA : Nat → ClassId} {g : gG} (h : ginj ad) : va_D (gA ad) (gws ad cA g) := by
  refine ⟨fun i j p q hp hq e => ?_, fun k q hq => ?_⟩
  · obtain ⟨h1, e1⟩ := gws_some hp
    obtain ⟨h2, e2⟩ := gws_some hq
    exact h i j h1 h2 (by rw [← e1, ← e2]; exact e)
  · obtain ⟨h1, e1⟩ := gws_some hq
    exact ⟨k, h1, e1⟩
theorem gtv_cat (ad : Nat → Nat) (v : Value) : (gtv ad v).category = v.category := by cases v <;> rfl
theorem gtv_cats (ad : Nat → Nat) (l : List Value) : ((l.map (gtv ad)).map fun v => v.category) = l.map fun v => v.category := by
  rw [List.map_map]
  exact List.map_congr_left fun v _ => gtv_cat ad v
/-! what nobody writes: four tables, a text -/
def gtab (q j : Nat) : Int32 := if q = 100 then [3, 2, 1, 6, 6, 0].getD j 0 else if q = 101 then [2, 2, 1, 4, 4, 2].getD j 0 else if q = 102 then [0, -2, 0, 0, 5, -2].getD j 0 else if q = 103 then [2, 1, 0, 3, 3, 1].getD j 0 else [112, 109, 103, 102, 98, 111].getD j 0
def gsn (q : Nat) : String := if q = 100 then "PRICE" else if q = 101 then "COVER_HALVES" else if q = 102 then "COVER_MORE" else "CHAFE"
def gnx (q : Nat) : Nat := if q = 100 then 90 else if q = 101 then 60 else if q = 102 then 63 else 66
def gROq (ad : Nat → Nat) (q : Nat) (U : State) (H : Heap) : Prop := va_Z "ArmourOfTheShy" (gsn q) "[I" (.ref (ad q)) (gA ad) U H ∧ va_T .int (ad q) 6 (fun j => .int (gtab q j)) (gA ad) U H ∧ va_Nw (.fieldLinkNest RX0 (gnx q) "ArmourOfTheShy" (gsn q) "[I" "ArmourOfTheShy") U
def gROs (ad : Nat → Nat) (U : State) (H : Heap) : Prop := vk_R RX2 27 "pmgfbo" (ad 104) U ∧ va_O "java/lang/String" (ad 104) (gA ad) U H ∧ va_OF "java/lang/String" "value" "[B" (.ref (ad 105)) (ad 104) (gA ad) U H ∧ va_OF "java/lang/String" "coder" "B" (.int 0) (ad 104) (gA ad) U H ∧ va_T .byte (ad 105) 6 (fun j => .int (gtab 105 j)) (gA ad) U H ∧ va_Z "java/lang/String" "COMPACT_STRINGS" "Z" (.int 1) (gA ad) U H
def gRO (ad : Nat → Nat) (U : State) (H : Heap) : Prop := (∀ q, 100 ≤ q → q < 104 → gROq ad q U H) ∧ gROs ad U H
theorem gRO.kept {ad : Nat → Nat} {U : State} {H H1 : Heap} (h : gRO ad U H) (hq : ∀ a : Nat, a < H.size → ¬ gA ad a → H1[a]? = H[a]?) : gRO ad U H1 := by
  obtain ⟨h1, s1, s2, s3, s4, s5, s6⟩ := h
  exact ⟨fun q a b => ⟨(h1 q a b).1.kept hq, (h1 q a b).2.1.kept hq, (h1 q a b).2.2⟩, s1, s2.kept hq, s3.kept hq, s4.kept hq, s5.kept hq, s6.kept hq⟩
theorem gRO.warm {ad : Nat → Nat} {s U : State} {H : Heap} (hW : s.WarmedH U.vm) (h : gRO ad s H) : gRO ad U H := by
  obtain ⟨h1, s1, s2, s3, s4, s5, s6⟩ := h
  exact ⟨fun q a b => ⟨(h1 q a b).1.moved hW.alike, (h1 q a b).2.1.moved hW.alike, va_Nw.warmF hW (h1 q a b).2.2⟩, s1.warm hW, s2.moved hW.alike, s3.moved hW.alike, s4.moved hW.alike, s5.moved hW.alike, s6.moved hW.alike⟩
theorem gRO.same {ad : Nat → Nat} {u U : State} {H : Heap} (hv : u.vm = U.vm) (h : gRO ad u H) : gRO ad U H := by
  have ha : u.vm.Alike U.vm := by rw [hv]; exact Vm.Alike.refl U.vm
  obtain ⟨h1, s1, s2, s3, s4, s5, s6⟩ := h
  exact ⟨fun q a b => ⟨(h1 q a b).1.moved ha, (h1 q a b).2.1.moved ha, va_Nw.same rfl hv (h1 q a b).2.2⟩, vk_R.same hv.symm s1, s2.moved ha, s3.moved ha, s4.moved ha, s5.moved ha, s6.moved ha⟩
/-! a method: its name, code, locals, what it returns, the frames and the locals' words that it needs below itself -/
abbrev gM : Type := MethodName × ByteArray × Nat × Option FieldType × Nat × Nat
def groom (fr lo : Nat) : Room := { frames := fr, cells := 0, slots := 0, locals := lo }
def gPre (D : va_G) (cA : Nat → ClassId) (ad : Nat → Nat) (g : gG) (U : State) : Prop := va_P D vwCl (gws ad cA g) U.heap ∧ va_K D vwCl (gtys cA) U ∧ ginj ad ∧ gRO ad U U.heap
def gPc (D : va_G) (cA : Nat → ClassId) (ad : Nat → Nat) (av : List Value) (g : gG) : Array Value → State → Prop := fun v U => v = (av.map (gtv ad)).toArray ∧ gPre D cA ad g U
def gQc (D : va_G) (cA : Nat → ClassId) (ad : Nat → Nat) (Q : Option Value → gG → Prop) : Array Value → State → Outcome → State → Prop := fun _ st oc t => (∃ (r : Option Value) (g' : gG), oc = .returned (r.map (gtv ad)) ∧ Q r g' ∧ va_P D vwCl (gws ad cA g') t.heap) ∧ va_F (gA ad) st t
/-- a method's contract: from the ints g, with the arguments av, it returns so that Q -/
def gC (M : gM) (av : List Value) (g : gG) (Q : Option Value → gG → Prop) : Prop := ∀ (l : Launch) (D : va_G) (cA : Nat → ClassId) (ad : Nat → Nat), Met l M.1 (.code M.1 M.2.1 M.2.2.1 M.2.2.2.1 :: gw) (groom M.2.2.2.2.1 M.2.2.2.2.2) (gPc D cA ad av g) (gQc D cA ad Q) 0 0 (gA ad)
theorem gPc_blind {D : va_G} {cA : Nat → ClassId} {ad : Nat → Nat} {av : List Value} {g : gG} : FrameBlind (gPc D cA ad av g) := by
  intro a U f mk ⟨h1, h2, h3, h4, h5⟩
  exact ⟨h1, h2, va_K.moved (u := U) (U := U.calling f mk a) (Vm.Alike.refl U.vm) h3, h4, gRO.same (u := U) (U := U.calling f mk a) rfl h5⟩
/-! locals: a list, .null where nothing is known -/
def glo (ad : Nat → Nat) (n : Nat) (ls : List Value) (la : Array Slot) : Prop := la.size = n ∧ lv_wf la ∧ ls.length = n ∧ ∀ (i : Nat) (v : Value), ls[i]? = some v → v ≠ .null → la[i]? = some (.val (gtv ad v))
def gclr (ls : List Value) (i : Nat) : List Value := match i with
  | 0 => ls
  | k + 1 => match ls[k]? with
    | some (.long _) => ls.set k .null
    | some (.double _) => ls.set k .null
    | _ => ls
def gst1 (ls : List Value) (i : Nat) (v : Value) : List Value := (gclr ls i).set i v
def gst2 (ls : List Value) (i : Nat) (v : Value) : List Value := ((gclr ls i).set i v).set (i + 1) .null
theorem gclr_len (ls : List Value) (i : Nat) : (gclr ls i).length = ls.length := by
  unfold gclr
  split
  · rfl
  · split <;> simp
theorem gclr_at {ls : List Value} {i j : Nat} {v : Value} (h : (gclr ls i)[j]? = some v) (hn : v ≠ .null) : ls[j]? = some v ∧ ¬ (j + 1 = i ∧ v.category = 2) := by
  unfold gclr at h
  split at h
  · exact ⟨h, fun q => by omega⟩
  · next k =>
    split at h
    · next x hx =>
      rw [List.getElem?_set] at h
      split at h
      · split at h
        · cases h; exact absurd rfl hn
        · cases h
      · next hne => exact ⟨h, fun q => hne (by omega)⟩
    · next x hx =>
      rw [List.getElem?_set] at h
      split at h
      · split at h
        · cases h; exact absurd rfl hn
        · cases h
      · next hne => exact ⟨h, fun q => hne (by omega)⟩
    · next h1 h2 =>
      refine ⟨h, fun ⟨q1, q2⟩ => ?_⟩
      have hj : j = k := by omega
      subst hj
      cases v with
      | long x => exact h1 x h
      | double x => exact h2 x h
      | _ => simp [Value.category] at q2
/-- the pairs that a list of locals tells -/
def gprs (ad : Nat → Nat) (ls : List Value) : List (Nat × Value) := (List.range ls.length).filterMap fun i => match ls[i]? with
  | some v => if v = .null then none else some (i, gtv ad v)
  | none => none
theorem gprs_mem {ad : Nat → Nat} {ls : List Value} {i : Nat} {v : Value} (h : ls[i]? = some v) (hn : v ≠ .null) : (i, gtv ad v) ∈ gprs ad ls := by
  unfold gprs
  refine List.mem_filterMap.mpr ⟨i, List.mem_range.mpr (List.getElem?_eq_some_iff.mp h).1, ?_⟩
  simp [h, hn]
theorem gprs_of {ad : Nat → Nat} {ls : List Value} {q : Nat × Value} (h : q ∈ gprs ad ls) : ∃ v, ls[q.1]? = some v ∧ v ≠ .null ∧ q.2 = gtv ad v := by
  unfold gprs at h
  obtain ⟨i, -, hi⟩ := List.mem_filterMap.mp h
  cases hl : ls[i]? with
  | none => rw [hl] at hi; cases hi
  | some v =>
    rw [hl] at hi
    by_cases hv : v = .null
    · simp [hv] at hi
    · simp only [hv, if_false] at hi
      cases hi
      exact ⟨v, hl, hv, rfl⟩
theorem glo.has {ad : Nat → Nat} {n : Nat} {ls : List Value} {la : Array Slot} (h : glo ad n ls la) : lv_has la n (gprs ad ls) :=
  ⟨h.1, h.2.1, fun q hq => by
    obtain ⟨v, h1, h2, h3⟩ := gprs_of hq
    rw [h3]
    exact h.2.2.2 _ _ h1 h2⟩
theorem glo.st1 {ad : Nat → Nat} {n i : Nat} {ls : List Value} {la : Array Slot} {v : Value} (h : glo ad n ls la) (hi : i < n) (hc : v.category = 1) :
    ∃ la', storeLocals la i (gtv ad v) = some la' ∧ glo ad n (gst1 ls i v) la' := by
  obtain ⟨la', e, h'⟩ := lv_store1 (v := gtv ad v) h.has hi (by rw [gtv_cat]; exact hc)
  refine ⟨la', e, h'.1, h'.2.1, by simp [gst1, gclr_len, h.2.2.1], fun j w hj hn => ?_⟩
  unfold gst1 at hj
  rw [List.getElem?_set] at hj
  split at hj
  · next hij =>
    split at hj
    · cases hj
      subst hij
      exact h'.2.2 _ List.mem_cons_self
    · cases hj
  · next hij =>
    obtain ⟨h1, h2⟩ := gclr_at hj hn
    refine h'.2.2 (j, gtv ad w) (List.mem_cons_of_mem _ (List.mem_filter.mpr ⟨gprs_mem h1 hn, ?_⟩))
    have e1 : (j == i) = false := by simp; omega
    rw [show ((j, gtv ad w).1 == i) = false from e1]
    by_cases hq : j + 1 = i
    · have : ¬ w.category = 2 := fun q => h2 ⟨hq, q⟩
      simp [gtv_cat, this]
    · simp [hq]
theorem glo.st2 {ad : Nat → Nat} {n i : Nat} {ls : List Value} {la : Array Slot} {v : Value} (h : glo ad n ls la) (hi : i + 1 < n) (hc : v.category = 2) :
    ∃ la', storeLocals la i (gtv ad v) = some la' ∧ glo ad n (gst2 ls i v) la' := by
  obtain ⟨la', e, h'⟩ := lv_store2 (v := gtv ad v) h.has hi (by rw [gtv_cat]; exact hc)
  refine ⟨la', e, h'.1, h'.2.1, by simp [gst2, gclr_len, h.2.2.1], fun j w hj hn => ?_⟩
  unfold gst2 at hj
  rw [List.getElem?_set] at hj
  split at hj
  · split at hj
    · cases hj; exact absurd rfl hn
    · cases hj
  · next hij1 =>
    rw [List.getElem?_set] at hj
    split at hj
    · next hij =>
      split at hj
      · cases hj
        subst hij
        exact h'.2.2 _ List.mem_cons_self
      · cases hj
    · next hij =>
      obtain ⟨h1, h2⟩ := gclr_at hj hn
      refine h'.2.2 (j, gtv ad w) (List.mem_cons_of_mem _ (List.mem_filter.mpr ⟨gprs_mem h1 hn, ?_⟩))
      have e1 : (j == i) = false := by simp; omega
      have e2 : (j == i + 1) = false := by simp; omega
      rw [show ((j, gtv ad w).1 == i) = false from e1, show ((j, gtv ad w).1 == i + 1) = false from e2]
      by_cases hq : j + 1 = i
      · have : ¬ w.category = 2 := fun q => h2 ⟨hq, q⟩
        simp [gtv_cat, this]
      · simp [hq]
/-- the locals with which a method begins -/
def gargs (av : List Value) : List Value := av.flatMap fun v => if v.category = 2 then [v, .null] else [v]
def gent (av : List Value) (n : Nat) : List Value := gargs av ++ List.replicate (n - (gargs av).length) .null
theorem gargs_in (ad : Nat → Nat) : ∀ (av : List Value) (k i : Nat) (v : Value), (gargs av)[i]? = some v → v ≠ .null → (k + i, gtv ad v) ∈ lv_args k (av.map (gtv ad))
  | [], k, i, v, h, hn => by simp [gargs] at h
  | a :: av, k, i, v, h, hn => by
    show (k + i, gtv ad v) ∈ (k, gtv ad a) :: lv_args (if (gtv ad a).category = 2 then k + 2 else k + 1) (av.map (gtv ad))
    have hg : gargs (a :: av) = (if a.category = 2 then [a, .null] else [a]) ++ gargs av := by simp [gargs]
    rw [hg] at h
    rw [gtv_cat]
    by_cases hc : a.category = 2
    · rw [if_pos hc] at h ⊢
      match i, h with
      | 0, h => cases h; exact List.mem_cons_self
      | 1, h => cases h; exact absurd rfl hn
      | i + 2, h =>
        have := gargs_in ad av (k + 2) i v h hn
        rw [show k + (i + 2) = k + 2 + i by omega]
        exact List.mem_cons_of_mem _ this
    · rw [if_neg hc] at h ⊢
      match i, h with
      | 0, h => cases h; exact List.mem_cons_self
      | i + 1, h =>
        have := gargs_in ad av (k + 1) i v h hn
        rw [show k + (i + 1) = k + 1 + i by omega]
        exact List.mem_cons_of_mem _ this
theorem gargs_len (ad : Nat → Nat) : ∀ av : List Value, (lg_sl (av.map (gtv ad))).length = (gargs av).length
  | [] => rfl
  | a :: av => by
    have ih := gargs_len ad av
    have h1 : gargs (a :: av) = (if a.category = 2 then [a, .null] else [a]) ++ gargs av := by simp [gargs]
    have h2 : lg_sl ((a :: av).map (gtv ad)) = (if (gtv ad a).category = 2 then [.val (gtv ad a), .second] else [.val (gtv ad a)]) ++ lg_sl (av.map (gtv ad)) := by simp [lg_sl]
    rw [h1, h2, gtv_cat, List.length_append, List.length_append, ih]
    by_cases hc : a.category = 2 <;> simp [hc]
theorem glo_entry (ad : Nat → Nat) (av : List Value) {n : Nat} (h : (gargs av).length ≤ n) : glo ad n (gent av n) ((lg_sl (av.map (gtv ad)) ++ List.replicate (n - (lg_sl (av.map (gtv ad))).length) Slot.unset).toArray) := by
  obtain ⟨h1, h2, h3⟩ := lv_entry (av.map (gtv ad)) (n := n) (by rw [gargs_len]; exact h)
  refine ⟨h1, h2, by simp [gent]; omega, fun i v hi hn => ?_⟩
  unfold gent at hi
  rw [List.getElem?_append] at hi
  split at hi
  · have := gargs_in ad av 0 i v hi hn
    rw [Nat.zero_add] at this
    exact h3 _ this
  · rw [List.getElem?_replicate] at hi
    split at hi
    · cases hi; exact absurd rfl hn
    · cases hi
end
section
theorem gw_sub {ws : List Cond} (ps : List Nat) (hp : ws = ps.filterMap (fun i => lw_tbl[i]?)) (h : ws.all goodWord = true) : ∀ w ∈ ws, w ∈ gw := by
  intro w hw
  have h1 := List.all_eq_true.mp h w hw
  rw [hp] at hw
  obtain ⟨i, -, hi⟩ := List.mem_filterMap.mp hw
  exact gw_mem i hi h1
theorem gin0 : ∀ w ∈ u_ws RX0 TX0 11, w ∈ gw := gw_sub [125, 127, 129, 131, 133, 135, 137, 139, 141, 143, 145] (by decide +kernel) (by decide +kernel)
theorem gin1 : ∀ w ∈ u_ws RX1 TX1 2, w ∈ gw := gw_sub [172, 174] (by decide +kernel) (by decide +kernel)
theorem gin2 : ∀ w ∈ u_ws RX2 TX2 2, w ∈ gw := gw_sub [158, 160] (by decide +kernel) (by decide +kernel)
theorem gin3 : ∀ w ∈ u_ws RX3 TX3 12, w ∈ gw := gw_sub [189, 191, 193, 195, 197, 199, 201, 203, 205, 207, 209, 211] (by decide +kernel) (by decide +kernel)
theorem gin4 : ∀ w ∈ u_ws RX4 TX4 32, w ∈ gw := gw_sub [749, 751, 753, 755, 757, 759, 761, 763, 765, 767, 769, 771, 773, 775, 777, 779, 781, 783, 785, 787, 789, 791, 793, 795, 797, 799, 801, 803, 805, 807, 809, 811] (by decide +kernel) (by decide +kernel)
theorem gtyok {ci : Nat} {C : String} {T : u_T} {N : Nat} (h : vwCl[ci]? = some (C, T, N)) : ∃ ty0 : Nat → FieldType, (∀ k, k < N → parseFieldDescriptor (T k).2.2.1 = some (ty0 k)) ∧ ∀ a, a < N → ∀ b, b < N → a ≠ b → (T a).2.1 ≠ (T b).2.1 := by
  match ci, h with
  | 0, h => cases h; exact ⟨tyX0, tyX0_ok, nmX0⟩
  | 1, h => cases h; exact ⟨tyX1, tyX1_ok, nmX1⟩
  | 2, h => cases h; exact ⟨tyX2, tyX2_ok, nmX2⟩
  | 3, h => cases h; exact ⟨tyX3, tyX3_ok, nmX3⟩
  | 4, h => cases h; exact ⟨tyX4, tyX4_ok, nmX4⟩
  | k + 5, h => simp [vwCl] at h
theorem gw_acn : Cond.native arraycopyName ∈ gw := gw_mem 341 (by decide +kernel) (by decide +kernel)
theorem gw_acs : Cond.static arraycopyName ∈ gw := gw_mem 340 (by decide +kernel) (by decide +kernel)
theorem gw_sys : Cond.initialized "java/lang/System" ∈ gw := gw_mem 80 (by decide +kernel) (by decide +kernel)
end
section
abbrev gJ : Type := Nat → List Value → List Value → gG → Prop
theorem glo_of1 {ad : Nat → Nat} {n i : Nat} {ls : List Value} {la la2 : Array Slot} {v : Value} (h : glo ad n ls la) (h' : lv_has la2 n ((i, gtv ad v) :: (gprs ad ls).filter (fun q => !(q.1 == i) && !(q.1 + 1 == i && q.2.category == 2)))) : glo ad n (gst1 ls i v) la2 := by
  refine ⟨h'.1, h'.2.1, by simp [gst1, gclr_len, h.2.2.1], fun j w hj hn => ?_⟩
  unfold gst1 at hj
  rw [List.getElem?_set] at hj
  split at hj
  · next hij =>
    split at hj
    · cases hj
      subst hij
      exact h'.2.2 _ List.mem_cons_self
    · cases hj
  · next hij =>
    obtain ⟨h1, h2⟩ := gclr_at hj hn
    refine h'.2.2 (j, gtv ad w) (List.mem_cons_of_mem _ (List.mem_filter.mpr ⟨gprs_mem h1 hn, ?_⟩))
    have e1 : (j == i) = false := by simp; omega
    rw [show ((j, gtv ad w).1 == i) = false from e1]
    by_cases hq : j + 1 = i
    · have : ¬ w.category = 2 := fun q => h2 ⟨hq, q⟩
      simp [gtv_cat, this]
    · simp [hq]
theorem glo_of2 {ad : Nat → Nat} {n i : Nat} {ls : List Value} {la la2 : Array Slot} {v : Value} (h : glo ad n ls la) (h' : lv_has la2 n ((i, gtv ad v) :: (gprs ad ls).filter (fun q => !(q.1 == i) && (!(q.1 == i + 1) && !(q.1 + 1 == i && q.2.category == 2))))) : glo ad n (gst2 ls i v) la2 := by
  refine ⟨h'.1, h'.2.1, by simp [gst2, gclr_len, h.2.2.1], fun j w hj hn => ?_⟩
  unfold gst2 at hj
  rw [List.getElem?_set] at hj
  split at hj
  · split at hj
    · cases hj; exact absurd rfl hn
    · cases hj
  · next hij1 =>
    rw [List.getElem?_set] at hj
    split at hj
    · next hij =>
      split at hj
      · cases hj
        subst hij
        exact h'.2.2 _ List.mem_cons_self
      · cases hj
    · next hij =>
      obtain ⟨h1, h2⟩ := gclr_at hj hn
      refine h'.2.2 (j, gtv ad w) (List.mem_cons_of_mem _ (List.mem_filter.mpr ⟨gprs_mem h1 hn, ?_⟩))
      have e1 : (j == i) = false := by simp; omega
      have e2 : (j == i + 1) = false := by simp; omega
      rw [show ((j, gtv ad w).1 == i) = false from e1, show ((j, gtv ad w).1 == i + 1) = false from e2]
      by_cases hq : j + 1 = i
      · have : ¬ w.category = 2 := fun q => h2 ⟨hq, q⟩
        simp [gtv_cat, this]
      · simp [hq]
/-- a field by its place in a class's pool -/
def gfld (own : String) (idx ci j : Nat) : Prop := ∃ r : vw_C, vwCl[ci]? = some r ∧ j < r.2.2 ∧ Cond.fieldLink own idx (r.2.1 j).1 (r.2.1 j).2.1 (r.2.1 j).2.2.1 ∈ gw
def gfldW (own : String) (idx ci j : Nat) (ty : FieldType) : Prop := ∃ r : vw_C, vwCl[ci]? = some r ∧ j < r.2.2 ∧ Cond.fieldLink own idx (r.2.1 j).1 (r.2.1 j).2.1 (r.2.1 j).2.2.1 ∈ gw ∧ (r.2.1 j).2.2.2 = false ∧ parseFieldDescriptor (r.2.1 j).2.2.1 = some ty
def gmath (own : String) (idx : Nat) (y : MethodName) (b : ByteArray) : Prop := Cond.methodLink own idx y ∈ gw ∧ Cond.static y ∈ gw ∧ Cond.initialized "java/lang/Math" ∈ gw ∧ Cond.code y b 2 (some .int) ∈ gw
/-- a call by its place in a class's pool -/
def gcl (own : String) (idx : Nat) (M : gM) (n : Nat) : Prop := Cond.methodLink own idx M.1 ∈ gw ∧ Cond.code M.1 M.2.1 M.2.2.1 M.2.2.2.1 ∈ gw ∧ Cond.initialized M.1.cls ∈ gw ∧ (M.1.cls ≠ "java/lang/invoke/MethodHandle" ∧ M.1.cls ≠ "java/lang/invoke/VarHandle" ∧ (parseMethodDescriptor M.1.desc).map (fun d => d.parameters.length) = some n)
def gclV (own : String) (idx : Nat) (M : gM) (n : Nat) : Prop := gcl own idx M n ∧ Cond.instanceMethod M.1 ∈ gw ∧ Cond.selects M.1.cls M.1 M.1 ∈ gw
def gclS (own : String) (idx : Nat) (M : gM) (n : Nat) : Prop := gcl own idx M n ∧ Cond.static M.1 ∈ gw
/-- the class of the object in a cell -/
def gcls (k : Nat) (C : String) : Prop := (∃ (ci : Nat) (fl : List (Option Nat)) (r : vw_C), gshL[k]? = some (.inl (ci, fl)) ∧ vwCl[ci]? = some r ∧ r.1 = C) ∨ (k = 104 ∧ C = "java/lang/String")

def q_iconst (own : String) (cc : ByteArray) (fr lo : Nat) (G : gJ) : Prop := ∀ (pc : Nat) (ls st : List Value) (g : gG) (n : Int) (v : Int32), (decode cc pc = .ok (.iconst n, 1)) → (Int32.ofInt n = v) → (G (pc + 1) ls (.int v :: st) g) → G pc ls (st) g
def q_bipush (own : String) (cc : ByteArray) (fr lo : Nat) (G : gJ) : Prop := ∀ (pc : Nat) (ls st : List Value) (g : gG) (n : Int) (v : Int32), (decode cc pc = .ok (.bipush n, 2)) → ((Int8.ofInt n).toInt32 = v) → (G (pc + 2) ls (.int v :: st) g) → G pc ls (st) g
def q_sipush (own : String) (cc : ByteArray) (fr lo : Nat) (G : gJ) : Prop := ∀ (pc : Nat) (ls st : List Value) (g : gG) (n : Int) (v : Int32), (decode cc pc = .ok (.sipush n, 3)) → ((Int16.ofInt n).toInt32 = v) → (G (pc + 3) ls (.int v :: st) g) → G pc ls (st) g
def q_lconst (own : String) (cc : ByteArray) (fr lo : Nat) (G : gJ) : Prop := ∀ (pc : Nat) (ls st : List Value) (g : gG) (n : Fin 2) (v : Int64), (decode cc pc = .ok (.lconst n, 1)) → (Int64.ofNat (n : Nat) = v) → (G (pc + 1) ls (.long v :: st) g) → G pc ls (st) g
def q_iload_n (own : String) (cc : ByteArray) (fr lo : Nat) (G : gJ) : Prop := ∀ (pc : Nat) (ls st : List Value) (g : gG) (i : Fin 4) (x : Int32), (decode cc pc = .ok (.iload_n i, 1)) → (ls[(i : Nat)]? = some (.int x)) → (G (pc + 1) ls (.int x :: st) g) → G pc ls (st) g
def q_iload (own : String) (cc : ByteArray) (fr lo : Nat) (G : gJ) : Prop := ∀ (pc : Nat) (ls st : List Value) (g : gG) (i : Nat) (x : Int32), (decode cc pc = .ok (.iload i, 2)) → (ls[i]? = some (.int x)) → (G (pc + 2) ls (.int x :: st) g) → G pc ls (st) g
def q_aload_n (own : String) (cc : ByteArray) (fr lo : Nat) (G : gJ) : Prop := ∀ (pc : Nat) (ls st : List Value) (g : gG) (i : Fin 4) (x : Nat), (decode cc pc = .ok (.aload_n i, 1)) → (ls[(i : Nat)]? = some (.ref x)) → (G (pc + 1) ls (.ref x :: st) g) → G pc ls (st) g
def q_aload (own : String) (cc : ByteArray) (fr lo : Nat) (G : gJ) : Prop := ∀ (pc : Nat) (ls st : List Value) (g : gG) (i : Nat) (x : Nat), (decode cc pc = .ok (.aload i, 2)) → (ls[i]? = some (.ref x)) → (G (pc + 2) ls (.ref x :: st) g) → G pc ls (st) g
def q_lload_n (own : String) (cc : ByteArray) (fr lo : Nat) (G : gJ) : Prop := ∀ (pc : Nat) (ls st : List Value) (g : gG) (i : Fin 4) (x : Int64), (decode cc pc = .ok (.lload_n i, 1)) → (ls[(i : Nat)]? = some (.long x)) → (G (pc + 1) ls (.long x :: st) g) → G pc ls (st) g
def q_lload (own : String) (cc : ByteArray) (fr lo : Nat) (G : gJ) : Prop := ∀ (pc : Nat) (ls st : List Value) (g : gG) (i : Nat) (x : Int64), (decode cc pc = .ok (.lload i, 2)) → (ls[i]? = some (.long x)) → (G (pc + 2) ls (.long x :: st) g) → G pc ls (st) g
def q_istore_n (own : String) (cc : ByteArray) (fr lo : Nat) (G : gJ) : Prop := ∀ (pc : Nat) (ls st : List Value) (g : gG) (i : Fin 4) (x : Int32) (ls2 : List Value), (decode cc pc = .ok (.istore_n i, 1)) → ((i : Nat) < ls.length) → (gst1 ls (i : Nat) (.int x) = ls2) → (G (pc + 1) ls2 st g) → G pc ls (.int x :: st) g
def q_istore (own : String) (cc : ByteArray) (fr lo : Nat) (G : gJ) : Prop := ∀ (pc : Nat) (ls st : List Value) (g : gG) (i : Nat) (x : Int32) (ls2 : List Value), (decode cc pc = .ok (.istore i, 2)) → (i < ls.length) → (gst1 ls i (.int x) = ls2) → (G (pc + 2) ls2 st g) → G pc ls (.int x :: st) g
def q_astore_n (own : String) (cc : ByteArray) (fr lo : Nat) (G : gJ) : Prop := ∀ (pc : Nat) (ls st : List Value) (g : gG) (i : Fin 4) (x : Nat) (ls2 : List Value), (decode cc pc = .ok (.astore_n i, 1)) → ((i : Nat) < ls.length) → (gst1 ls (i : Nat) (.ref x) = ls2) → (G (pc + 1) ls2 st g) → G pc ls (.ref x :: st) g
def q_astore (own : String) (cc : ByteArray) (fr lo : Nat) (G : gJ) : Prop := ∀ (pc : Nat) (ls st : List Value) (g : gG) (i : Nat) (x : Nat) (ls2 : List Value), (decode cc pc = .ok (.astore i, 2)) → (i < ls.length) → (gst1 ls i (.ref x) = ls2) → (G (pc + 2) ls2 st g) → G pc ls (.ref x :: st) g
def q_lstore_n (own : String) (cc : ByteArray) (fr lo : Nat) (G : gJ) : Prop := ∀ (pc : Nat) (ls st : List Value) (g : gG) (i : Fin 4) (x : Int64) (ls2 : List Value), (decode cc pc = .ok (.lstore_n i, 1)) → ((i : Nat) + 1 < ls.length) → (gst2 ls (i : Nat) (.long x) = ls2) → (G (pc + 1) ls2 st g) → G pc ls (.long x :: st) g
def q_lstore (own : String) (cc : ByteArray) (fr lo : Nat) (G : gJ) : Prop := ∀ (pc : Nat) (ls st : List Value) (g : gG) (i : Nat) (x : Int64) (ls2 : List Value), (decode cc pc = .ok (.lstore i, 2)) → (i + 1 < ls.length) → (gst2 ls i (.long x) = ls2) → (G (pc + 2) ls2 st g) → G pc ls (.long x :: st) g
def q_iinc (own : String) (cc : ByteArray) (fr lo : Nat) (G : gJ) : Prop := ∀ (pc : Nat) (ls st : List Value) (g : gG) (i : Nat) (n : Int) (x : Int32) (y : Int32) (ls2 : List Value), (decode cc pc = .ok (.iinc i n, 3)) → (ls[i]? = some (.int x)) → (x + Int32.ofInt n = y) → (gst1 ls i (.int y) = ls2) → (G (pc + 3) ls2 st g) → G pc ls (st) g
def q_iadd (own : String) (cc : ByteArray) (fr lo : Nat) (G : gJ) : Prop := ∀ (pc : Nat) (ls st : List Value) (g : gG) (x : Int32) (y : Int32), (decode cc pc = .ok (.iadd, 1)) → (G (pc + 1) ls (.int (x + y) :: st) g) → G pc ls (.int y :: .int x :: st) g
def q_isub (own : String) (cc : ByteArray) (fr lo : Nat) (G : gJ) : Prop := ∀ (pc : Nat) (ls st : List Value) (g : gG) (x : Int32) (y : Int32), (decode cc pc = .ok (.isub, 1)) → (G (pc + 1) ls (.int (x - y) :: st) g) → G pc ls (.int y :: .int x :: st) g
def q_imul (own : String) (cc : ByteArray) (fr lo : Nat) (G : gJ) : Prop := ∀ (pc : Nat) (ls st : List Value) (g : gG) (x : Int32) (y : Int32), (decode cc pc = .ok (.imul, 1)) → (G (pc + 1) ls (.int (x * y) :: st) g) → G pc ls (.int y :: .int x :: st) g
def q_iand (own : String) (cc : ByteArray) (fr lo : Nat) (G : gJ) : Prop := ∀ (pc : Nat) (ls st : List Value) (g : gG) (x : Int32) (y : Int32), (decode cc pc = .ok (.iand, 1)) → (G (pc + 1) ls (.int (x &&& y) :: st) g) → G pc ls (.int y :: .int x :: st) g
def q_ior (own : String) (cc : ByteArray) (fr lo : Nat) (G : gJ) : Prop := ∀ (pc : Nat) (ls st : List Value) (g : gG) (x : Int32) (y : Int32), (decode cc pc = .ok (.ior, 1)) → (G (pc + 1) ls (.int (x ||| y) :: st) g) → G pc ls (.int y :: .int x :: st) g
def q_ixor (own : String) (cc : ByteArray) (fr lo : Nat) (G : gJ) : Prop := ∀ (pc : Nat) (ls st : List Value) (g : gG) (x : Int32) (y : Int32), (decode cc pc = .ok (.ixor, 1)) → (G (pc + 1) ls (.int (x ^^^ y) :: st) g) → G pc ls (.int y :: .int x :: st) g
def q_ishl (own : String) (cc : ByteArray) (fr lo : Nat) (G : gJ) : Prop := ∀ (pc : Nat) (ls st : List Value) (g : gG) (x : Int32) (y : Int32), (decode cc pc = .ok (.ishl, 1)) → (G (pc + 1) ls (.int (x <<< (y &&& 31)) :: st) g) → G pc ls (.int y :: .int x :: st) g
def q_ishr (own : String) (cc : ByteArray) (fr lo : Nat) (G : gJ) : Prop := ∀ (pc : Nat) (ls st : List Value) (g : gG) (x : Int32) (y : Int32), (decode cc pc = .ok (.ishr, 1)) → (G (pc + 1) ls (.int (x >>> (y &&& 31)) :: st) g) → G pc ls (.int y :: .int x :: st) g
def q_ineg (own : String) (cc : ByteArray) (fr lo : Nat) (G : gJ) : Prop := ∀ (pc : Nat) (ls st : List Value) (g : gG) (x : Int32), (decode cc pc = .ok (.ineg, 1)) → (G (pc + 1) ls (.int (-x) :: st) g) → G pc ls (.int x :: st) g
def q_idiv (own : String) (cc : ByteArray) (fr lo : Nat) (G : gJ) : Prop := ∀ (pc : Nat) (ls st : List Value) (g : gG) (x : Int32) (y : Int32), (decode cc pc = .ok (.idiv, 1)) → (¬ y = 0) → (G (pc + 1) ls (.int (x / y) :: st) g) → G pc ls (.int y :: .int x :: st) g
def q_irem (own : String) (cc : ByteArray) (fr lo : Nat) (G : gJ) : Prop := ∀ (pc : Nat) (ls st : List Value) (g : gG) (x : Int32) (y : Int32), (decode cc pc = .ok (.irem, 1)) → (¬ y = 0) → (G (pc + 1) ls (.int (x - x / y * y) :: st) g) → G pc ls (.int y :: .int x :: st) g
def q_ladd (own : String) (cc : ByteArray) (fr lo : Nat) (G : gJ) : Prop := ∀ (pc : Nat) (ls st : List Value) (g : gG) (x : Int64) (y : Int64), (decode cc pc = .ok (.ladd, 1)) → (G (pc + 1) ls (.long (x + y) :: st) g) → G pc ls (.long y :: .long x :: st) g
def q_lsub (own : String) (cc : ByteArray) (fr lo : Nat) (G : gJ) : Prop := ∀ (pc : Nat) (ls st : List Value) (g : gG) (x : Int64) (y : Int64), (decode cc pc = .ok (.lsub, 1)) → (G (pc + 1) ls (.long (x - y) :: st) g) → G pc ls (.long y :: .long x :: st) g
def q_lmul (own : String) (cc : ByteArray) (fr lo : Nat) (G : gJ) : Prop := ∀ (pc : Nat) (ls st : List Value) (g : gG) (x : Int64) (y : Int64), (decode cc pc = .ok (.lmul, 1)) → (G (pc + 1) ls (.long (x * y) :: st) g) → G pc ls (.long y :: .long x :: st) g
def q_ldiv (own : String) (cc : ByteArray) (fr lo : Nat) (G : gJ) : Prop := ∀ (pc : Nat) (ls st : List Value) (g : gG) (x : Int64) (y : Int64), (decode cc pc = .ok (.ldiv, 1)) → (¬ y = 0) → (G (pc + 1) ls (.long (x / y) :: st) g) → G pc ls (.long y :: .long x :: st) g
def q_lrem (own : String) (cc : ByteArray) (fr lo : Nat) (G : gJ) : Prop := ∀ (pc : Nat) (ls st : List Value) (g : gG) (x : Int64) (y : Int64), (decode cc pc = .ok (.lrem, 1)) → (¬ y = 0) → (G (pc + 1) ls (.long (x - x / y * y) :: st) g) → G pc ls (.long y :: .long x :: st) g
def q_i2l (own : String) (cc : ByteArray) (fr lo : Nat) (G : gJ) : Prop := ∀ (pc : Nat) (ls st : List Value) (g : gG) (x : Int32), (decode cc pc = .ok (.i2l, 1)) → (G (pc + 1) ls (.long x.toInt64 :: st) g) → G pc ls (.int x :: st) g
def q_i2b (own : String) (cc : ByteArray) (fr lo : Nat) (G : gJ) : Prop := ∀ (pc : Nat) (ls st : List Value) (g : gG) (x : Int32), (decode cc pc = .ok (.i2b, 1)) → (G (pc + 1) ls (.int x.toInt8.toInt32 :: st) g) → G pc ls (.int x :: st) g
def q_iushr (own : String) (cc : ByteArray) (fr lo : Nat) (G : gJ) : Prop := ∀ (pc : Nat) (ls st : List Value) (g : gG) (x : Int32) (y : Int32), (decode cc pc = .ok (.iushr, 1)) → (G (pc + 1) ls (.int (x.toUInt32 >>> (y.toUInt32 &&& Int32.toUInt32 31)).toInt32 :: st) g) → G pc ls (.int y :: .int x :: st) g
def q_i2c (own : String) (cc : ByteArray) (fr lo : Nat) (G : gJ) : Prop := ∀ (pc : Nat) (ls st : List Value) (g : gG) (x : Int32), (decode cc pc = .ok (.i2c, 1)) → (G (pc + 1) ls (.int (x.toUInt32 % 65536).toInt32 :: st) g) → G pc ls (.int x :: st) g
def q_lcmp (own : String) (cc : ByteArray) (fr lo : Nat) (G : gJ) : Prop := ∀ (pc : Nat) (ls st : List Value) (g : gG) (x : Int64) (y : Int64), (decode cc pc = .ok (.lcmp, 1)) → (G (pc + 1) ls (.int (lg_cmp x y) :: st) g) → G pc ls (.long y :: .long x :: st) g
def q_dup (own : String) (cc : ByteArray) (fr lo : Nat) (G : gJ) : Prop := ∀ (pc : Nat) (ls st : List Value) (g : gG) (v : Value), (decode cc pc = .ok (.dup, 1)) → (v.category = 1) → (G (pc + 1) ls (v :: v :: st) g) → G pc ls (v :: st) g
def q_pop (own : String) (cc : ByteArray) (fr lo : Nat) (G : gJ) : Prop := ∀ (pc : Nat) (ls st : List Value) (g : gG) (v : Value), (decode cc pc = .ok (.pop, 1)) → (v.category = 1) → (G (pc + 1) ls (st) g) → G pc ls (v :: st) g
def q_dup2 (own : String) (cc : ByteArray) (fr lo : Nat) (G : gJ) : Prop := ∀ (pc : Nat) (ls st : List Value) (g : gG) (v : Value) (w : Value), (decode cc pc = .ok (.dup2, 1)) → (v.category = 1) → (w.category = 1) → (G (pc + 1) ls (v :: w :: v :: w :: st) g) → G pc ls (v :: w :: st) g
def q_if_eq (own : String) (cc : ByteArray) (fr lo : Nat) (G : gJ) : Prop := ∀ (pc : Nat) (ls st : List Value) (g : gG) (x : Int32) (o : Int) (tgt : Nat), (decode cc pc = .ok (.ifCond .eq o, 3)) → ((pc : Int) + o = (tgt : Int)) → (x = 0 → G tgt ls st g) → (¬ x = 0 → G (pc + 3) ls st g) → G pc ls (.int x :: st) g
def q_if_ne (own : String) (cc : ByteArray) (fr lo : Nat) (G : gJ) : Prop := ∀ (pc : Nat) (ls st : List Value) (g : gG) (x : Int32) (o : Int) (tgt : Nat), (decode cc pc = .ok (.ifCond .ne o, 3)) → ((pc : Int) + o = (tgt : Int)) → (¬ x = 0 → G tgt ls st g) → (x = 0 → G (pc + 3) ls st g) → G pc ls (.int x :: st) g
def q_if_lt (own : String) (cc : ByteArray) (fr lo : Nat) (G : gJ) : Prop := ∀ (pc : Nat) (ls st : List Value) (g : gG) (x : Int32) (o : Int) (tgt : Nat), (decode cc pc = .ok (.ifCond .lt o, 3)) → ((pc : Int) + o = (tgt : Int)) → (x < 0 → G tgt ls st g) → (¬ x < 0 → G (pc + 3) ls st g) → G pc ls (.int x :: st) g
def q_if_ge (own : String) (cc : ByteArray) (fr lo : Nat) (G : gJ) : Prop := ∀ (pc : Nat) (ls st : List Value) (g : gG) (x : Int32) (o : Int) (tgt : Nat), (decode cc pc = .ok (.ifCond .ge o, 3)) → ((pc : Int) + o = (tgt : Int)) → (0 ≤ x → G tgt ls st g) → (¬ 0 ≤ x → G (pc + 3) ls st g) → G pc ls (.int x :: st) g
def q_if_gt (own : String) (cc : ByteArray) (fr lo : Nat) (G : gJ) : Prop := ∀ (pc : Nat) (ls st : List Value) (g : gG) (x : Int32) (o : Int) (tgt : Nat), (decode cc pc = .ok (.ifCond .gt o, 3)) → ((pc : Int) + o = (tgt : Int)) → (0 < x → G tgt ls st g) → (¬ 0 < x → G (pc + 3) ls st g) → G pc ls (.int x :: st) g
def q_if_le (own : String) (cc : ByteArray) (fr lo : Nat) (G : gJ) : Prop := ∀ (pc : Nat) (ls st : List Value) (g : gG) (x : Int32) (o : Int) (tgt : Nat), (decode cc pc = .ok (.ifCond .le o, 3)) → ((pc : Int) + o = (tgt : Int)) → (x ≤ 0 → G tgt ls st g) → (¬ x ≤ 0 → G (pc + 3) ls st g) → G pc ls (.int x :: st) g
def q_icmp_eq (own : String) (cc : ByteArray) (fr lo : Nat) (G : gJ) : Prop := ∀ (pc : Nat) (ls st : List Value) (g : gG) (x : Int32) (y : Int32) (o : Int) (tgt : Nat), (decode cc pc = .ok (.if_icmp .eq o, 3)) → ((pc : Int) + o = (tgt : Int)) → (x = y → G tgt ls st g) → (¬ x = y → G (pc + 3) ls st g) → G pc ls (.int y :: .int x :: st) g
def q_icmp_ne (own : String) (cc : ByteArray) (fr lo : Nat) (G : gJ) : Prop := ∀ (pc : Nat) (ls st : List Value) (g : gG) (x : Int32) (y : Int32) (o : Int) (tgt : Nat), (decode cc pc = .ok (.if_icmp .ne o, 3)) → ((pc : Int) + o = (tgt : Int)) → (¬ x = y → G tgt ls st g) → (x = y → G (pc + 3) ls st g) → G pc ls (.int y :: .int x :: st) g
def q_icmp_lt (own : String) (cc : ByteArray) (fr lo : Nat) (G : gJ) : Prop := ∀ (pc : Nat) (ls st : List Value) (g : gG) (x : Int32) (y : Int32) (o : Int) (tgt : Nat), (decode cc pc = .ok (.if_icmp .lt o, 3)) → ((pc : Int) + o = (tgt : Int)) → (x < y → G tgt ls st g) → (¬ x < y → G (pc + 3) ls st g) → G pc ls (.int y :: .int x :: st) g
def q_icmp_ge (own : String) (cc : ByteArray) (fr lo : Nat) (G : gJ) : Prop := ∀ (pc : Nat) (ls st : List Value) (g : gG) (x : Int32) (y : Int32) (o : Int) (tgt : Nat), (decode cc pc = .ok (.if_icmp .ge o, 3)) → ((pc : Int) + o = (tgt : Int)) → (y ≤ x → G tgt ls st g) → (¬ y ≤ x → G (pc + 3) ls st g) → G pc ls (.int y :: .int x :: st) g
def q_icmp_gt (own : String) (cc : ByteArray) (fr lo : Nat) (G : gJ) : Prop := ∀ (pc : Nat) (ls st : List Value) (g : gG) (x : Int32) (y : Int32) (o : Int) (tgt : Nat), (decode cc pc = .ok (.if_icmp .gt o, 3)) → ((pc : Int) + o = (tgt : Int)) → (y < x → G tgt ls st g) → (¬ y < x → G (pc + 3) ls st g) → G pc ls (.int y :: .int x :: st) g
def q_icmp_le (own : String) (cc : ByteArray) (fr lo : Nat) (G : gJ) : Prop := ∀ (pc : Nat) (ls st : List Value) (g : gG) (x : Int32) (y : Int32) (o : Int) (tgt : Nat), (decode cc pc = .ok (.if_icmp .le o, 3)) → ((pc : Int) + o = (tgt : Int)) → (x ≤ y → G tgt ls st g) → (¬ x ≤ y → G (pc + 3) ls st g) → G pc ls (.int y :: .int x :: st) g
def q_goto (own : String) (cc : ByteArray) (fr lo : Nat) (G : gJ) : Prop := ∀ (pc : Nat) (ls st : List Value) (g : gG) (o : Int) (tgt : Nat), (decode cc pc = .ok (.goto o, 3)) → ((pc : Int) + o = (tgt : Int)) → (G tgt ls st g) → G pc ls (st) g
def q_tabOut (own : String) (cc : ByteArray) (fr lo : Nat) (G : gJ) : Prop := ∀ (pc : Nat) (ls st : List Value) (g : gG) (d : Int) (lo_ : Int) (hi_ : Int) (offs : Array Int) (len : Nat) (x : Int32) (tgt : Nat), (decode cc pc = .ok (.tableswitch d lo_ hi_ offs, len)) → (x.toInt < lo_ ∨ hi_ < x.toInt) → ((pc : Int) + d = (tgt : Int)) → (G tgt ls st g) → G pc ls (.int x :: st) g
def q_tabIn (own : String) (cc : ByteArray) (fr lo : Nat) (G : gJ) : Prop := ∀ (pc : Nat) (ls st : List Value) (g : gG) (d : Int) (lo_ : Int) (hi_ : Int) (offs : Array Int) (len : Nat) (x : Int32) (o : Int) (tgt : Nat), (decode cc pc = .ok (.tableswitch d lo_ hi_ offs, len)) → (¬ x.toInt < lo_) → (¬ hi_ < x.toInt) → (offs[(x.toInt - lo_).toNat]? = some o) → ((pc : Int) + o = (tgt : Int)) → (G tgt ls st g) → G pc ls (.int x :: st) g
def q_lookup (own : String) (cc : ByteArray) (fr lo : Nat) (G : gJ) : Prop := ∀ (pc : Nat) (ls st : List Value) (g : gG) (d : Int) (ps : Array (Int × Int)) (len : Nat) (x : Int32) (o : Int) (tgt : Nat), (decode cc pc = .ok (.lookupswitch d ps, len)) → ((ps.toList.zip (ps.toList.drop 1)).all (fun (a, next) => a.1 < next.1) = true) → (Op.lookupswitch.offset ps.toList d x.toInt = o) → ((pc : Int) + o = (tgt : Int)) → (G tgt ls st g) → G pc ls (.int x :: st) g
def q_ldc (own : String) (cc : ByteArray) (fr lo : Nat) (G : gJ) : Prop := ∀ (pc : Nat) (ls st : List Value) (g : gG) (idx : Nat) (v : Int32), (decode cc pc = .ok (.ldc idx, 2)) → (Cond.constant own idx v ∈ gw) → (G (pc + 2) ls (.int v :: st) g) → G pc ls (st) g
def q_ldc_w (own : String) (cc : ByteArray) (fr lo : Nat) (G : gJ) : Prop := ∀ (pc : Nat) (ls st : List Value) (g : gG) (idx : Nat) (v : Int32), (decode cc pc = .ok (.ldc_w idx, 3)) → (Cond.constant own idx v ∈ gw) → (G (pc + 3) ls (.int v :: st) g) → G pc ls (st) g
def q_ldc2 (own : String) (cc : ByteArray) (fr lo : Nat) (G : gJ) : Prop := ∀ (pc : Nat) (ls st : List Value) (g : gG) (idx : Nat) (v : Int64), (decode cc pc = .ok (.ldc2_w idx, 3)) → (Cond.constantLong own idx v ∈ gw) → (G (pc + 3) ls (.long v :: st) g) → G pc ls (st) g
def q_ldcS (own : String) (cc : ByteArray) (fr lo : Nat) (G : gJ) : Prop := ∀ (pc : Nat) (ls st : List Value) (g : gG), (decode cc pc = .ok (.ldc 27, 2)) → (own = RX2) → (G (pc + 2) ls (.ref 104 :: st) g) → G pc ls (st) g
def q_getI (own : String) (cc : ByteArray) (fr lo : Nat) (G : gJ) : Prop := ∀ (pc : Nat) (ls st : List Value) (g : gG) (idx : Nat) (ci : Nat) (j : Nat) (kk : Nat) (fl : List (Option Nat)), (decode cc pc = .ok (.getfield idx, 3)) → (gfld own idx ci j) → (gshL[kk]? = some (.inl (ci, fl))) → (fl[j]? = some none) → (G (pc + 3) ls (.int (g kk j) :: st) g) → G pc ls (.ref kk :: st) g
def q_getR (own : String) (cc : ByteArray) (fr lo : Nat) (G : gJ) : Prop := ∀ (pc : Nat) (ls st : List Value) (g : gG) (idx : Nat) (ci : Nat) (j : Nat) (kk : Nat) (fl : List (Option Nat)) (q : Nat), (decode cc pc = .ok (.getfield idx, 3)) → (gfld own idx ci j) → (gshL[kk]? = some (.inl (ci, fl))) → (fl[j]? = some (some q)) → (G (pc + 3) ls (.ref q :: st) g) → G pc ls (.ref kk :: st) g
def q_putI (own : String) (cc : ByteArray) (fr lo : Nat) (G : gJ) : Prop := ∀ (pc : Nat) (ls st : List Value) (g : gG) (idx : Nat) (ci : Nat) (j : Nat) (kk : Nat) (fl : List (Option Nat)) (x : Int32) (ty : FieldType), (decode cc pc = .ok (.putfield idx, 3)) → (gfldW own idx ci j ty) → (gshL[kk]? = some (.inl (ci, fl))) → (fl[j]? = some none) → (narrow ty (.int x) = .int x) → (fits ty (.int x) = true) → (G (pc + 3) ls st (gup g kk j x)) → G pc ls (.int x :: .ref kk :: st) g
def q_iaload (own : String) (cc : ByteArray) (fr lo : Nat) (G : gJ) : Prop := ∀ (pc : Nat) (ls st : List Value) (g : gG) (kk : Nat) (n : Nat) (i : Int32), (decode cc pc = .ok (.iaload, 1)) → (gshL[kk]? = some (.inr (0, n))) → (vp_in i n) → (G (pc + 1) ls (.int (g kk i.toNatClampNeg) :: st) g) → G pc ls (.int i :: .ref kk :: st) g
def q_caload (own : String) (cc : ByteArray) (fr lo : Nat) (G : gJ) : Prop := ∀ (pc : Nat) (ls st : List Value) (g : gG) (kk : Nat) (n : Nat) (i : Int32), (decode cc pc = .ok (.caload, 1)) → (gshL[kk]? = some (.inr (1, n))) → (vp_in i n) → (G (pc + 1) ls (.int (g kk i.toNatClampNeg) :: st) g) → G pc ls (.int i :: .ref kk :: st) g
def q_iastore (own : String) (cc : ByteArray) (fr lo : Nat) (G : gJ) : Prop := ∀ (pc : Nat) (ls st : List Value) (g : gG) (kk : Nat) (n : Nat) (i : Int32) (x : Int32), (decode cc pc = .ok (.iastore, 1)) → (gshL[kk]? = some (.inr (0, n))) → (vp_in i n) → (G (pc + 1) ls st (gup g kk i.toNatClampNeg x)) → G pc ls (.int x :: .int i :: .ref kk :: st) g
def q_castore (own : String) (cc : ByteArray) (fr lo : Nat) (G : gJ) : Prop := ∀ (pc : Nat) (ls st : List Value) (g : gG) (kk : Nat) (n : Nat) (i : Int32) (x : Int32), (decode cc pc = .ok (.castore, 1)) → (gshL[kk]? = some (.inr (1, n))) → (vp_in i n) → (G (pc + 1) ls st (gup g kk i.toNatClampNeg (vp_nar .char x))) → G pc ls (.int x :: .int i :: .ref kk :: st) g
def q_aaload (own : String) (cc : ByteArray) (fr lo : Nat) (G : gJ) : Prop := ∀ (pc : Nat) (ls st : List Value) (g : gG) (kk : Nat) (n : Nat) (i : Int32), (decode cc pc = .ok (.aaload, 1)) → (gshL[kk]? = some (.inr (2, n))) → (vp_in i n) → (G (pc + 1) ls (.ref (kk + 1 + i.toNatClampNeg) :: st) g) → G pc ls (.int i :: .ref kk :: st) g
def q_alen (own : String) (cc : ByteArray) (fr lo : Nat) (G : gJ) : Prop := ∀ (pc : Nat) (ls st : List Value) (g : gG) (kk : Nat) (t : Nat) (n : Nat), (decode cc pc = .ok (.arraylength, 1)) → (gshL[kk]? = some (.inr (t, n))) → (t < 3) → (n < 2147483648) → (G (pc + 1) ls (.int (nI n) :: st) g) → G pc ls (.ref kk :: st) g
def q_gets (own : String) (cc : ByteArray) (fr lo : Nat) (G : gJ) : Prop := ∀ (pc : Nat) (ls st : List Value) (g : gG) (idx : Nat) (q : Nat), (decode cc pc = .ok (.getstatic idx, 3)) → (100 ≤ q ∧ q < 104) → ((own = RX0 ∧ idx = gnx q) ∨ Cond.fieldLink own idx "ArmourOfTheShy" (gsn q) "[I" ∈ gw) → (G (pc + 3) ls (.ref q :: st) g) → G pc ls (st) g
def q_getsC (own : String) (cc : ByteArray) (fr lo : Nat) (G : gJ) : Prop := ∀ (pc : Nat) (ls st : List Value) (g : gG) (idx : Nat), (decode cc pc = .ok (.getstatic idx, 3)) → (Cond.fieldLink own idx "java/lang/String" "COMPACT_STRINGS" "Z" ∈ gw) → (G (pc + 3) ls (.int 1 :: st) g) → G pc ls (st) g
def q_tabld (own : String) (cc : ByteArray) (fr lo : Nat) (G : gJ) : Prop := ∀ (pc : Nat) (ls st : List Value) (g : gG) (q : Nat) (i : Int32), (decode cc pc = .ok (.iaload, 1)) → (100 ≤ q ∧ q < 104) → (vp_in i 6) → (G (pc + 1) ls (.int (gtab q i.toNatClampNeg) :: st) g) → G pc ls (.int i :: .ref q :: st) g
def q_strld (own : String) (cc : ByteArray) (fr lo : Nat) (G : gJ) : Prop := ∀ (pc : Nat) (ls st : List Value) (g : gG) (i : Int32), (decode cc pc = .ok (.baload, 1)) → (vp_in i 6) → (G (pc + 1) ls (.int (gtab 105 i.toNatClampNeg) :: st) g) → G pc ls (.int i :: .ref 105 :: st) g
def q_strlen (own : String) (cc : ByteArray) (fr lo : Nat) (G : gJ) : Prop := ∀ (pc : Nat) (ls st : List Value) (g : gG), (decode cc pc = .ok (.arraylength, 1)) → (G (pc + 1) ls (.int 6 :: st) g) → G pc ls (.ref 105 :: st) g
def q_strV (own : String) (cc : ByteArray) (fr lo : Nat) (G : gJ) : Prop := ∀ (pc : Nat) (ls st : List Value) (g : gG) (idx : Nat), (decode cc pc = .ok (.getfield idx, 3)) → (Cond.fieldLink own idx "java/lang/String" "value" "[B" ∈ gw) → (G (pc + 3) ls (.ref 105 :: st) g) → G pc ls (.ref 104 :: st) g
def q_strC (own : String) (cc : ByteArray) (fr lo : Nat) (G : gJ) : Prop := ∀ (pc : Nat) (ls st : List Value) (g : gG) (idx : Nat), (decode cc pc = .ok (.getfield idx, 3)) → (Cond.fieldLink own idx "java/lang/String" "coder" "B" ∈ gw) → (G (pc + 3) ls (.int 0 :: st) g) → G pc ls (.ref 104 :: st) g
def q_mmax (own : String) (cc : ByteArray) (fr lo : Nat) (G : gJ) : Prop := ∀ (pc : Nat) (ls st : List Value) (g : gG) (idx : Nat) (x : Int32) (y : Int32), (decode cc pc = .ok (.invokestatic idx, 3)) → (gmath own idx Lib.Math.max.name Lib.Math.max.code) → (1 ≤ fr ∧ (st.map fun v => v.category).sum + 13 ≤ lo) → (G (pc + 3) ls (.int (if x < y then y else x) :: st) g) → G pc ls (.int y :: .int x :: st) g
def q_mmin (own : String) (cc : ByteArray) (fr lo : Nat) (G : gJ) : Prop := ∀ (pc : Nat) (ls st : List Value) (g : gG) (idx : Nat) (x : Int32) (y : Int32), (decode cc pc = .ok (.invokestatic idx, 3)) → (gmath own idx Lib.Math.min.name Lib.Math.min.code) → (1 ≤ fr ∧ (st.map fun v => v.category).sum + 13 ≤ lo) → (G (pc + 3) ls (.int (if y < x then y else x) :: st) g) → G pc ls (.int y :: .int x :: st) g
def q_acopy (own : String) (cc : ByteArray) (fr lo : Nat) (G : gJ) : Prop := ∀ (pc : Nat) (ls st : List Value) (g : gG) (idx : Nat) (k0 : Nat) (k1 : Nat) (n0 : Nat) (n1 : Nat) (n : Int32), (decode cc pc = .ok (.invokestatic idx, 3)) → (Cond.methodLink own idx arraycopyName ∈ gw) → (gshL[k0]? = some (.inr (0, n0))) → (gshL[k1]? = some (.inr (0, n1))) → (¬ n < 0 ∧ n.toNatClampNeg ≤ n0 ∧ n.toNatClampNeg ≤ n1) → (1 ≤ fr ∧ (st.map fun v => v.category).sum + 18 ≤ lo) → (G (pc + 3) ls st (gcp g k0 k1 n.toNatClampNeg)) → G pc ls (.int n :: .int 0 :: .ref k1 :: .int 0 :: .ref k0 :: st) g
def q_callV (own : String) (cc : ByteArray) (fr lo : Nat) (G : gJ) : Prop := ∀ (pc : Nat) (ls st : List Value) (g : gG) (idx : Nat) (M : gM) (kk : Nat) (As : List Value) (st2 : List Value) (Qc : Option Value → gG → Prop), (decode cc pc = .ok (.invokevirtual idx, 3)) → (gclV own idx M As.length) → (gcls kk M.1.cls) → (As.reverse ++ .ref kk :: st = st2) → (M.2.2.2.2.1 + 1 ≤ fr ∧ 8 + (M.2.2.1 + 11) + M.2.2.2.2.2 ≤ lo ∧ (st.map fun v => v.category).sum ≤ 8) → (gC M (.ref kk :: As) g Qc) → (∀ (r : Option Value) (g1 : gG), Qc r g1 → G (pc + 3) ls (r.toList ++ st) g1) → G pc ls (st2) g
def q_callS (own : String) (cc : ByteArray) (fr lo : Nat) (G : gJ) : Prop := ∀ (pc : Nat) (ls st : List Value) (g : gG) (idx : Nat) (M : gM) (As : List Value) (st2 : List Value) (Qc : Option Value → gG → Prop), (decode cc pc = .ok (.invokestatic idx, 3)) → (gclS own idx M As.length) → (As.reverse ++ st = st2) → (M.2.2.2.2.1 + 1 ≤ fr ∧ 8 + (M.2.2.1 + 11) + M.2.2.2.2.2 ≤ lo ∧ (st.map fun v => v.category).sum ≤ 8) → (gC M As g Qc) → (∀ (r : Option Value) (g1 : gG), Qc r g1 → G (pc + 3) ls (r.toList ++ st) g1) → G pc ls (st2) g
def gR (own : String) (cc : ByteArray) (fr lo : Nat) (G : gJ) : Prop := q_iconst own cc fr lo G ∧ q_bipush own cc fr lo G ∧ q_sipush own cc fr lo G ∧ q_lconst own cc fr lo G ∧ q_iload_n own cc fr lo G ∧ q_iload own cc fr lo G ∧ q_aload_n own cc fr lo G ∧ q_aload own cc fr lo G ∧ q_lload_n own cc fr lo G ∧ q_lload own cc fr lo G ∧ q_istore_n own cc fr lo G ∧ q_istore own cc fr lo G ∧ q_astore_n own cc fr lo G ∧ q_astore own cc fr lo G ∧ q_lstore_n own cc fr lo G ∧ q_lstore own cc fr lo G ∧ q_iinc own cc fr lo G ∧ q_iadd own cc fr lo G ∧ q_isub own cc fr lo G ∧ q_imul own cc fr lo G ∧ q_iand own cc fr lo G ∧ q_ior own cc fr lo G ∧ q_ixor own cc fr lo G ∧ q_ishl own cc fr lo G ∧ q_ishr own cc fr lo G ∧ q_ineg own cc fr lo G ∧ q_idiv own cc fr lo G ∧ q_irem own cc fr lo G ∧ q_ladd own cc fr lo G ∧ q_lsub own cc fr lo G ∧ q_lmul own cc fr lo G ∧ q_ldiv own cc fr lo G ∧ q_lrem own cc fr lo G ∧ q_i2l own cc fr lo G ∧ q_i2b own cc fr lo G ∧ q_iushr own cc fr lo G ∧ q_i2c own cc fr lo G ∧ q_lcmp own cc fr lo G ∧ q_dup own cc fr lo G ∧ q_pop own cc fr lo G ∧ q_dup2 own cc fr lo G ∧ q_if_eq own cc fr lo G ∧ q_if_ne own cc fr lo G ∧ q_if_lt own cc fr lo G ∧ q_if_ge own cc fr lo G ∧ q_if_gt own cc fr lo G ∧ q_if_le own cc fr lo G ∧ q_icmp_eq own cc fr lo G ∧ q_icmp_ne own cc fr lo G ∧ q_icmp_lt own cc fr lo G ∧ q_icmp_ge own cc fr lo G ∧ q_icmp_gt own cc fr lo G ∧ q_icmp_le own cc fr lo G ∧ q_goto own cc fr lo G ∧ q_tabOut own cc fr lo G ∧ q_tabIn own cc fr lo G ∧ q_lookup own cc fr lo G ∧ q_ldc own cc fr lo G ∧ q_ldc_w own cc fr lo G ∧ q_ldc2 own cc fr lo G ∧ q_ldcS own cc fr lo G ∧ q_getI own cc fr lo G ∧ q_getR own cc fr lo G ∧ q_putI own cc fr lo G ∧ q_iaload own cc fr lo G ∧ q_caload own cc fr lo G ∧ q_iastore own cc fr lo G ∧ q_castore own cc fr lo G ∧ q_aaload own cc fr lo G ∧ q_alen own cc fr lo G ∧ q_gets own cc fr lo G ∧ q_getsC own cc fr lo G ∧ q_tabld own cc fr lo G ∧ q_strld own cc fr lo G ∧ q_strlen own cc fr lo G ∧ q_strV own cc fr lo G ∧ q_strC own cc fr lo G ∧ q_mmax own cc fr lo G ∧ q_mmin own cc fr lo G ∧ q_acopy own cc fr lo G ∧ q_callV own cc fr lo G ∧ q_callS own cc fr lo G
section GU
variable {own : String} {cc : ByteArray} {fr lo : Nat} {G : gJ}
theorem r_iconst (h : gR own cc fr lo G) {pc : Nat} {ls st : List Value} {g : gG} {n : Int} {v : Int32} (hd : decode cc pc = .ok (.iconst n, 1)) (hv : Int32.ofInt n = v) (k : G (pc + 1) ls (.int v :: st) g) : G pc ls (st) g := h.1 pc ls st g n v hd hv k
theorem r_bipush (h : gR own cc fr lo G) {pc : Nat} {ls st : List Value} {g : gG} {n : Int} {v : Int32} (hd : decode cc pc = .ok (.bipush n, 2)) (hv : (Int8.ofInt n).toInt32 = v) (k : G (pc + 2) ls (.int v :: st) g) : G pc ls (st) g := h.2.1 pc ls st g n v hd hv k
theorem r_sipush (h : gR own cc fr lo G) {pc : Nat} {ls st : List Value} {g : gG} {n : Int} {v : Int32} (hd : decode cc pc = .ok (.sipush n, 3)) (hv : (Int16.ofInt n).toInt32 = v) (k : G (pc + 3) ls (.int v :: st) g) : G pc ls (st) g := h.2.2.1 pc ls st g n v hd hv k
theorem r_lconst (h : gR own cc fr lo G) {pc : Nat} {ls st : List Value} {g : gG} {n : Fin 2} {v : Int64} (hd : decode cc pc = .ok (.lconst n, 1)) (hv : Int64.ofNat (n : Nat) = v) (k : G (pc + 1) ls (.long v :: st) g) : G pc ls (st) g := h.2.2.2.1 pc ls st g n v hd hv k
theorem r_iload_n (h : gR own cc fr lo G) {pc : Nat} {ls st : List Value} {g : gG} {i : Fin 4} {x : Int32} (hd : decode cc pc = .ok (.iload_n i, 1)) (hi : ls[(i : Nat)]? = some (.int x)) (k : G (pc + 1) ls (.int x :: st) g) : G pc ls (st) g := h.2.2.2.2.1 pc ls st g i x hd hi k
theorem r_iload (h : gR own cc fr lo G) {pc : Nat} {ls st : List Value} {g : gG} {i : Nat} {x : Int32} (hd : decode cc pc = .ok (.iload i, 2)) (hi : ls[i]? = some (.int x)) (k : G (pc + 2) ls (.int x :: st) g) : G pc ls (st) g := h.2.2.2.2.2.1 pc ls st g i x hd hi k
theorem r_aload_n (h : gR own cc fr lo G) {pc : Nat} {ls st : List Value} {g : gG} {i : Fin 4} {x : Nat} (hd : decode cc pc = .ok (.aload_n i, 1)) (hi : ls[(i : Nat)]? = some (.ref x)) (k : G (pc + 1) ls (.ref x :: st) g) : G pc ls (st) g := h.2.2.2.2.2.2.1 pc ls st g i x hd hi k
theorem r_aload (h : gR own cc fr lo G) {pc : Nat} {ls st : List Value} {g : gG} {i : Nat} {x : Nat} (hd : decode cc pc = .ok (.aload i, 2)) (hi : ls[i]? = some (.ref x)) (k : G (pc + 2) ls (.ref x :: st) g) : G pc ls (st) g := h.2.2.2.2.2.2.2.1 pc ls st g i x hd hi k
theorem r_lload_n (h : gR own cc fr lo G) {pc : Nat} {ls st : List Value} {g : gG} {i : Fin 4} {x : Int64} (hd : decode cc pc = .ok (.lload_n i, 1)) (hi : ls[(i : Nat)]? = some (.long x)) (k : G (pc + 1) ls (.long x :: st) g) : G pc ls (st) g := h.2.2.2.2.2.2.2.2.1 pc ls st g i x hd hi k
theorem r_lload (h : gR own cc fr lo G) {pc : Nat} {ls st : List Value} {g : gG} {i : Nat} {x : Int64} (hd : decode cc pc = .ok (.lload i, 2)) (hi : ls[i]? = some (.long x)) (k : G (pc + 2) ls (.long x :: st) g) : G pc ls (st) g := h.2.2.2.2.2.2.2.2.2.1 pc ls st g i x hd hi k
theorem r_istore_n (h : gR own cc fr lo G) {pc : Nat} {ls st : List Value} {g : gG} {i : Fin 4} {x : Int32} {ls2 : List Value} (hd : decode cc pc = .ok (.istore_n i, 1)) (hi : (i : Nat) < ls.length) (hs : gst1 ls (i : Nat) (.int x) = ls2) (k : G (pc + 1) ls2 st g) : G pc ls (.int x :: st) g := h.2.2.2.2.2.2.2.2.2.2.1 pc ls st g i x ls2 hd hi hs k
theorem r_istore (h : gR own cc fr lo G) {pc : Nat} {ls st : List Value} {g : gG} {i : Nat} {x : Int32} {ls2 : List Value} (hd : decode cc pc = .ok (.istore i, 2)) (hi : i < ls.length) (hs : gst1 ls i (.int x) = ls2) (k : G (pc + 2) ls2 st g) : G pc ls (.int x :: st) g := h.2.2.2.2.2.2.2.2.2.2.2.1 pc ls st g i x ls2 hd hi hs k
theorem r_astore_n (h : gR own cc fr lo G) {pc : Nat} {ls st : List Value} {g : gG} {i : Fin 4} {x : Nat} {ls2 : List Value} (hd : decode cc pc = .ok (.astore_n i, 1)) (hi : (i : Nat) < ls.length) (hs : gst1 ls (i : Nat) (.ref x) = ls2) (k : G (pc + 1) ls2 st g) : G pc ls (.ref x :: st) g := h.2.2.2.2.2.2.2.2.2.2.2.2.1 pc ls st g i x ls2 hd hi hs k
theorem r_astore (h : gR own cc fr lo G) {pc : Nat} {ls st : List Value} {g : gG} {i : Nat} {x : Nat} {ls2 : List Value} (hd : decode cc pc = .ok (.astore i, 2)) (hi : i < ls.length) (hs : gst1 ls i (.ref x) = ls2) (k : G (pc + 2) ls2 st g) : G pc ls (.ref x :: st) g := h.2.2.2.2.2.2.2.2.2.2.2.2.2.1 pc ls st g i x ls2 hd hi hs k
theorem r_lstore_n (h : gR own cc fr lo G) {pc : Nat} {ls st : List Value} {g : gG} {i : Fin 4} {x : Int64} {ls2 : List Value} (hd : decode cc pc = .ok (.lstore_n i, 1)) (hi : (i : Nat) + 1 < ls.length) (hs : gst2 ls (i : Nat) (.long x) = ls2) (k : G (pc + 1) ls2 st g) : G pc ls (.long x :: st) g := h.2.2.2.2.2.2.2.2.2.2.2.2.2.2.1 pc ls st g i x ls2 hd hi hs k
theorem r_lstore (h : gR own cc fr lo G) {pc : Nat} {ls st : List Value} {g : gG} {i : Nat} {x : Int64} {ls2 : List Value} (hd : decode cc pc = .ok (.lstore i, 2)) (hi : i + 1 < ls.length) (hs : gst2 ls i (.long x) = ls2) (k : G (pc + 2) ls2 st g) : G pc ls (.long x :: st) g := h.2.2.2.2.2.2.2.2.2.2.2.2.2.2.2.1 pc ls st g i x ls2 hd hi hs k
theorem r_iinc (h : gR own cc fr lo G) {pc : Nat} {ls st : List Value} {g : gG} {i : Nat} {n : Int} {x : Int32} {y : Int32} {ls2 : List Value} (hd : decode cc pc = .ok (.iinc i n, 3)) (hi : ls[i]? = some (.int x)) (hv : x + Int32.ofInt n = y) (hs : gst1 ls i (.int y) = ls2) (k : G (pc + 3) ls2 st g) : G pc ls (st) g := h.2.2.2.2.2.2.2.2.2.2.2.2.2.2.2.2.1 pc ls st g i n x y ls2 hd hi hv hs k
theorem r_iadd (h : gR own cc fr lo G) {pc : Nat} {ls st : List Value} {g : gG} {x : Int32} {y : Int32} (hd : decode cc pc = .ok (.iadd, 1)) (k : G (pc + 1) ls (.int (x + y) :: st) g) : G pc ls (.int y :: .int x :: st) g := h.2.2.2.2.2.2.2.2.2.2.2.2.2.2.2.2.2.1 pc ls st g x y hd k
theorem r_isub (h : gR own cc fr lo G) {pc : Nat} {ls st : List Value} {g : gG} {x : Int32} {y : Int32} (hd : decode cc pc = .ok (.isub, 1)) (k : G (pc + 1) ls (.int (x - y) :: st) g) : G pc ls (.int y :: .int x :: st) g := h.2.2.2.2.2.2.2.2.2.2.2.2.2.2.2.2.2.2.1 pc ls st g x y hd k
theorem r_imul (h : gR own cc fr lo G) {pc : Nat} {ls st : List Value} {g : gG} {x : Int32} {y : Int32} (hd : decode cc pc = .ok (.imul, 1)) (k : G (pc + 1) ls (.int (x * y) :: st) g) : G pc ls (.int y :: .int x :: st) g := h.2.2.2.2.2.2.2.2.2.2.2.2.2.2.2.2.2.2.2.1 pc ls st g x y hd k
theorem r_iand (h : gR own cc fr lo G) {pc : Nat} {ls st : List Value} {g : gG} {x : Int32} {y : Int32} (hd : decode cc pc = .ok (.iand, 1)) (k : G (pc + 1) ls (.int (x &&& y) :: st) g) : G pc ls (.int y :: .int x :: st) g := h.2.2.2.2.2.2.2.2.2.2.2.2.2.2.2.2.2.2.2.2.1 pc ls st g x y hd k
theorem r_ior (h : gR own cc fr lo G) {pc : Nat} {ls st : List Value} {g : gG} {x : Int32} {y : Int32} (hd : decode cc pc = .ok (.ior, 1)) (k : G (pc + 1) ls (.int (x ||| y) :: st) g) : G pc ls (.int y :: .int x :: st) g := h.2.2.2.2.2.2.2.2.2.2.2.2.2.2.2.2.2.2.2.2.2.1 pc ls st g x y hd k
theorem r_ixor (h : gR own cc fr lo G) {pc : Nat} {ls st : List Value} {g : gG} {x : Int32} {y : Int32} (hd : decode cc pc = .ok (.ixor, 1)) (k : G (pc + 1) ls (.int (x ^^^ y) :: st) g) : G pc ls (.int y :: .int x :: st) g := h.2.2.2.2.2.2.2.2.2.2.2.2.2.2.2.2.2.2.2.2.2.2.1 pc ls st g x y hd k
theorem r_ishl (h : gR own cc fr lo G) {pc : Nat} {ls st : List Value} {g : gG} {x : Int32} {y : Int32} (hd : decode cc pc = .ok (.ishl, 1)) (k : G (pc + 1) ls (.int (x <<< (y &&& 31)) :: st) g) : G pc ls (.int y :: .int x :: st) g := h.2.2.2.2.2.2.2.2.2.2.2.2.2.2.2.2.2.2.2.2.2.2.2.1 pc ls st g x y hd k
theorem r_ishr (h : gR own cc fr lo G) {pc : Nat} {ls st : List Value} {g : gG} {x : Int32} {y : Int32} (hd : decode cc pc = .ok (.ishr, 1)) (k : G (pc + 1) ls (.int (x >>> (y &&& 31)) :: st) g) : G pc ls (.int y :: .int x :: st) g := h.2.2.2.2.2.2.2.2.2.2.2.2.2.2.2.2.2.2.2.2.2.2.2.2.1 pc ls st g x y hd k
theorem r_ineg (h : gR own cc fr lo G) {pc : Nat} {ls st : List Value} {g : gG} {x : Int32} (hd : decode cc pc = .ok (.ineg, 1)) (k : G (pc + 1) ls (.int (-x) :: st) g) : G pc ls (.int x :: st) g := h.2.2.2.2.2.2.2.2.2.2.2.2.2.2.2.2.2.2.2.2.2.2.2.2.2.1 pc ls st g x hd k
theorem r_idiv (h : gR own cc fr lo G) {pc : Nat} {ls st : List Value} {g : gG} {x : Int32} {y : Int32} (hd : decode cc pc = .ok (.idiv, 1)) (hy : ¬ y = 0) (k : G (pc + 1) ls (.int (x / y) :: st) g) : G pc ls (.int y :: .int x :: st) g := h.2.2.2.2.2.2.2.2.2.2.2.2.2.2.2.2.2.2.2.2.2.2.2.2.2.2.1 pc ls st g x y hd hy k
theorem r_irem (h : gR own cc fr lo G) {pc : Nat} {ls st : List Value} {g : gG} {x : Int32} {y : Int32} (hd : decode cc pc = .ok (.irem, 1)) (hy : ¬ y = 0) (k : G (pc + 1) ls (.int (x - x / y * y) :: st) g) : G pc ls (.int y :: .int x :: st) g := h.2.2.2.2.2.2.2.2.2.2.2.2.2.2.2.2.2.2.2.2.2.2.2.2.2.2.2.1 pc ls st g x y hd hy k
theorem r_ladd (h : gR own cc fr lo G) {pc : Nat} {ls st : List Value} {g : gG} {x : Int64} {y : Int64} (hd : decode cc pc = .ok (.ladd, 1)) (k : G (pc + 1) ls (.long (x + y) :: st) g) : G pc ls (.long y :: .long x :: st) g := h.2.2.2.2.2.2.2.2.2.2.2.2.2.2.2.2.2.2.2.2.2.2.2.2.2.2.2.2.1 pc ls st g x y hd k
theorem r_lsub (h : gR own cc fr lo G) {pc : Nat} {ls st : List Value} {g : gG} {x : Int64} {y : Int64} (hd : decode cc pc = .ok (.lsub, 1)) (k : G (pc + 1) ls (.long (x - y) :: st) g) : G pc ls (.long y :: .long x :: st) g := h.2.2.2.2.2.2.2.2.2.2.2.2.2.2.2.2.2.2.2.2.2.2.2.2.2.2.2.2.2.1 pc ls st g x y hd k
theorem r_lmul (h : gR own cc fr lo G) {pc : Nat} {ls st : List Value} {g : gG} {x : Int64} {y : Int64} (hd : decode cc pc = .ok (.lmul, 1)) (k : G (pc + 1) ls (.long (x * y) :: st) g) : G pc ls (.long y :: .long x :: st) g := h.2.2.2.2.2.2.2.2.2.2.2.2.2.2.2.2.2.2.2.2.2.2.2.2.2.2.2.2.2.2.1 pc ls st g x y hd k
theorem r_ldiv (h : gR own cc fr lo G) {pc : Nat} {ls st : List Value} {g : gG} {x : Int64} {y : Int64} (hd : decode cc pc = .ok (.ldiv, 1)) (hy : ¬ y = 0) (k : G (pc + 1) ls (.long (x / y) :: st) g) : G pc ls (.long y :: .long x :: st) g := h.2.2.2.2.2.2.2.2.2.2.2.2.2.2.2.2.2.2.2.2.2.2.2.2.2.2.2.2.2.2.2.1 pc ls st g x y hd hy k
theorem r_lrem (h : gR own cc fr lo G) {pc : Nat} {ls st : List Value} {g : gG} {x : Int64} {y : Int64} (hd : decode cc pc = .ok (.lrem, 1)) (hy : ¬ y = 0) (k : G (pc + 1) ls (.long (x - x / y * y) :: st) g) : G pc ls (.long y :: .long x :: st) g := h.2.2.2.2.2.2.2.2.2.2.2.2.2.2.2.2.2.2.2.2.2.2.2.2.2.2.2.2.2.2.2.2.1 pc ls st g x y hd hy k
theorem r_i2l (h : gR own cc fr lo G) {pc : Nat} {ls st : List Value} {g : gG} {x : Int32} (hd : decode cc pc = .ok (.i2l, 1)) (k : G (pc + 1) ls (.long x.toInt64 :: st) g) : G pc ls (.int x :: st) g := h.2.2.2.2.2.2.2.2.2.2.2.2.2.2.2.2.2.2.2.2.2.2.2.2.2.2.2.2.2.2.2.2.2.1 pc ls st g x hd k
theorem r_i2b (h : gR own cc fr lo G) {pc : Nat} {ls st : List Value} {g : gG} {x : Int32} (hd : decode cc pc = .ok (.i2b, 1)) (k : G (pc + 1) ls (.int x.toInt8.toInt32 :: st) g) : G pc ls (.int x :: st) g := h.2.2.2.2.2.2.2.2.2.2.2.2.2.2.2.2.2.2.2.2.2.2.2.2.2.2.2.2.2.2.2.2.2.2.1 pc ls st g x hd k
theorem r_iushr (h : gR own cc fr lo G) {pc : Nat} {ls st : List Value} {g : gG} {x : Int32} {y : Int32} (hd : decode cc pc = .ok (.iushr, 1)) (k : G (pc + 1) ls (.int (x.toUInt32 >>> (y.toUInt32 &&& Int32.toUInt32 31)).toInt32 :: st) g) : G pc ls (.int y :: .int x :: st) g := h.2.2.2.2.2.2.2.2.2.2.2.2.2.2.2.2.2.2.2.2.2.2.2.2.2.2.2.2.2.2.2.2.2.2.2.1 pc ls st g x y hd k
theorem r_i2c (h : gR own cc fr lo G) {pc : Nat} {ls st : List Value} {g : gG} {x : Int32} (hd : decode cc pc = .ok (.i2c, 1)) (k : G (pc + 1) ls (.int (x.toUInt32 % 65536).toInt32 :: st) g) : G pc ls (.int x :: st) g := h.2.2.2.2.2.2.2.2.2.2.2.2.2.2.2.2.2.2.2.2.2.2.2.2.2.2.2.2.2.2.2.2.2.2.2.2.1 pc ls st g x hd k
theorem r_lcmp (h : gR own cc fr lo G) {pc : Nat} {ls st : List Value} {g : gG} {x : Int64} {y : Int64} (hd : decode cc pc = .ok (.lcmp, 1)) (k : G (pc + 1) ls (.int (lg_cmp x y) :: st) g) : G pc ls (.long y :: .long x :: st) g := h.2.2.2.2.2.2.2.2.2.2.2.2.2.2.2.2.2.2.2.2.2.2.2.2.2.2.2.2.2.2.2.2.2.2.2.2.2.1 pc ls st g x y hd k
theorem r_dup (h : gR own cc fr lo G) {pc : Nat} {ls st : List Value} {g : gG} {v : Value} (hd : decode cc pc = .ok (.dup, 1)) (hv : v.category = 1) (k : G (pc + 1) ls (v :: v :: st) g) : G pc ls (v :: st) g := h.2.2.2.2.2.2.2.2.2.2.2.2.2.2.2.2.2.2.2.2.2.2.2.2.2.2.2.2.2.2.2.2.2.2.2.2.2.2.1 pc ls st g v hd hv k
theorem r_pop (h : gR own cc fr lo G) {pc : Nat} {ls st : List Value} {g : gG} {v : Value} (hd : decode cc pc = .ok (.pop, 1)) (hv : v.category = 1) (k : G (pc + 1) ls (st) g) : G pc ls (v :: st) g := h.2.2.2.2.2.2.2.2.2.2.2.2.2.2.2.2.2.2.2.2.2.2.2.2.2.2.2.2.2.2.2.2.2.2.2.2.2.2.2.1 pc ls st g v hd hv k
theorem r_dup2 (h : gR own cc fr lo G) {pc : Nat} {ls st : List Value} {g : gG} {v : Value} {w : Value} (hd : decode cc pc = .ok (.dup2, 1)) (hv : v.category = 1) (hw : w.category = 1) (k : G (pc + 1) ls (v :: w :: v :: w :: st) g) : G pc ls (v :: w :: st) g := h.2.2.2.2.2.2.2.2.2.2.2.2.2.2.2.2.2.2.2.2.2.2.2.2.2.2.2.2.2.2.2.2.2.2.2.2.2.2.2.2.1 pc ls st g v w hd hv hw k
theorem r_if_eq (h : gR own cc fr lo G) {pc : Nat} {ls st : List Value} {g : gG} {x : Int32} {o : Int} {tgt : Nat} (hd : decode cc pc = .ok (.ifCond .eq o, 3)) (ht : (pc : Int) + o = (tgt : Int)) (kt : x = 0 → G tgt ls st g) (kf : ¬ x = 0 → G (pc + 3) ls st g) : G pc ls (.int x :: st) g := h.2.2.2.2.2.2.2.2.2.2.2.2.2.2.2.2.2.2.2.2.2.2.2.2.2.2.2.2.2.2.2.2.2.2.2.2.2.2.2.2.2.1 pc ls st g x o tgt hd ht kt kf
theorem r_if_ne (h : gR own cc fr lo G) {pc : Nat} {ls st : List Value} {g : gG} {x : Int32} {o : Int} {tgt : Nat} (hd : decode cc pc = .ok (.ifCond .ne o, 3)) (ht : (pc : Int) + o = (tgt : Int)) (kt : ¬ x = 0 → G tgt ls st g) (kf : x = 0 → G (pc + 3) ls st g) : G pc ls (.int x :: st) g := h.2.2.2.2.2.2.2.2.2.2.2.2.2.2.2.2.2.2.2.2.2.2.2.2.2.2.2.2.2.2.2.2.2.2.2.2.2.2.2.2.2.2.1 pc ls st g x o tgt hd ht kt kf
theorem r_if_lt (h : gR own cc fr lo G) {pc : Nat} {ls st : List Value} {g : gG} {x : Int32} {o : Int} {tgt : Nat} (hd : decode cc pc = .ok (.ifCond .lt o, 3)) (ht : (pc : Int) + o = (tgt : Int)) (kt : x < 0 → G tgt ls st g) (kf : ¬ x < 0 → G (pc + 3) ls st g) : G pc ls (.int x :: st) g := h.2.2.2.2.2.2.2.2.2.2.2.2.2.2.2.2.2.2.2.2.2.2.2.2.2.2.2.2.2.2.2.2.2.2.2.2.2.2.2.2.2.2.2.1 pc ls st g x o tgt hd ht kt kf
theorem r_if_ge (h : gR own cc fr lo G) {pc : Nat} {ls st : List Value} {g : gG} {x : Int32} {o : Int} {tgt : Nat} (hd : decode cc pc = .ok (.ifCond .ge o, 3)) (ht : (pc : Int) + o = (tgt : Int)) (kt : 0 ≤ x → G tgt ls st g) (kf : ¬ 0 ≤ x → G (pc + 3) ls st g) : G pc ls (.int x :: st) g := h.2.2.2.2.2.2.2.2.2.2.2.2.2.2.2.2.2.2.2.2.2.2.2.2.2.2.2.2.2.2.2.2.2.2.2.2.2.2.2.2.2.2.2.2.1 pc ls st g x o tgt hd ht kt kf
theorem r_if_gt (h : gR own cc fr lo G) {pc : Nat} {ls st : List Value} {g : gG} {x : Int32} {o : Int} {tgt : Nat} (hd : decode cc pc = .ok (.ifCond .gt o, 3)) (ht : (pc : Int) + o = (tgt : Int)) (kt : 0 < x → G tgt ls st g) (kf : ¬ 0 < x → G (pc + 3) ls st g) : G pc ls (.int x :: st) g := h.2.2.2.2.2.2.2.2.2.2.2.2.2.2.2.2.2.2.2.2.2.2.2.2.2.2.2.2.2.2.2.2.2.2.2.2.2.2.2.2.2.2.2.2.2.1 pc ls st g x o tgt hd ht kt kf
theorem r_if_le (h : gR own cc fr lo G) {pc : Nat} {ls st : List Value} {g : gG} {x : Int32} {o : Int} {tgt : Nat} (hd : decode cc pc = .ok (.ifCond .le o, 3)) (ht : (pc : Int) + o = (tgt : Int)) (kt : x ≤ 0 → G tgt ls st g) (kf : ¬ x ≤ 0 → G (pc + 3) ls st g) : G pc ls (.int x :: st) g := h.2.2.2.2.2.2.2.2.2.2.2.2.2.2.2.2.2.2.2.2.2.2.2.2.2.2.2.2.2.2.2.2.2.2.2.2.2.2.2.2.2.2.2.2.2.2.1 pc ls st g x o tgt hd ht kt kf
theorem r_icmp_eq (h : gR own cc fr lo G) {pc : Nat} {ls st : List Value} {g : gG} {x : Int32} {y : Int32} {o : Int} {tgt : Nat} (hd : decode cc pc = .ok (.if_icmp .eq o, 3)) (ht : (pc : Int) + o = (tgt : Int)) (kt : x = y → G tgt ls st g) (kf : ¬ x = y → G (pc + 3) ls st g) : G pc ls (.int y :: .int x :: st) g := h.2.2.2.2.2.2.2.2.2.2.2.2.2.2.2.2.2.2.2.2.2.2.2.2.2.2.2.2.2.2.2.2.2.2.2.2.2.2.2.2.2.2.2.2.2.2.2.1 pc ls st g x y o tgt hd ht kt kf
theorem r_icmp_ne (h : gR own cc fr lo G) {pc : Nat} {ls st : List Value} {g : gG} {x : Int32} {y : Int32} {o : Int} {tgt : Nat} (hd : decode cc pc = .ok (.if_icmp .ne o, 3)) (ht : (pc : Int) + o = (tgt : Int)) (kt : ¬ x = y → G tgt ls st g) (kf : x = y → G (pc + 3) ls st g) : G pc ls (.int y :: .int x :: st) g := h.2.2.2.2.2.2.2.2.2.2.2.2.2.2.2.2.2.2.2.2.2.2.2.2.2.2.2.2.2.2.2.2.2.2.2.2.2.2.2.2.2.2.2.2.2.2.2.2.1 pc ls st g x y o tgt hd ht kt kf
theorem r_icmp_lt (h : gR own cc fr lo G) {pc : Nat} {ls st : List Value} {g : gG} {x : Int32} {y : Int32} {o : Int} {tgt : Nat} (hd : decode cc pc = .ok (.if_icmp .lt o, 3)) (ht : (pc : Int) + o = (tgt : Int)) (kt : x < y → G tgt ls st g) (kf : ¬ x < y → G (pc + 3) ls st g) : G pc ls (.int y :: .int x :: st) g := h.2.2.2.2.2.2.2.2.2.2.2.2.2.2.2.2.2.2.2.2.2.2.2.2.2.2.2.2.2.2.2.2.2.2.2.2.2.2.2.2.2.2.2.2.2.2.2.2.2.1 pc ls st g x y o tgt hd ht kt kf
theorem r_icmp_ge (h : gR own cc fr lo G) {pc : Nat} {ls st : List Value} {g : gG} {x : Int32} {y : Int32} {o : Int} {tgt : Nat} (hd : decode cc pc = .ok (.if_icmp .ge o, 3)) (ht : (pc : Int) + o = (tgt : Int)) (kt : y ≤ x → G tgt ls st g) (kf : ¬ y ≤ x → G (pc + 3) ls st g) : G pc ls (.int y :: .int x :: st) g := h.2.2.2.2.2.2.2.2.2.2.2.2.2.2.2.2.2.2.2.2.2.2.2.2.2.2.2.2.2.2.2.2.2.2.2.2.2.2.2.2.2.2.2.2.2.2.2.2.2.2.1 pc ls st g x y o tgt hd ht kt kf
theorem r_icmp_gt (h : gR own cc fr lo G) {pc : Nat} {ls st : List Value} {g : gG} {x : Int32} {y : Int32} {o : Int} {tgt : Nat} (hd : decode cc pc = .ok (.if_icmp .gt o, 3)) (ht : (pc : Int) + o = (tgt : Int)) (kt : y < x → G tgt ls st g) (kf : ¬ y < x → G (pc + 3) ls st g) : G pc ls (.int y :: .int x :: st) g := h.2.2.2.2.2.2.2.2.2.2.2.2.2.2.2.2.2.2.2.2.2.2.2.2.2.2.2.2.2.2.2.2.2.2.2.2.2.2.2.2.2.2.2.2.2.2.2.2.2.2.2.1 pc ls st g x y o tgt hd ht kt kf
theorem r_icmp_le (h : gR own cc fr lo G) {pc : Nat} {ls st : List Value} {g : gG} {x : Int32} {y : Int32} {o : Int} {tgt : Nat} (hd : decode cc pc = .ok (.if_icmp .le o, 3)) (ht : (pc : Int) + o = (tgt : Int)) (kt : x ≤ y → G tgt ls st g) (kf : ¬ x ≤ y → G (pc + 3) ls st g) : G pc ls (.int y :: .int x :: st) g := h.2.2.2.2.2.2.2.2.2.2.2.2.2.2.2.2.2.2.2.2.2.2.2.2.2.2.2.2.2.2.2.2.2.2.2.2.2.2.2.2.2.2.2.2.2.2.2.2.2.2.2.2.1 pc ls st g x y o tgt hd ht kt kf
theorem r_goto (h : gR own cc fr lo G) {pc : Nat} {ls st : List Value} {g : gG} {o : Int} {tgt : Nat} (hd : decode cc pc = .ok (.goto o, 3)) (ht : (pc : Int) + o = (tgt : Int)) (k : G tgt ls st g) : G pc ls (st) g := h.2.2.2.2.2.2.2.2.2.2.2.2.2.2.2.2.2.2.2.2.2.2.2.2.2.2.2.2.2.2.2.2.2.2.2.2.2.2.2.2.2.2.2.2.2.2.2.2.2.2.2.2.2.1 pc ls st g o tgt hd ht k
theorem r_tabOut (h : gR own cc fr lo G) {pc : Nat} {ls st : List Value} {g : gG} {d : Int} {lo_ : Int} {hi_ : Int} {offs : Array Int} {len : Nat} {x : Int32} {tgt : Nat} (hd : decode cc pc = .ok (.tableswitch d lo_ hi_ offs, len)) (hx : x.toInt < lo_ ∨ hi_ < x.toInt) (ht : (pc : Int) + d = (tgt : Int)) (k : G tgt ls st g) : G pc ls (.int x :: st) g := h.2.2.2.2.2.2.2.2.2.2.2.2.2.2.2.2.2.2.2.2.2.2.2.2.2.2.2.2.2.2.2.2.2.2.2.2.2.2.2.2.2.2.2.2.2.2.2.2.2.2.2.2.2.2.1 pc ls st g d lo_ hi_ offs len x tgt hd hx ht k
theorem r_tabIn (h : gR own cc fr lo G) {pc : Nat} {ls st : List Value} {g : gG} {d : Int} {lo_ : Int} {hi_ : Int} {offs : Array Int} {len : Nat} {x : Int32} {o : Int} {tgt : Nat} (hd : decode cc pc = .ok (.tableswitch d lo_ hi_ offs, len)) (h1 : ¬ x.toInt < lo_) (h2 : ¬ hi_ < x.toInt) (ho : offs[(x.toInt - lo_).toNat]? = some o) (ht : (pc : Int) + o = (tgt : Int)) (k : G tgt ls st g) : G pc ls (.int x :: st) g := h.2.2.2.2.2.2.2.2.2.2.2.2.2.2.2.2.2.2.2.2.2.2.2.2.2.2.2.2.2.2.2.2.2.2.2.2.2.2.2.2.2.2.2.2.2.2.2.2.2.2.2.2.2.2.2.1 pc ls st g d lo_ hi_ offs len x o tgt hd h1 h2 ho ht k
theorem r_lookup (h : gR own cc fr lo G) {pc : Nat} {ls st : List Value} {g : gG} {d : Int} {ps : Array (Int × Int)} {len : Nat} {x : Int32} {o : Int} {tgt : Nat} (hd : decode cc pc = .ok (.lookupswitch d ps, len)) (hp : (ps.toList.zip (ps.toList.drop 1)).all (fun (a, next) => a.1 < next.1) = true) (ho : Op.lookupswitch.offset ps.toList d x.toInt = o) (ht : (pc : Int) + o = (tgt : Int)) (k : G tgt ls st g) : G pc ls (.int x :: st) g := h.2.2.2.2.2.2.2.2.2.2.2.2.2.2.2.2.2.2.2.2.2.2.2.2.2.2.2.2.2.2.2.2.2.2.2.2.2.2.2.2.2.2.2.2.2.2.2.2.2.2.2.2.2.2.2.2.1 pc ls st g d ps len x o tgt hd hp ho ht k
theorem r_ldc (h : gR own cc fr lo G) {pc : Nat} {ls st : List Value} {g : gG} {idx : Nat} {v : Int32} (hd : decode cc pc = .ok (.ldc idx, 2)) (hc : Cond.constant own idx v ∈ gw) (k : G (pc + 2) ls (.int v :: st) g) : G pc ls (st) g := h.2.2.2.2.2.2.2.2.2.2.2.2.2.2.2.2.2.2.2.2.2.2.2.2.2.2.2.2.2.2.2.2.2.2.2.2.2.2.2.2.2.2.2.2.2.2.2.2.2.2.2.2.2.2.2.2.2.1 pc ls st g idx v hd hc k
theorem r_ldc_w (h : gR own cc fr lo G) {pc : Nat} {ls st : List Value} {g : gG} {idx : Nat} {v : Int32} (hd : decode cc pc = .ok (.ldc_w idx, 3)) (hc : Cond.constant own idx v ∈ gw) (k : G (pc + 3) ls (.int v :: st) g) : G pc ls (st) g := h.2.2.2.2.2.2.2.2.2.2.2.2.2.2.2.2.2.2.2.2.2.2.2.2.2.2.2.2.2.2.2.2.2.2.2.2.2.2.2.2.2.2.2.2.2.2.2.2.2.2.2.2.2.2.2.2.2.2.1 pc ls st g idx v hd hc k
theorem r_ldc2 (h : gR own cc fr lo G) {pc : Nat} {ls st : List Value} {g : gG} {idx : Nat} {v : Int64} (hd : decode cc pc = .ok (.ldc2_w idx, 3)) (hc : Cond.constantLong own idx v ∈ gw) (k : G (pc + 3) ls (.long v :: st) g) : G pc ls (st) g := h.2.2.2.2.2.2.2.2.2.2.2.2.2.2.2.2.2.2.2.2.2.2.2.2.2.2.2.2.2.2.2.2.2.2.2.2.2.2.2.2.2.2.2.2.2.2.2.2.2.2.2.2.2.2.2.2.2.2.2.1 pc ls st g idx v hd hc k
theorem r_ldcS (h : gR own cc fr lo G) {pc : Nat} {ls st : List Value} {g : gG} (hd : decode cc pc = .ok (.ldc 27, 2)) (ho : own = RX2) (k : G (pc + 2) ls (.ref 104 :: st) g) : G pc ls (st) g := h.2.2.2.2.2.2.2.2.2.2.2.2.2.2.2.2.2.2.2.2.2.2.2.2.2.2.2.2.2.2.2.2.2.2.2.2.2.2.2.2.2.2.2.2.2.2.2.2.2.2.2.2.2.2.2.2.2.2.2.2.1 pc ls st g  hd ho k
theorem r_getI (h : gR own cc fr lo G) {pc : Nat} {ls st : List Value} {g : gG} {idx : Nat} {ci : Nat} {j : Nat} {kk : Nat} {fl : List (Option Nat)} (hd : decode cc pc = .ok (.getfield idx, 3)) (hf : gfld own idx ci j) (hk : gshL[kk]? = some (.inl (ci, fl))) (hj : fl[j]? = some none) (k : G (pc + 3) ls (.int (g kk j) :: st) g) : G pc ls (.ref kk :: st) g := h.2.2.2.2.2.2.2.2.2.2.2.2.2.2.2.2.2.2.2.2.2.2.2.2.2.2.2.2.2.2.2.2.2.2.2.2.2.2.2.2.2.2.2.2.2.2.2.2.2.2.2.2.2.2.2.2.2.2.2.2.2.1 pc ls st g idx ci j kk fl hd hf hk hj k
theorem r_getR (h : gR own cc fr lo G) {pc : Nat} {ls st : List Value} {g : gG} {idx : Nat} {ci : Nat} {j : Nat} {kk : Nat} {fl : List (Option Nat)} {q : Nat} (hd : decode cc pc = .ok (.getfield idx, 3)) (hf : gfld own idx ci j) (hk : gshL[kk]? = some (.inl (ci, fl))) (hj : fl[j]? = some (some q)) (k : G (pc + 3) ls (.ref q :: st) g) : G pc ls (.ref kk :: st) g := h.2.2.2.2.2.2.2.2.2.2.2.2.2.2.2.2.2.2.2.2.2.2.2.2.2.2.2.2.2.2.2.2.2.2.2.2.2.2.2.2.2.2.2.2.2.2.2.2.2.2.2.2.2.2.2.2.2.2.2.2.2.2.1 pc ls st g idx ci j kk fl q hd hf hk hj k
theorem r_putI (h : gR own cc fr lo G) {pc : Nat} {ls st : List Value} {g : gG} {idx : Nat} {ci : Nat} {j : Nat} {kk : Nat} {fl : List (Option Nat)} {x : Int32} {ty : FieldType} (hd : decode cc pc = .ok (.putfield idx, 3)) (hf : gfldW own idx ci j ty) (hk : gshL[kk]? = some (.inl (ci, fl))) (hj : fl[j]? = some none) (hn : narrow ty (.int x) = .int x) (hfit : fits ty (.int x) = true) (k : G (pc + 3) ls st (gup g kk j x)) : G pc ls (.int x :: .ref kk :: st) g := h.2.2.2.2.2.2.2.2.2.2.2.2.2.2.2.2.2.2.2.2.2.2.2.2.2.2.2.2.2.2.2.2.2.2.2.2.2.2.2.2.2.2.2.2.2.2.2.2.2.2.2.2.2.2.2.2.2.2.2.2.2.2.2.1 pc ls st g idx ci j kk fl x ty hd hf hk hj hn hfit k
theorem r_iaload (h : gR own cc fr lo G) {pc : Nat} {ls st : List Value} {g : gG} {kk : Nat} {n : Nat} {i : Int32} (hd : decode cc pc = .ok (.iaload, 1)) (hk : gshL[kk]? = some (.inr (0, n))) (hi : vp_in i n) (k : G (pc + 1) ls (.int (g kk i.toNatClampNeg) :: st) g) : G pc ls (.int i :: .ref kk :: st) g := h.2.2.2.2.2.2.2.2.2.2.2.2.2.2.2.2.2.2.2.2.2.2.2.2.2.2.2.2.2.2.2.2.2.2.2.2.2.2.2.2.2.2.2.2.2.2.2.2.2.2.2.2.2.2.2.2.2.2.2.2.2.2.2.2.1 pc ls st g kk n i hd hk hi k
theorem r_caload (h : gR own cc fr lo G) {pc : Nat} {ls st : List Value} {g : gG} {kk : Nat} {n : Nat} {i : Int32} (hd : decode cc pc = .ok (.caload, 1)) (hk : gshL[kk]? = some (.inr (1, n))) (hi : vp_in i n) (k : G (pc + 1) ls (.int (g kk i.toNatClampNeg) :: st) g) : G pc ls (.int i :: .ref kk :: st) g := h.2.2.2.2.2.2.2.2.2.2.2.2.2.2.2.2.2.2.2.2.2.2.2.2.2.2.2.2.2.2.2.2.2.2.2.2.2.2.2.2.2.2.2.2.2.2.2.2.2.2.2.2.2.2.2.2.2.2.2.2.2.2.2.2.2.1 pc ls st g kk n i hd hk hi k
theorem r_iastore (h : gR own cc fr lo G) {pc : Nat} {ls st : List Value} {g : gG} {kk : Nat} {n : Nat} {i : Int32} {x : Int32} (hd : decode cc pc = .ok (.iastore, 1)) (hk : gshL[kk]? = some (.inr (0, n))) (hi : vp_in i n) (k : G (pc + 1) ls st (gup g kk i.toNatClampNeg x)) : G pc ls (.int x :: .int i :: .ref kk :: st) g := h.2.2.2.2.2.2.2.2.2.2.2.2.2.2.2.2.2.2.2.2.2.2.2.2.2.2.2.2.2.2.2.2.2.2.2.2.2.2.2.2.2.2.2.2.2.2.2.2.2.2.2.2.2.2.2.2.2.2.2.2.2.2.2.2.2.2.1 pc ls st g kk n i x hd hk hi k
theorem r_castore (h : gR own cc fr lo G) {pc : Nat} {ls st : List Value} {g : gG} {kk : Nat} {n : Nat} {i : Int32} {x : Int32} (hd : decode cc pc = .ok (.castore, 1)) (hk : gshL[kk]? = some (.inr (1, n))) (hi : vp_in i n) (k : G (pc + 1) ls st (gup g kk i.toNatClampNeg (vp_nar .char x))) : G pc ls (.int x :: .int i :: .ref kk :: st) g := h.2.2.2.2.2.2.2.2.2.2.2.2.2.2.2.2.2.2.2.2.2.2.2.2.2.2.2.2.2.2.2.2.2.2.2.2.2.2.2.2.2.2.2.2.2.2.2.2.2.2.2.2.2.2.2.2.2.2.2.2.2.2.2.2.2.2.2.1 pc ls st g kk n i x hd hk hi k
theorem r_aaload (h : gR own cc fr lo G) {pc : Nat} {ls st : List Value} {g : gG} {kk : Nat} {n : Nat} {i : Int32} (hd : decode cc pc = .ok (.aaload, 1)) (hk : gshL[kk]? = some (.inr (2, n))) (hi : vp_in i n) (k : G (pc + 1) ls (.ref (kk + 1 + i.toNatClampNeg) :: st) g) : G pc ls (.int i :: .ref kk :: st) g := h.2.2.2.2.2.2.2.2.2.2.2.2.2.2.2.2.2.2.2.2.2.2.2.2.2.2.2.2.2.2.2.2.2.2.2.2.2.2.2.2.2.2.2.2.2.2.2.2.2.2.2.2.2.2.2.2.2.2.2.2.2.2.2.2.2.2.2.2.1 pc ls st g kk n i hd hk hi k
theorem r_alen (h : gR own cc fr lo G) {pc : Nat} {ls st : List Value} {g : gG} {kk : Nat} {t : Nat} {n : Nat} (hd : decode cc pc = .ok (.arraylength, 1)) (hk : gshL[kk]? = some (.inr (t, n))) (ht : t < 3) (hn : n < 2147483648) (k : G (pc + 1) ls (.int (nI n) :: st) g) : G pc ls (.ref kk :: st) g := h.2.2.2.2.2.2.2.2.2.2.2.2.2.2.2.2.2.2.2.2.2.2.2.2.2.2.2.2.2.2.2.2.2.2.2.2.2.2.2.2.2.2.2.2.2.2.2.2.2.2.2.2.2.2.2.2.2.2.2.2.2.2.2.2.2.2.2.2.2.1 pc ls st g kk t n hd hk ht hn k
theorem r_gets (h : gR own cc fr lo G) {pc : Nat} {ls st : List Value} {g : gG} {idx : Nat} {q : Nat} (hd : decode cc pc = .ok (.getstatic idx, 3)) (hq : 100 ≤ q ∧ q < 104) (hf : (own = RX0 ∧ idx = gnx q) ∨ Cond.fieldLink own idx "ArmourOfTheShy" (gsn q) "[I" ∈ gw) (k : G (pc + 3) ls (.ref q :: st) g) : G pc ls (st) g := h.2.2.2.2.2.2.2.2.2.2.2.2.2.2.2.2.2.2.2.2.2.2.2.2.2.2.2.2.2.2.2.2.2.2.2.2.2.2.2.2.2.2.2.2.2.2.2.2.2.2.2.2.2.2.2.2.2.2.2.2.2.2.2.2.2.2.2.2.2.2.1 pc ls st g idx q hd hq hf k
theorem r_getsC (h : gR own cc fr lo G) {pc : Nat} {ls st : List Value} {g : gG} {idx : Nat} (hd : decode cc pc = .ok (.getstatic idx, 3)) (hf : Cond.fieldLink own idx "java/lang/String" "COMPACT_STRINGS" "Z" ∈ gw) (k : G (pc + 3) ls (.int 1 :: st) g) : G pc ls (st) g := h.2.2.2.2.2.2.2.2.2.2.2.2.2.2.2.2.2.2.2.2.2.2.2.2.2.2.2.2.2.2.2.2.2.2.2.2.2.2.2.2.2.2.2.2.2.2.2.2.2.2.2.2.2.2.2.2.2.2.2.2.2.2.2.2.2.2.2.2.2.2.2.1 pc ls st g idx hd hf k
theorem r_tabld (h : gR own cc fr lo G) {pc : Nat} {ls st : List Value} {g : gG} {q : Nat} {i : Int32} (hd : decode cc pc = .ok (.iaload, 1)) (hq : 100 ≤ q ∧ q < 104) (hi : vp_in i 6) (k : G (pc + 1) ls (.int (gtab q i.toNatClampNeg) :: st) g) : G pc ls (.int i :: .ref q :: st) g := h.2.2.2.2.2.2.2.2.2.2.2.2.2.2.2.2.2.2.2.2.2.2.2.2.2.2.2.2.2.2.2.2.2.2.2.2.2.2.2.2.2.2.2.2.2.2.2.2.2.2.2.2.2.2.2.2.2.2.2.2.2.2.2.2.2.2.2.2.2.2.2.2.1 pc ls st g q i hd hq hi k
theorem r_strld (h : gR own cc fr lo G) {pc : Nat} {ls st : List Value} {g : gG} {i : Int32} (hd : decode cc pc = .ok (.baload, 1)) (hi : vp_in i 6) (k : G (pc + 1) ls (.int (gtab 105 i.toNatClampNeg) :: st) g) : G pc ls (.int i :: .ref 105 :: st) g := h.2.2.2.2.2.2.2.2.2.2.2.2.2.2.2.2.2.2.2.2.2.2.2.2.2.2.2.2.2.2.2.2.2.2.2.2.2.2.2.2.2.2.2.2.2.2.2.2.2.2.2.2.2.2.2.2.2.2.2.2.2.2.2.2.2.2.2.2.2.2.2.2.2.1 pc ls st g i hd hi k
theorem r_strlen (h : gR own cc fr lo G) {pc : Nat} {ls st : List Value} {g : gG} (hd : decode cc pc = .ok (.arraylength, 1)) (k : G (pc + 1) ls (.int 6 :: st) g) : G pc ls (.ref 105 :: st) g := h.2.2.2.2.2.2.2.2.2.2.2.2.2.2.2.2.2.2.2.2.2.2.2.2.2.2.2.2.2.2.2.2.2.2.2.2.2.2.2.2.2.2.2.2.2.2.2.2.2.2.2.2.2.2.2.2.2.2.2.2.2.2.2.2.2.2.2.2.2.2.2.2.2.2.1 pc ls st g  hd k
theorem r_strV (h : gR own cc fr lo G) {pc : Nat} {ls st : List Value} {g : gG} {idx : Nat} (hd : decode cc pc = .ok (.getfield idx, 3)) (hf : Cond.fieldLink own idx "java/lang/String" "value" "[B" ∈ gw) (k : G (pc + 3) ls (.ref 105 :: st) g) : G pc ls (.ref 104 :: st) g := h.2.2.2.2.2.2.2.2.2.2.2.2.2.2.2.2.2.2.2.2.2.2.2.2.2.2.2.2.2.2.2.2.2.2.2.2.2.2.2.2.2.2.2.2.2.2.2.2.2.2.2.2.2.2.2.2.2.2.2.2.2.2.2.2.2.2.2.2.2.2.2.2.2.2.2.1 pc ls st g idx hd hf k
theorem r_strC (h : gR own cc fr lo G) {pc : Nat} {ls st : List Value} {g : gG} {idx : Nat} (hd : decode cc pc = .ok (.getfield idx, 3)) (hf : Cond.fieldLink own idx "java/lang/String" "coder" "B" ∈ gw) (k : G (pc + 3) ls (.int 0 :: st) g) : G pc ls (.ref 104 :: st) g := h.2.2.2.2.2.2.2.2.2.2.2.2.2.2.2.2.2.2.2.2.2.2.2.2.2.2.2.2.2.2.2.2.2.2.2.2.2.2.2.2.2.2.2.2.2.2.2.2.2.2.2.2.2.2.2.2.2.2.2.2.2.2.2.2.2.2.2.2.2.2.2.2.2.2.2.2.1 pc ls st g idx hd hf k
theorem r_mmax (h : gR own cc fr lo G) {pc : Nat} {ls st : List Value} {g : gG} {idx : Nat} {x : Int32} {y : Int32} (hd : decode cc pc = .ok (.invokestatic idx, 3)) (hf : gmath own idx Lib.Math.max.name Lib.Math.max.code) (hr : 1 ≤ fr ∧ (st.map fun v => v.category).sum + 13 ≤ lo) (k : G (pc + 3) ls (.int (if x < y then y else x) :: st) g) : G pc ls (.int y :: .int x :: st) g := h.2.2.2.2.2.2.2.2.2.2.2.2.2.2.2.2.2.2.2.2.2.2.2.2.2.2.2.2.2.2.2.2.2.2.2.2.2.2.2.2.2.2.2.2.2.2.2.2.2.2.2.2.2.2.2.2.2.2.2.2.2.2.2.2.2.2.2.2.2.2.2.2.2.2.2.2.2.1 pc ls st g idx x y hd hf hr k
theorem r_mmin (h : gR own cc fr lo G) {pc : Nat} {ls st : List Value} {g : gG} {idx : Nat} {x : Int32} {y : Int32} (hd : decode cc pc = .ok (.invokestatic idx, 3)) (hf : gmath own idx Lib.Math.min.name Lib.Math.min.code) (hr : 1 ≤ fr ∧ (st.map fun v => v.category).sum + 13 ≤ lo) (k : G (pc + 3) ls (.int (if y < x then y else x) :: st) g) : G pc ls (.int y :: .int x :: st) g := h.2.2.2.2.2.2.2.2.2.2.2.2.2.2.2.2.2.2.2.2.2.2.2.2.2.2.2.2.2.2.2.2.2.2.2.2.2.2.2.2.2.2.2.2.2.2.2.2.2.2.2.2.2.2.2.2.2.2.2.2.2.2.2.2.2.2.2.2.2.2.2.2.2.2.2.2.2.2.1 pc ls st g idx x y hd hf hr k
theorem r_acopy (h : gR own cc fr lo G) {pc : Nat} {ls st : List Value} {g : gG} {idx : Nat} {k0 : Nat} {k1 : Nat} {n0 : Nat} {n1 : Nat} {n : Int32} (hd : decode cc pc = .ok (.invokestatic idx, 3)) (hf : Cond.methodLink own idx arraycopyName ∈ gw) (hk0 : gshL[k0]? = some (.inr (0, n0))) (hk1 : gshL[k1]? = some (.inr (0, n1))) (hn : ¬ n < 0 ∧ n.toNatClampNeg ≤ n0 ∧ n.toNatClampNeg ≤ n1) (hr : 1 ≤ fr ∧ (st.map fun v => v.category).sum + 18 ≤ lo) (k : G (pc + 3) ls st (gcp g k0 k1 n.toNatClampNeg)) : G pc ls (.int n :: .int 0 :: .ref k1 :: .int 0 :: .ref k0 :: st) g := h.2.2.2.2.2.2.2.2.2.2.2.2.2.2.2.2.2.2.2.2.2.2.2.2.2.2.2.2.2.2.2.2.2.2.2.2.2.2.2.2.2.2.2.2.2.2.2.2.2.2.2.2.2.2.2.2.2.2.2.2.2.2.2.2.2.2.2.2.2.2.2.2.2.2.2.2.2.2.2.1 pc ls st g idx k0 k1 n0 n1 n hd hf hk0 hk1 hn hr k
theorem r_callV (h : gR own cc fr lo G) {pc : Nat} {ls st : List Value} {g : gG} {idx : Nat} {M : gM} {kk : Nat} {As : List Value} {st2 : List Value} {Qc : Option Value → gG → Prop} (hd : decode cc pc = .ok (.invokevirtual idx, 3)) (hM : gclV own idx M As.length) (hk : gcls kk M.1.cls) (hs : As.reverse ++ .ref kk :: st = st2) (hr : M.2.2.2.2.1 + 1 ≤ fr ∧ 8 + (M.2.2.1 + 11) + M.2.2.2.2.2 ≤ lo ∧ (st.map fun v => v.category).sum ≤ 8) (hc : gC M (.ref kk :: As) g Qc) (k : ∀ (r : Option Value) (g1 : gG), Qc r g1 → G (pc + 3) ls (r.toList ++ st) g1) : G pc ls (st2) g := h.2.2.2.2.2.2.2.2.2.2.2.2.2.2.2.2.2.2.2.2.2.2.2.2.2.2.2.2.2.2.2.2.2.2.2.2.2.2.2.2.2.2.2.2.2.2.2.2.2.2.2.2.2.2.2.2.2.2.2.2.2.2.2.2.2.2.2.2.2.2.2.2.2.2.2.2.2.2.2.2.1 pc ls st g idx M kk As st2 Qc hd hM hk hs hr hc k
theorem r_callS (h : gR own cc fr lo G) {pc : Nat} {ls st : List Value} {g : gG} {idx : Nat} {M : gM} {As : List Value} {st2 : List Value} {Qc : Option Value → gG → Prop} (hd : decode cc pc = .ok (.invokestatic idx, 3)) (hM : gclS own idx M As.length) (hs : As.reverse ++ st = st2) (hr : M.2.2.2.2.1 + 1 ≤ fr ∧ 8 + (M.2.2.1 + 11) + M.2.2.2.2.2 ≤ lo ∧ (st.map fun v => v.category).sum ≤ 8) (hc : gC M As g Qc) (k : ∀ (r : Option Value) (g1 : gG), Qc r g1 → G (pc + 3) ls (r.toList ++ st) g1) : G pc ls (st2) g := h.2.2.2.2.2.2.2.2.2.2.2.2.2.2.2.2.2.2.2.2.2.2.2.2.2.2.2.2.2.2.2.2.2.2.2.2.2.2.2.2.2.2.2.2.2.2.2.2.2.2.2.2.2.2.2.2.2.2.2.2.2.2.2.2.2.2.2.2.2.2.2.2.2.2.2.2.2.2.2.2.2 pc ls st g idx M As st2 Qc hd hM hs hr hc k
end GU
theorem gup_ne {g : gG} {k j a : Nat} {x : Int32} (h : a ≠ k) : gup g k j x a = g a := by
  funext b
  unfold gup
  rw [if_neg (fun q => h q.1)]
theorem gup_row (g : gG) (k j : Nat) (x : Int32) : gup g k j x k = upd (g k) j x := by
  funext b
  unfold gup upd
  by_cases h : b = j <;> simp [h]
theorem gce_upd {ad : Nat → Nat} {cA : Nat → ClassId} {g : gG} {k n j : Nat} {x : Int32} (t : Nat) (ht : t ≠ 2) : gce ad cA (gup g k j x) k (.inr (t, n)) = .inl (cA t, n, .inl (upd (g k) j x)) := by
  unfold gce
  dsimp only
  rw [if_neg ht, gup_row]
/-- the rows of vwCl's fields are among the words -/
theorem gin {ci : Nat} {r : vw_C} (h : vwCl[ci]? = some r) : ∀ w ∈ u_ws r.1 r.2.1 r.2.2, w ∈ gw := by
  match ci, h with
  | 0, h => cases h; exact gin0
  | 1, h => cases h; exact gin1
  | 2, h => cases h; exact gin2
  | 3, h => cases h; exact gin3
  | 4, h => cases h; exact gin4
  | k + 5, h => simp [vwCl] at h
def gcx (own : String) (cc : ByteArray) (n : Nat) (p : Program) (s : State) (m : MethodId) (args : Array Value) (c : Code) (D : va_G) (cA : Nat → ClassId) (ad : Nat → Nat) : Prop :=
  p.tables.exec = Jvm.exec ∧ c.code = cc ∧ c.maxLocals = n ∧ s.vm.findClass own = some m.cls ∧ (∀ w ∈ gw, w.before args s = true) ∧ va_K D vwCl (gtys cA) s ∧ ginj ad ∧ gRO ad s s.heap
def gvw (n : Nat) (p : Program) (l : Launch) (e : Env) (R : Room) (s : State) (m : MethodId) (args : Array Value) (below : List Frame) (meth : Method) (c : Code) (D : va_G) (cA : Nat → ClassId) (ad : Nat → Nat) (cells slots : Nat) (Qf : State → Prop) : gJ := fun pc ls st g => ∀ (H : Heap) (locs : List Loc) (la : Array Slot), va_P D vwCl (gws ad cA g) H → va_S (gA ad) s.heap H locs → glo ad n ls la → W p l e R s m args below meth c H locs cells slots Qf (F0 m pc la (st.map (gtv ad)))
section GV1
variable {p : Program} {l : Launch} {e : Env} {R : Room} {s : State} {m : MethodId} {args : Array Value} {below : List Frame} {meth : Method} {c : Code} {D : va_G} {cA : Nat → ClassId} {ad : Nat → Nat} {cells slots nL : Nat} {Qf : State → Prop} {own : String} {cc : ByteArray} {fr lo : Nat} {H : Heap} {locs : List Loc} {la : Array Slot} {pc : Nat} {st : List Value} {g : gG}
theorem s_get (h : gcx own cc nL p s m args c D cA ad) {idx ci j kk : Nat} {fl : List (Option Nat)} {o : Option Nat} {v : Value} (hd : decode cc pc = .ok (.getfield idx, 3)) (hf : gfld own idx ci j) (hk : gshL[kk]? = some (.inl (ci, fl))) (hj : fl[j]? = some o) (hv : gfo ad g kk j o = v) (hP : va_P D vwCl (gws ad cA g) H)
    (k : W p l e R s m args below meth c H locs cells slots Qf (F0 m (pc + 3) la (v :: st.map (gtv ad)))) : W p l e R s m args below meth c H locs cells slots Qf (F0 m pc la (.ref (ad kk) :: st.map (gtv ad))) := by
  obtain ⟨⟨C, T, N⟩, h1, h2, h3⟩ := hf
  refine va_get h.1 h.2.1 h.2.2.2.2.1 (gin h1) h.2.2.2.1 h.2.2.2.2.2.1 hP kk (gws_at hk) h1 j h2 (h.2.2.2.2.1 _ h3) (fun _ q => q) ?_ hd k
  rw [List.getElem?_mapIdx, hj, ← hv]
  rfl
theorem s_put (h : gcx own cc nL p s m args c D cA ad) {idx ci j kk : Nat} {fl : List (Option Nat)} {x : Int32} {ty : FieldType} (hd : decode cc pc = .ok (.putfield idx, 3)) (hf : gfldW own idx ci j ty) (hk : gshL[kk]? = some (.inl (ci, fl))) (hj : fl[j]? = some none) (hn : narrow ty (.int x) = .int x) (hfit : fits ty (.int x) = true) (hP : va_P D vwCl (gws ad cA g) H) (hS : va_S (gA ad) s.heap H locs)
    (k : ∀ (H1 : Heap) (locs1 : List Loc), va_P D vwCl (gws ad cA (gup g kk j x)) H1 → va_S (gA ad) s.heap H1 locs1 → W p l e R s m args below meth c H1 locs1 cells slots Qf (F0 m (pc + 3) la (st.map (gtv ad)))) : W p l e R s m args below meth c H locs cells slots Qf (F0 m pc la (.int x :: .ref (ad kk) :: st.map (gtv ad))) := by
  obtain ⟨⟨C, T, N⟩, h1, h2, h3, h4, h5⟩ := hf
  have hty : ∃ ty0 : Nat → FieldType, (∀ k, k < N → parseFieldDescriptor (T k).2.2.1 = some (ty0 k)) ∧ ∀ a, a < N → ∀ b, b < N → a ≠ b → (T a).2.1 ≠ (T b).2.1 := gtyok h1
  obtain ⟨ty0, t1, t2⟩ := hty
  refine va_put h.1 h.2.1 h.2.2.2.2.1 (gin h1) ty0 t1 t2 h.2.2.2.1 h.2.2.2.2.2.1 hP (gD h.2.2.2.2.2.2.1) hS kk (gws_at hk) h1 j h2 (h.2.2.2.2.1 _ h3) (fun _ q => q) h4 h5 hn hfit ?_ hd (fun H1 locs1 hP1 _ hS1 => k H1 locs1 ?_ hS1)
  · rw [List.length_mapIdx]
    exact (List.getElem?_eq_some_iff.mp hj).1
  · rw [gws_set (g' := gup g kk j x) hk ?_ (fun a ha => gup_ne ha)] at hP1
    · exact hP1
    · unfold gce
      dsimp only
      congr 2
      apply List.ext_getElem?
      intro i
      rw [List.getElem?_set, List.getElem?_mapIdx, List.getElem?_mapIdx, List.length_mapIdx]
      by_cases hi : j = i
      · subst hi
        rw [if_pos rfl, if_pos (List.getElem?_eq_some_iff.mp hj).1, hj]
        simp [gfo, gup]
      · rw [if_neg hi]
        cases fl[i]? with
        | none => rfl
        | some o => cases o <;> simp [gfo, gup, Ne.symm hi]
theorem s_aald (h : gcx own cc nL p s m args c D cA ad) {kk n : Nat} {i : Int32} (hd : decode cc pc = .ok (.aaload, 1)) (hk : gshL[kk]? = some (.inr (2, n))) (hi : vp_in i n) (hP : va_P D vwCl (gws ad cA g) H)
    (k : W p l e R s m args below meth c H locs cells slots Qf (F0 m (pc + 1) la (.ref (ad (kk + 1 + i.toNatClampNeg)) :: st.map (gtv ad)))) : W p l e R s m args below meth c H locs cells slots Qf (F0 m pc la (.int i :: .ref (ad kk) :: st.map (gtv ad))) := by
  have hlt : i.toNatClampNeg < n := Nat.not_le.mp fun q => hi (Or.inr q)
  have hc : H[ad kk]? = some (arrV (cA 2) n (fun j => va_rf (if j < n then some (ad (kk + 1 + j)) else none))) := hP kk _ (gws_at hk)
  refine W.aald (v := .ref (ad (kk + 1 + i.toNatClampNeg))) (ty := .array .int) h.1 h.2.1 hc ((h.2.2.2.2.2.1.2 2 _ rfl).1 n _) rfl (fun q => by cases q) (by rw [arrV_size]; exact hi) ?_ rfl rfl hd k
  rw [arrV_read _ _ hlt, if_pos hlt]
  rfl
theorem s_alen (h : gcx own cc nL p s m args c D cA ad) {kk t n : Nat} (hd : decode cc pc = .ok (.arraylength, 1)) (hk : gshL[kk]? = some (.inr (t, n))) (ht : t < 3) (hn : n < 2147483648) (hP : va_P D vwCl (gws ad cA g) H)
    (k : W p l e R s m args below meth c H locs cells slots Qf (F0 m (pc + 1) la (.int (nI n) :: st.map (gtv ad)))) : W p l e R s m args below meth c H locs cells slots Qf (F0 m pc la (.ref (ad kk) :: st.map (gtv ad))) := by
  match t, ht, hk with
  | 0, _, hk => exact va_alen h.1 h.2.1 h.2.2.2.2.2.1 hP kk 0 (gws_at hk) rfl rfl hd k
  | 1, _, hk => exact va_alen h.1 h.2.1 h.2.2.2.2.2.1 hP kk 1 (gws_at hk) rfl rfl hd k
  | 2, _, hk => exact va_alen h.1 h.2.1 h.2.2.2.2.2.1 hP kk 2 (gws_at hk) rfl rfl hd k
theorem s_gets (h : gcx own cc nL p s m args c D cA ad) {idx q : Nat} (hd : decode cc pc = .ok (.getstatic idx, 3)) (hq : 100 ≤ q ∧ q < 104) (hf : (own = RX0 ∧ idx = gnx q) ∨ Cond.fieldLink own idx "ArmourOfTheShy" (gsn q) "[I" ∈ gw) (hS : va_S (gA ad) s.heap H locs)
    (k : W p l e R s m args below meth c H locs cells slots Qf (F0 m (pc + 3) la (.ref (ad q) :: st.map (gtv ad)))) : W p l e R s m args below meth c H locs cells slots Qf (F0 m pc la (st.map (gtv ad))) := by
  obtain ⟨hZ, -, hN⟩ := h.2.2.2.2.2.2.2.1 q hq.1 hq.2
  rcases hf with ⟨rfl, rfl⟩ | hf
  · exact va_getsN h.1 h.2.1 hZ hS h.2.2.2.1 (va_Nw.use rfl hN) (fun _ q => q) hd k
  · exact va_gets h.1 h.2.1 hZ hS h.2.2.2.1 (h.2.2.2.2.1 _ hf) (fun _ q => q) hd k
theorem s_tabld (h : gcx own cc nL p s m args c D cA ad) {q : Nat} {i : Int32} (hd : decode cc pc = .ok (.iaload, 1)) (hq : 100 ≤ q ∧ q < 104) (hi : vp_in i 6) (hS : va_S (gA ad) s.heap H locs)
    (k : W p l e R s m args below meth c H locs cells slots Qf (F0 m (pc + 1) la (.int (gtab q i.toNatClampNeg) :: st.map (gtv ad)))) : W p l e R s m args below meth c H locs cells slots Qf (F0 m pc la (.int i :: .ref (ad q) :: st.map (gtv ad))) := by
  obtain ⟨-, hT, -⟩ := h.2.2.2.2.2.2.2.1 q hq.1 hq.2
  obtain ⟨cell, h1, h2, h3, h4, h5, h6, h7⟩ := hT.kept hS.2.1
  have hlt : i.toNatClampNeg < 6 := Nat.not_le.mp fun q => hi (Or.inr q)
  exact W.iald (v := .int (gtab q i.toNatClampNeg)) h.1 h.2.1 h1 h2 h3 (fun z => z.elim (fun a => hi (Or.inl a)) (fun a => absurd (Nat.le_trans h4 a) (by omega))) (h6 _ hlt) rfl rfl hd k
theorem s_strld (h : gcx own cc nL p s m args c D cA ad) {i : Int32} (hd : decode cc pc = .ok (.baload, 1)) (hi : vp_in i 6) (hS : va_S (gA ad) s.heap H locs)
    (k : W p l e R s m args below meth c H locs cells slots Qf (F0 m (pc + 1) la (.int (gtab 105 i.toNatClampNeg) :: st.map (gtv ad)))) : W p l e R s m args below meth c H locs cells slots Qf (F0 m pc la (.int i :: .ref (ad 105) :: st.map (gtv ad))) := by
  obtain ⟨cell, h1, h2, h3, h4, h5, h6, h7⟩ := h.2.2.2.2.2.2.2.2.2.2.2.2.1.kept hS.2.1
  have hlt : i.toNatClampNeg < 6 := Nat.not_le.mp fun q => hi (Or.inr q)
  exact W.bald (v := .int (gtab 105 i.toNatClampNeg)) h.1 h.2.1 h1 h2 h3 (fun z => z.elim (fun a => hi (Or.inl a)) (fun a => absurd (Nat.le_trans h4 a) (by omega))) (h6 _ hlt) rfl rfl hd k
theorem s_strlen (h : gcx own cc nL p s m args c D cA ad) (hd : decode cc pc = .ok (.arraylength, 1)) (hS : va_S (gA ad) s.heap H locs)
    (k : W p l e R s m args below meth c H locs cells slots Qf (F0 m (pc + 1) la (.int 6 :: st.map (gtv ad)))) : W p l e R s m args below meth c H locs cells slots Qf (F0 m pc la (.ref (ad 105) :: st.map (gtv ad))) := by
  obtain ⟨cell, h1, h2, h3, h4, h5, h6, h7⟩ := h.2.2.2.2.2.2.2.2.2.2.2.2.1.kept hS.2.1
  exact W.alen (n := 6) h.1 h.2.1 h1 h2 h5 rfl rfl hd k
theorem s_acopy (h : gcx own cc nL p s m args c D cA ad) (hR : fr ≤ R.frames ∧ lo ≤ R.locals ∧ cells ≤ R.cells ∧ slots ≤ R.slots) {idx k0 k1 n0 n1 : Nat} {n : Int32} (hd : decode cc pc = .ok (.invokestatic idx, 3)) (hf : Cond.methodLink own idx arraycopyName ∈ gw) (hk0 : gshL[k0]? = some (.inr (0, n0))) (hk1 : gshL[k1]? = some (.inr (0, n1))) (hn : ¬ n < 0 ∧ n.toNatClampNeg ≤ n0 ∧ n.toNatClampNeg ≤ n1) (hr : 1 ≤ fr ∧ (st.map fun v => v.category).sum + 18 ≤ lo) (hl : la.size = nL) (hP : va_P D vwCl (gws ad cA g) H) (hS : va_S (gA ad) s.heap H locs)
    (k : ∀ (H1 : Heap) (locs1 : List Loc), va_P D vwCl (gws ad cA (gcp g k0 k1 n.toNatClampNeg)) H1 → va_S (gA ad) s.heap H1 locs1 → W p l e R s m args below meth c H1 locs1 cells slots Qf (F0 m (pc + 3) la (st.map (gtv ad)))) : W p l e R s m args below meth c H locs cells slots Qf (F0 m pc la (.int n :: .int 0 :: .ref (ad k1) :: .int 0 :: .ref (ad k0) :: st.map (gtv ad))) := by
  have z0 : (0 : Int32).toNatClampNeg = 0 := by decide
  refine va_copyi h.1 h.2.1 (by rw [h.2.2.1, hl]) h.2.2.2.1 (h.2.2.2.2.1 _ hf) (h.2.2.2.2.1 _ gw_acn) (h.2.2.2.2.1 _ gw_acs) (h.2.2.2.2.1 _ gw_sys) h.2.2.2.2.2.1 hP (gD h.2.2.2.2.2.2.1) hS k0 k1 0 0 (gws_at hk0) (gws_at hk1) rfl rfl rfl (by decide) (by decide) hn.1 (by rw [z0, Nat.zero_add]; exact hn.2.1) (by rw [z0, Nat.zero_add]; exact hn.2.2) (fun i _ => rfl) (Nat.le_trans hr.1 hR.1) ?_ hd (fun H1 locs1 hP1 _ hS1 => k H1 locs1 ?_ hS1)
  · rw [gtv_cats]
    exact Nat.le_trans hr.2 hR.2.1
  · rw [gws_set (g' := gcp g k0 k1 n.toNatClampNeg) hk1 ?_ (fun a ha => ?_)] at hP1
    · exact hP1
    · have e : gcp g k0 k1 n.toNatClampNeg k1 = va_cpy (g k0) (g k1) 0 0 n.toNatClampNeg := by
        funext b
        unfold gcp va_cpy
        simp
      rw [z0, ← e]
      rfl
    · funext b
      unfold gcp
      rw [if_neg (fun q => ha q.1)]
theorem gpre_to (h : gcx own cc nL p s m args c D cA ad) (hP : va_P D vwCl (gws ad cA g) H) (hS : va_S (gA ad) s.heap H locs) {U : State} (hU : U.heap = H) (hW : s.WarmedH U.vm) : gPre D cA ad g U := by
  refine ⟨by rw [hU]; exact hP, va_K.moved hW.alike h.2.2.2.2.2.1, h.2.2.2.2.2.2.1, ?_⟩
  rw [hU]
  exact (h.2.2.2.2.2.2.2.kept hS.2.1).warm hW
theorem gcl_B (h : gcx own cc nL p s m args c D cA ad) {idx n : Nat} {M : gM} (hM : gcl own idx M n) (hr : M.2.2.2.2.1 + 1 ≤ R.frames ∧ 8 + (M.2.2.1 + 11) + M.2.2.2.2.2 ≤ R.locals) : CallB R s args own idx M.1 M.2.1 M.2.2.1 M.2.2.2.1 (.code M.1 M.2.1 M.2.2.1 M.2.2.2.1 :: gw) (groom M.2.2.2.2.1 M.2.2.2.2.2) 0 0 n := by
  obtain ⟨h1, h2, h3, h4⟩ := hM
  refine callB_of n h.2.2.2.2.1 (fun w hw => ?_) rfl rfl rfl (h.2.2.2.2.1 _ h3) (h.2.2.2.2.1 _ h1) h4 hr
  rcases List.mem_cons.mp hw with rfl | hw
  · exact ⟨h2, gw_good h2⟩
  · exact ⟨hw, gw_good hw⟩
theorem s_run {y : JFrame} {rest : List Value} {Qa : State → Outcome → State → Prop} {Q : Option Value → gG → Prop} (hrun : va_Run p l e R s m args below meth c H locs cells slots 0 0 (F0 m pc la (rest)) (st.map (gtv ad)) Qa (gA ad)) (hQ : ∀ st0 o t, Qa st0 o t → gQc D cA ad Q #[] st0 o t) (hS : va_S (gA ad) s.heap H locs)
    (k : ∀ (r : Option Value) (g1 : gG), Q r g1 → ∀ (H1 : Heap) (locs1 : List Loc), va_P D vwCl (gws ad cA g1) H1 → va_S (gA ad) s.heap H1 locs1 → W p l e R s m args below meth c H1 locs1 cells slots Qf (F0 m (pc + 3) la ((r.toList ++ st).map (gtv ad)))) : W p l e R s m args below meth c H locs cells slots Qf (F0 m pc la rest) := by
  intro T hT X
  obtain ⟨v, st₀, t, T', L, h0, X', hL, e1, e2, hq, go⟩ := hrun T hT X
  obtain ⟨⟨r, g1, hr, hq1, hP1⟩, hF⟩ := hQ _ _ _ hq
  have hv : v = r.map (gtv ad) := by cases hr; rfl
  have hS1 : va_S (gA ad) s.heap t.heap (locs ++ L) := by
    refine ⟨Nat.le_trans hS.1 (by rw [← h0]; exact hF.1), fun q a b => ?_, fun q hq => ?_⟩
    · rw [hF.2 q (by rw [h0]; exact Nat.lt_of_lt_of_le a hS.1) b, h0]
      exact hS.2.1 q a b
    · rcases List.mem_append.mp hq with z | z
      · exact hS.2.2 q z
      · exact hL q z
  obtain ⟨t2, a1, b1⟩ := k r g1 hq1 t.heap (locs ++ L) hP1 hS1 T' e1 X'
  refine ⟨t2, go t2 ?_, b1⟩
  have e3 : v.toList ++ st.map (gtv ad) = (r.toList ++ st).map (gtv ad) := by
    rw [hv, List.map_append]
    cases r <;> rfl
  rw [e3]
  exact a1
theorem s_callV (h : gcx own cc nL p s m args c D cA ad) (hR : fr ≤ R.frames ∧ lo ≤ R.locals ∧ cells ≤ R.cells ∧ slots ≤ R.slots) {idx kk : Nat} {M : gM} {As : List Value} {Q : Option Value → gG → Prop} (hd : decode cc pc = .ok (.invokevirtual idx, 3)) (hM : gclV own idx M As.length) (hk : gcls kk M.1.cls) (hr : M.2.2.2.2.1 + 1 ≤ fr ∧ 8 + (M.2.2.1 + 11) + M.2.2.2.2.2 ≤ lo ∧ (st.map fun v => v.category).sum ≤ 8) (hc : gC M (.ref kk :: As) g Q) (hl : la.size = nL) (hP : va_P D vwCl (gws ad cA g) H) (hS : va_S (gA ad) s.heap H locs)
    (k : ∀ (r : Option Value) (g1 : gG), Q r g1 → ∀ (H1 : Heap) (locs1 : List Loc), va_P D vwCl (gws ad cA g1) H1 → va_S (gA ad) s.heap H1 locs1 → W p l e R s m args below meth c H1 locs1 cells slots Qf (F0 m (pc + 3) la ((r.toList ++ st).map (gtv ad)))) : W p l e R s m args below meth c H locs cells slots Qf (F0 m pc la ((As.reverse ++ .ref kk :: st).map (gtv ad))) := by
  have hrv : ∃ cellB : Cell, H[ad kk]? = some cellB ∧ cellB.vm.isStatics = false ∧ s.vm.findClass M.1.cls = some cellB.cls := by
    rcases hk with ⟨ci, fl, r, h1, h2, h3⟩ | ⟨rfl, h2⟩
    · obtain ⟨r', h1', cell, q1, q2, q3, q4⟩ := hP kk _ (gws_at h1)
      refine ⟨cell, q1, by rw [q3]; rfl, ?_⟩
      rw [q2, ← h3]
      exact (h.2.2.2.2.2.1.1 ci r h2).2.1
    · obtain ⟨cell, a1, a2, a3, a4⟩ := h.2.2.2.2.2.2.2.2.2.1.kept hS.2.1
      exact ⟨cell, a1, a2, by rw [h2]; exact a3⟩
  have hrun := va_runV (H := H) (locs := locs) (cells := cells) (slots := slots) (below := below) (meth := meth) (e := e) (b := ad kk) (As := As.map (gtv ad)) (rest := st.map (gtv ad)) (C := M.1.cls) (g := F0 m pc la ((As.reverse ++ .ref kk :: st).map (gtv ad))) (⟨h.1, h.2.1, h.2.2.1, h.2.2.2.1, h.2.2.2.2.1⟩ : CallFix p m c cc nL s args gw own) (hc l D cA ad) ⟨gcl_B (R := R) h hM.1 ⟨Nat.le_trans hr.1 hR.1, Nat.le_trans hr.2.1 hR.2.1⟩, h.2.2.2.2.1 _ hM.2.1, h.2.2.2.2.1 _ hM.2.2⟩ ⟨gPc_blind, hrv, fun U hU hW => ⟨rfl, gpre_to h hP hS hU hW⟩⟩ rfl (by simp) hl (by simp [gtv]) (lv_room (by rw [gtv_cats]; exact hr.2.2)) hd ⟨hR.2.2.1, hR.2.2.2⟩
  exact s_run (y := F0 m pc la []) hrun (fun st0 o t q => q) hS k
theorem s_callS (h : gcx own cc nL p s m args c D cA ad) (hR : fr ≤ R.frames ∧ lo ≤ R.locals ∧ cells ≤ R.cells ∧ slots ≤ R.slots) {idx : Nat} {M : gM} {As : List Value} {Q : Option Value → gG → Prop} (hd : decode cc pc = .ok (.invokestatic idx, 3)) (hM : gclS own idx M As.length) (hr : M.2.2.2.2.1 + 1 ≤ fr ∧ 8 + (M.2.2.1 + 11) + M.2.2.2.2.2 ≤ lo ∧ (st.map fun v => v.category).sum ≤ 8) (hc : gC M As g Q) (hl : la.size = nL) (hP : va_P D vwCl (gws ad cA g) H) (hS : va_S (gA ad) s.heap H locs)
    (k : ∀ (r : Option Value) (g1 : gG), Q r g1 → ∀ (H1 : Heap) (locs1 : List Loc), va_P D vwCl (gws ad cA g1) H1 → va_S (gA ad) s.heap H1 locs1 → W p l e R s m args below meth c H1 locs1 cells slots Qf (F0 m (pc + 3) la ((r.toList ++ st).map (gtv ad)))) : W p l e R s m args below meth c H locs cells slots Qf (F0 m pc la ((As.reverse ++ st).map (gtv ad))) := by
  have hrun := va_runS (H := H) (locs := locs) (cells := cells) (slots := slots) (below := below) (meth := meth) (e := e) (As := As.map (gtv ad)) (rest := st.map (gtv ad)) (g := F0 m pc la ((As.reverse ++ st).map (gtv ad))) (⟨h.1, h.2.1, h.2.2.1, h.2.2.2.1, h.2.2.2.2.1⟩ : CallFix p m c cc nL s args gw own) (hc l D cA ad) ⟨gcl_B (R := R) h hM.1 ⟨Nat.le_trans hr.1 hR.1, Nat.le_trans hr.2.1 hR.2.1⟩, h.2.2.2.2.1 _ hM.2⟩ ⟨gPc_blind, fun U hU hW => ⟨rfl, gpre_to h hP hS hU hW⟩⟩ rfl (by simp) hl (by simp [gtv]) (lv_room (by rw [gtv_cats]; exact hr.2.2)) hd ⟨hR.2.2.1, hR.2.2.2⟩
  exact s_run (y := F0 m pc la []) hrun (fun st0 o t q => q) hS k
end GV1

section GV2
variable {p : Program} {l : Launch} {e : Env} {R : Room} {s : State} {m : MethodId} {args : Array Value} {below : List Frame} {meth : Method} {c : Code} {D : va_G} {cA : Nat → ClassId} {ad : Nat → Nat} {cells slots nL : Nat} {Qf : State → Prop} {own : String} {cc : ByteArray} {fr lo : Nat}
theorem s_q_iconst (h : gcx own cc nL p s m args c D cA ad) (hR : fr ≤ R.frames ∧ lo ≤ R.locals ∧ cells ≤ R.cells ∧ slots ≤ R.slots) : q_iconst own cc fr lo (gvw nL p l e R s m args below meth c D cA ad cells slots Qf) := by
  intro pc ls st g n v hd hv k H locs la hP hS hl
  exact lv_iconst h.1 h.2.1 hd hv (k H locs la hP hS hl)
theorem s_q_bipush (h : gcx own cc nL p s m args c D cA ad) (hR : fr ≤ R.frames ∧ lo ≤ R.locals ∧ cells ≤ R.cells ∧ slots ≤ R.slots) : q_bipush own cc fr lo (gvw nL p l e R s m args below meth c D cA ad cells slots Qf) := by
  intro pc ls st g n v hd hv k H locs la hP hS hl
  exact lv_bipush h.1 h.2.1 hd hv (k H locs la hP hS hl)
theorem s_q_sipush (h : gcx own cc nL p s m args c D cA ad) (hR : fr ≤ R.frames ∧ lo ≤ R.locals ∧ cells ≤ R.cells ∧ slots ≤ R.slots) : q_sipush own cc fr lo (gvw nL p l e R s m args below meth c D cA ad cells slots Qf) := by
  intro pc ls st g n v hd hv k H locs la hP hS hl
  exact lv_sipush h.1 h.2.1 hd hv (k H locs la hP hS hl)
theorem s_q_lconst (h : gcx own cc nL p s m args c D cA ad) (hR : fr ≤ R.frames ∧ lo ≤ R.locals ∧ cells ≤ R.cells ∧ slots ≤ R.slots) : q_lconst own cc fr lo (gvw nL p l e R s m args below meth c D cA ad cells slots Qf) := by
  intro pc ls st g n v hd hv k H locs la hP hS hl
  exact lv_lconst h.1 h.2.1 hd hv (k H locs la hP hS hl)
theorem s_q_iload_n (h : gcx own cc nL p s m args c D cA ad) (hR : fr ≤ R.frames ∧ lo ≤ R.locals ∧ cells ≤ R.cells ∧ slots ≤ R.slots) : q_iload_n own cc fr lo (gvw nL p l e R s m args below meth c D cA ad cells slots Qf) := by
  intro pc ls st g i x hd hi k H locs la hP hS hl
  exact lv_iload_n h.1 h.2.1 hd rfl (hl.2.2.2 _ _ hi (fun q => by cases q)) (k H locs la hP hS hl)
theorem s_q_iload (h : gcx own cc nL p s m args c D cA ad) (hR : fr ≤ R.frames ∧ lo ≤ R.locals ∧ cells ≤ R.cells ∧ slots ≤ R.slots) : q_iload own cc fr lo (gvw nL p l e R s m args below meth c D cA ad cells slots Qf) := by
  intro pc ls st g i x hd hi k H locs la hP hS hl
  exact lv_iload h.1 h.2.1 hd (hl.2.2.2 _ _ hi (fun q => by cases q)) (k H locs la hP hS hl)
theorem s_q_aload_n (h : gcx own cc nL p s m args c D cA ad) (hR : fr ≤ R.frames ∧ lo ≤ R.locals ∧ cells ≤ R.cells ∧ slots ≤ R.slots) : q_aload_n own cc fr lo (gvw nL p l e R s m args below meth c D cA ad cells slots Qf) := by
  intro pc ls st g i x hd hi k H locs la hP hS hl
  exact lv_aload_n h.1 h.2.1 hd rfl (hl.2.2.2 _ _ hi (fun q => by cases q)) (k H locs la hP hS hl)
theorem s_q_aload (h : gcx own cc nL p s m args c D cA ad) (hR : fr ≤ R.frames ∧ lo ≤ R.locals ∧ cells ≤ R.cells ∧ slots ≤ R.slots) : q_aload own cc fr lo (gvw nL p l e R s m args below meth c D cA ad cells slots Qf) := by
  intro pc ls st g i x hd hi k H locs la hP hS hl
  exact lv_aload h.1 h.2.1 hd (hl.2.2.2 _ _ hi (fun q => by cases q)) (k H locs la hP hS hl)
theorem s_q_lload_n (h : gcx own cc nL p s m args c D cA ad) (hR : fr ≤ R.frames ∧ lo ≤ R.locals ∧ cells ≤ R.cells ∧ slots ≤ R.slots) : q_lload_n own cc fr lo (gvw nL p l e R s m args below meth c D cA ad cells slots Qf) := by
  intro pc ls st g i x hd hi k H locs la hP hS hl
  exact lv_lload_n h.1 h.2.1 hd rfl (hl.2.2.2 _ _ hi (fun q => by cases q)) (k H locs la hP hS hl)
theorem s_q_lload (h : gcx own cc nL p s m args c D cA ad) (hR : fr ≤ R.frames ∧ lo ≤ R.locals ∧ cells ≤ R.cells ∧ slots ≤ R.slots) : q_lload own cc fr lo (gvw nL p l e R s m args below meth c D cA ad cells slots Qf) := by
  intro pc ls st g i x hd hi k H locs la hP hS hl
  exact lv_lload h.1 h.2.1 hd (hl.2.2.2 _ _ hi (fun q => by cases q)) (k H locs la hP hS hl)
theorem s_q_istore_n (h : gcx own cc nL p s m args c D cA ad) (hR : fr ≤ R.frames ∧ lo ≤ R.locals ∧ cells ≤ R.cells ∧ slots ≤ R.slots) : q_istore_n own cc fr lo (gvw nL p l e R s m args below meth c D cA ad cells slots Qf) := by
  intro pc ls st g i x ls2 hd hi hs k H locs la hP hS hl
  subst hs; exact lv_istore_n h.1 h.2.1 hd rfl hl.has (by rw [hl.2.2.1] at hi; exact hi) rfl (fun la2 h2 => k H locs la2 hP hS (glo_of1 (v := .int x) hl h2))
theorem s_q_istore (h : gcx own cc nL p s m args c D cA ad) (hR : fr ≤ R.frames ∧ lo ≤ R.locals ∧ cells ≤ R.cells ∧ slots ≤ R.slots) : q_istore own cc fr lo (gvw nL p l e R s m args below meth c D cA ad cells slots Qf) := by
  intro pc ls st g i x ls2 hd hi hs k H locs la hP hS hl
  subst hs; exact lv_istore h.1 h.2.1 hd hl.has (by rw [hl.2.2.1] at hi; exact hi) rfl (fun la2 h2 => k H locs la2 hP hS (glo_of1 (v := .int x) hl h2))
theorem s_q_astore_n (h : gcx own cc nL p s m args c D cA ad) (hR : fr ≤ R.frames ∧ lo ≤ R.locals ∧ cells ≤ R.cells ∧ slots ≤ R.slots) : q_astore_n own cc fr lo (gvw nL p l e R s m args below meth c D cA ad cells slots Qf) := by
  intro pc ls st g i x ls2 hd hi hs k H locs la hP hS hl
  subst hs; exact lv_astore_n h.1 h.2.1 hd rfl hl.has (by rw [hl.2.2.1] at hi; exact hi) rfl (fun la2 h2 => k H locs la2 hP hS (glo_of1 (v := .ref x) hl h2))
theorem s_q_astore (h : gcx own cc nL p s m args c D cA ad) (hR : fr ≤ R.frames ∧ lo ≤ R.locals ∧ cells ≤ R.cells ∧ slots ≤ R.slots) : q_astore own cc fr lo (gvw nL p l e R s m args below meth c D cA ad cells slots Qf) := by
  intro pc ls st g i x ls2 hd hi hs k H locs la hP hS hl
  subst hs; exact lv_astore h.1 h.2.1 hd hl.has (by rw [hl.2.2.1] at hi; exact hi) rfl (fun la2 h2 => k H locs la2 hP hS (glo_of1 (v := .ref x) hl h2))
theorem s_q_lstore_n (h : gcx own cc nL p s m args c D cA ad) (hR : fr ≤ R.frames ∧ lo ≤ R.locals ∧ cells ≤ R.cells ∧ slots ≤ R.slots) : q_lstore_n own cc fr lo (gvw nL p l e R s m args below meth c D cA ad cells slots Qf) := by
  intro pc ls st g i x ls2 hd hi hs k H locs la hP hS hl
  subst hs; exact lv_lstore_n h.1 h.2.1 hd rfl hl.has (by rw [hl.2.2.1] at hi; exact hi) rfl (fun la2 h2 => k H locs la2 hP hS (glo_of2 (v := .long x) hl h2))
theorem s_q_lstore (h : gcx own cc nL p s m args c D cA ad) (hR : fr ≤ R.frames ∧ lo ≤ R.locals ∧ cells ≤ R.cells ∧ slots ≤ R.slots) : q_lstore own cc fr lo (gvw nL p l e R s m args below meth c D cA ad cells slots Qf) := by
  intro pc ls st g i x ls2 hd hi hs k H locs la hP hS hl
  subst hs; exact lv_lstore h.1 h.2.1 hd hl.has (by rw [hl.2.2.1] at hi; exact hi) rfl (fun la2 h2 => k H locs la2 hP hS (glo_of2 (v := .long x) hl h2))
theorem s_q_iinc (h : gcx own cc nL p s m args c D cA ad) (hR : fr ≤ R.frames ∧ lo ≤ R.locals ∧ cells ≤ R.cells ∧ slots ≤ R.slots) : q_iinc own cc fr lo (gvw nL p l e R s m args below meth c D cA ad cells slots Qf) := by
  intro pc ls st g i n x y ls2 hd hi hv hs k H locs la hP hS hl
  subst hs; obtain ⟨j, hj⟩ := List.getElem?_of_mem (gprs_mem (ad := ad) hi (fun q => by cases q)); exact lv_iinc h.1 h.2.1 hd hl.has hj hv (by rw [← hl.2.2.1]; exact (List.getElem?_eq_some_iff.mp hi).1) rfl (fun la2 h2 => k H locs la2 hP hS (glo_of1 (v := .int y) hl h2))
theorem s_q_iadd (h : gcx own cc nL p s m args c D cA ad) (hR : fr ≤ R.frames ∧ lo ≤ R.locals ∧ cells ≤ R.cells ∧ slots ≤ R.slots) : q_iadd own cc fr lo (gvw nL p l e R s m args below meth c D cA ad cells slots Qf) := by
  intro pc ls st g x y hd k H locs la hP hS hl
  exact lv_iadd h.1 h.2.1 hd (k H locs la hP hS hl)
theorem s_q_isub (h : gcx own cc nL p s m args c D cA ad) (hR : fr ≤ R.frames ∧ lo ≤ R.locals ∧ cells ≤ R.cells ∧ slots ≤ R.slots) : q_isub own cc fr lo (gvw nL p l e R s m args below meth c D cA ad cells slots Qf) := by
  intro pc ls st g x y hd k H locs la hP hS hl
  exact lv_isub h.1 h.2.1 hd (k H locs la hP hS hl)
theorem s_q_imul (h : gcx own cc nL p s m args c D cA ad) (hR : fr ≤ R.frames ∧ lo ≤ R.locals ∧ cells ≤ R.cells ∧ slots ≤ R.slots) : q_imul own cc fr lo (gvw nL p l e R s m args below meth c D cA ad cells slots Qf) := by
  intro pc ls st g x y hd k H locs la hP hS hl
  exact lv_imul h.1 h.2.1 hd (k H locs la hP hS hl)
theorem s_q_iand (h : gcx own cc nL p s m args c D cA ad) (hR : fr ≤ R.frames ∧ lo ≤ R.locals ∧ cells ≤ R.cells ∧ slots ≤ R.slots) : q_iand own cc fr lo (gvw nL p l e R s m args below meth c D cA ad cells slots Qf) := by
  intro pc ls st g x y hd k H locs la hP hS hl
  exact lv_iand h.1 h.2.1 hd (k H locs la hP hS hl)
theorem s_q_ior (h : gcx own cc nL p s m args c D cA ad) (hR : fr ≤ R.frames ∧ lo ≤ R.locals ∧ cells ≤ R.cells ∧ slots ≤ R.slots) : q_ior own cc fr lo (gvw nL p l e R s m args below meth c D cA ad cells slots Qf) := by
  intro pc ls st g x y hd k H locs la hP hS hl
  exact lv_ior h.1 h.2.1 hd (k H locs la hP hS hl)
theorem s_q_ixor (h : gcx own cc nL p s m args c D cA ad) (hR : fr ≤ R.frames ∧ lo ≤ R.locals ∧ cells ≤ R.cells ∧ slots ≤ R.slots) : q_ixor own cc fr lo (gvw nL p l e R s m args below meth c D cA ad cells slots Qf) := by
  intro pc ls st g x y hd k H locs la hP hS hl
  exact lv_ixor h.1 h.2.1 hd (k H locs la hP hS hl)
theorem s_q_ishl (h : gcx own cc nL p s m args c D cA ad) (hR : fr ≤ R.frames ∧ lo ≤ R.locals ∧ cells ≤ R.cells ∧ slots ≤ R.slots) : q_ishl own cc fr lo (gvw nL p l e R s m args below meth c D cA ad cells slots Qf) := by
  intro pc ls st g x y hd k H locs la hP hS hl
  exact lv_ishl h.1 h.2.1 hd (k H locs la hP hS hl)
theorem s_q_ishr (h : gcx own cc nL p s m args c D cA ad) (hR : fr ≤ R.frames ∧ lo ≤ R.locals ∧ cells ≤ R.cells ∧ slots ≤ R.slots) : q_ishr own cc fr lo (gvw nL p l e R s m args below meth c D cA ad cells slots Qf) := by
  intro pc ls st g x y hd k H locs la hP hS hl
  exact lv_ishr h.1 h.2.1 hd (k H locs la hP hS hl)
theorem s_q_ineg (h : gcx own cc nL p s m args c D cA ad) (hR : fr ≤ R.frames ∧ lo ≤ R.locals ∧ cells ≤ R.cells ∧ slots ≤ R.slots) : q_ineg own cc fr lo (gvw nL p l e R s m args below meth c D cA ad cells slots Qf) := by
  intro pc ls st g x hd k H locs la hP hS hl
  exact lv_ineg h.1 h.2.1 hd (k H locs la hP hS hl)
theorem s_q_idiv (h : gcx own cc nL p s m args c D cA ad) (hR : fr ≤ R.frames ∧ lo ≤ R.locals ∧ cells ≤ R.cells ∧ slots ≤ R.slots) : q_idiv own cc fr lo (gvw nL p l e R s m args below meth c D cA ad cells slots Qf) := by
  intro pc ls st g x y hd hy k H locs la hP hS hl
  exact lv_idiv h.1 h.2.1 hd hy (k H locs la hP hS hl)
theorem s_q_irem (h : gcx own cc nL p s m args c D cA ad) (hR : fr ≤ R.frames ∧ lo ≤ R.locals ∧ cells ≤ R.cells ∧ slots ≤ R.slots) : q_irem own cc fr lo (gvw nL p l e R s m args below meth c D cA ad cells slots Qf) := by
  intro pc ls st g x y hd hy k H locs la hP hS hl
  exact lv_irem h.1 h.2.1 hd hy (k H locs la hP hS hl)
theorem s_q_ladd (h : gcx own cc nL p s m args c D cA ad) (hR : fr ≤ R.frames ∧ lo ≤ R.locals ∧ cells ≤ R.cells ∧ slots ≤ R.slots) : q_ladd own cc fr lo (gvw nL p l e R s m args below meth c D cA ad cells slots Qf) := by
  intro pc ls st g x y hd k H locs la hP hS hl
  exact lv_ladd h.1 h.2.1 hd (k H locs la hP hS hl)
theorem s_q_lsub (h : gcx own cc nL p s m args c D cA ad) (hR : fr ≤ R.frames ∧ lo ≤ R.locals ∧ cells ≤ R.cells ∧ slots ≤ R.slots) : q_lsub own cc fr lo (gvw nL p l e R s m args below meth c D cA ad cells slots Qf) := by
  intro pc ls st g x y hd k H locs la hP hS hl
  exact lv_lsub h.1 h.2.1 hd (k H locs la hP hS hl)
theorem s_q_lmul (h : gcx own cc nL p s m args c D cA ad) (hR : fr ≤ R.frames ∧ lo ≤ R.locals ∧ cells ≤ R.cells ∧ slots ≤ R.slots) : q_lmul own cc fr lo (gvw nL p l e R s m args below meth c D cA ad cells slots Qf) := by
  intro pc ls st g x y hd k H locs la hP hS hl
  exact lv_lmul h.1 h.2.1 hd (k H locs la hP hS hl)
theorem s_q_ldiv (h : gcx own cc nL p s m args c D cA ad) (hR : fr ≤ R.frames ∧ lo ≤ R.locals ∧ cells ≤ R.cells ∧ slots ≤ R.slots) : q_ldiv own cc fr lo (gvw nL p l e R s m args below meth c D cA ad cells slots Qf) := by
  intro pc ls st g x y hd hy k H locs la hP hS hl
  exact lv_ldiv h.1 h.2.1 hd hy (k H locs la hP hS hl)
theorem s_q_lrem (h : gcx own cc nL p s m args c D cA ad) (hR : fr ≤ R.frames ∧ lo ≤ R.locals ∧ cells ≤ R.cells ∧ slots ≤ R.slots) : q_lrem own cc fr lo (gvw nL p l e R s m args below meth c D cA ad cells slots Qf) := by
  intro pc ls st g x y hd hy k H locs la hP hS hl
  exact lv_lrem h.1 h.2.1 hd hy (k H locs la hP hS hl)
theorem s_q_i2l (h : gcx own cc nL p s m args c D cA ad) (hR : fr ≤ R.frames ∧ lo ≤ R.locals ∧ cells ≤ R.cells ∧ slots ≤ R.slots) : q_i2l own cc fr lo (gvw nL p l e R s m args below meth c D cA ad cells slots Qf) := by
  intro pc ls st g x hd k H locs la hP hS hl
  exact lv_i2l h.1 h.2.1 hd rfl (k H locs la hP hS hl)
theorem s_q_i2b (h : gcx own cc nL p s m args c D cA ad) (hR : fr ≤ R.frames ∧ lo ≤ R.locals ∧ cells ≤ R.cells ∧ slots ≤ R.slots) : q_i2b own cc fr lo (gvw nL p l e R s m args below meth c D cA ad cells slots Qf) := by
  intro pc ls st g x hd k H locs la hP hS hl
  exact lv_i2b h.1 h.2.1 hd rfl (k H locs la hP hS hl)
theorem s_q_iushr (h : gcx own cc nL p s m args c D cA ad) (hR : fr ≤ R.frames ∧ lo ≤ R.locals ∧ cells ≤ R.cells ∧ slots ≤ R.slots) : q_iushr own cc fr lo (gvw nL p l e R s m args below meth c D cA ad cells slots Qf) := by
  intro pc ls st g x y hd k H locs la hP hS hl
  exact lv_iushr h.1 h.2.1 hd rfl (k H locs la hP hS hl)
theorem s_q_i2c (h : gcx own cc nL p s m args c D cA ad) (hR : fr ≤ R.frames ∧ lo ≤ R.locals ∧ cells ≤ R.cells ∧ slots ≤ R.slots) : q_i2c own cc fr lo (gvw nL p l e R s m args below meth c D cA ad cells slots Qf) := by
  intro pc ls st g x hd k H locs la hP hS hl
  exact lv_i2c h.1 h.2.1 hd rfl (k H locs la hP hS hl)
theorem s_q_lcmp (h : gcx own cc nL p s m args c D cA ad) (hR : fr ≤ R.frames ∧ lo ≤ R.locals ∧ cells ≤ R.cells ∧ slots ≤ R.slots) : q_lcmp own cc fr lo (gvw nL p l e R s m args below meth c D cA ad cells slots Qf) := by
  intro pc ls st g x y hd k H locs la hP hS hl
  exact W.lcmp h.1 h.2.1 hd (k H locs la hP hS hl)
theorem s_q_dup (h : gcx own cc nL p s m args c D cA ad) (hR : fr ≤ R.frames ∧ lo ≤ R.locals ∧ cells ≤ R.cells ∧ slots ≤ R.slots) : q_dup own cc fr lo (gvw nL p l e R s m args below meth c D cA ad cells slots Qf) := by
  intro pc ls st g v hd hv k H locs la hP hS hl
  exact lv_dup h.1 h.2.1 hd (by rw [gtv_cat]; exact hv) (k H locs la hP hS hl)
theorem s_q_pop (h : gcx own cc nL p s m args c D cA ad) (hR : fr ≤ R.frames ∧ lo ≤ R.locals ∧ cells ≤ R.cells ∧ slots ≤ R.slots) : q_pop own cc fr lo (gvw nL p l e R s m args below meth c D cA ad cells slots Qf) := by
  intro pc ls st g v hd hv k H locs la hP hS hl
  exact lv_pop h.1 h.2.1 hd (by rw [gtv_cat]; exact hv) (k H locs la hP hS hl)
theorem s_q_dup2 (h : gcx own cc nL p s m args c D cA ad) (hR : fr ≤ R.frames ∧ lo ≤ R.locals ∧ cells ≤ R.cells ∧ slots ≤ R.slots) : q_dup2 own cc fr lo (gvw nL p l e R s m args below meth c D cA ad cells slots Qf) := by
  intro pc ls st g v w hd hv hw k H locs la hP hS hl
  exact lv_dup2_11 h.1 h.2.1 hd (by rw [gtv_cat]; exact hv) (by rw [gtv_cat]; exact hw) (k H locs la hP hS hl)
theorem s_q_if_eq (h : gcx own cc nL p s m args c D cA ad) (hR : fr ≤ R.frames ∧ lo ≤ R.locals ∧ cells ≤ R.cells ∧ slots ≤ R.slots) : q_if_eq own cc fr lo (gvw nL p l e R s m args below meth c D cA ad cells slots Qf) := by
  intro pc ls st g x o tgt hd ht kt kf H locs la hP hS hl
  exact lv_if_eq h.1 h.2.1 hd ht (fun q => kt q H locs la hP hS hl) (fun q => kf q H locs la hP hS hl)
theorem s_q_if_ne (h : gcx own cc nL p s m args c D cA ad) (hR : fr ≤ R.frames ∧ lo ≤ R.locals ∧ cells ≤ R.cells ∧ slots ≤ R.slots) : q_if_ne own cc fr lo (gvw nL p l e R s m args below meth c D cA ad cells slots Qf) := by
  intro pc ls st g x o tgt hd ht kt kf H locs la hP hS hl
  exact lv_if_ne h.1 h.2.1 hd ht (fun q => kt q H locs la hP hS hl) (fun q => kf q H locs la hP hS hl)
theorem s_q_if_lt (h : gcx own cc nL p s m args c D cA ad) (hR : fr ≤ R.frames ∧ lo ≤ R.locals ∧ cells ≤ R.cells ∧ slots ≤ R.slots) : q_if_lt own cc fr lo (gvw nL p l e R s m args below meth c D cA ad cells slots Qf) := by
  intro pc ls st g x o tgt hd ht kt kf H locs la hP hS hl
  exact lv_if_lt h.1 h.2.1 hd ht (fun q => kt q H locs la hP hS hl) (fun q => kf q H locs la hP hS hl)
theorem s_q_if_ge (h : gcx own cc nL p s m args c D cA ad) (hR : fr ≤ R.frames ∧ lo ≤ R.locals ∧ cells ≤ R.cells ∧ slots ≤ R.slots) : q_if_ge own cc fr lo (gvw nL p l e R s m args below meth c D cA ad cells slots Qf) := by
  intro pc ls st g x o tgt hd ht kt kf H locs la hP hS hl
  exact lv_if_ge h.1 h.2.1 hd ht (fun q => kt q H locs la hP hS hl) (fun q => kf q H locs la hP hS hl)
theorem s_q_if_gt (h : gcx own cc nL p s m args c D cA ad) (hR : fr ≤ R.frames ∧ lo ≤ R.locals ∧ cells ≤ R.cells ∧ slots ≤ R.slots) : q_if_gt own cc fr lo (gvw nL p l e R s m args below meth c D cA ad cells slots Qf) := by
  intro pc ls st g x o tgt hd ht kt kf H locs la hP hS hl
  exact lv_if_gt h.1 h.2.1 hd ht (fun q => kt q H locs la hP hS hl) (fun q => kf q H locs la hP hS hl)
theorem s_q_if_le (h : gcx own cc nL p s m args c D cA ad) (hR : fr ≤ R.frames ∧ lo ≤ R.locals ∧ cells ≤ R.cells ∧ slots ≤ R.slots) : q_if_le own cc fr lo (gvw nL p l e R s m args below meth c D cA ad cells slots Qf) := by
  intro pc ls st g x o tgt hd ht kt kf H locs la hP hS hl
  exact lv_if_le h.1 h.2.1 hd ht (fun q => kt q H locs la hP hS hl) (fun q => kf q H locs la hP hS hl)
theorem s_q_icmp_eq (h : gcx own cc nL p s m args c D cA ad) (hR : fr ≤ R.frames ∧ lo ≤ R.locals ∧ cells ≤ R.cells ∧ slots ≤ R.slots) : q_icmp_eq own cc fr lo (gvw nL p l e R s m args below meth c D cA ad cells slots Qf) := by
  intro pc ls st g x y o tgt hd ht kt kf H locs la hP hS hl
  exact lv_icmp_eq h.1 h.2.1 hd ht (fun q => kt q H locs la hP hS hl) (fun q => kf q H locs la hP hS hl)
theorem s_q_icmp_ne (h : gcx own cc nL p s m args c D cA ad) (hR : fr ≤ R.frames ∧ lo ≤ R.locals ∧ cells ≤ R.cells ∧ slots ≤ R.slots) : q_icmp_ne own cc fr lo (gvw nL p l e R s m args below meth c D cA ad cells slots Qf) := by
  intro pc ls st g x y o tgt hd ht kt kf H locs la hP hS hl
  exact lv_icmp_ne h.1 h.2.1 hd ht (fun q => kt q H locs la hP hS hl) (fun q => kf q H locs la hP hS hl)
theorem s_q_icmp_lt (h : gcx own cc nL p s m args c D cA ad) (hR : fr ≤ R.frames ∧ lo ≤ R.locals ∧ cells ≤ R.cells ∧ slots ≤ R.slots) : q_icmp_lt own cc fr lo (gvw nL p l e R s m args below meth c D cA ad cells slots Qf) := by
  intro pc ls st g x y o tgt hd ht kt kf H locs la hP hS hl
  exact lv_icmp_lt h.1 h.2.1 hd ht (fun q => kt q H locs la hP hS hl) (fun q => kf q H locs la hP hS hl)
theorem s_q_icmp_ge (h : gcx own cc nL p s m args c D cA ad) (hR : fr ≤ R.frames ∧ lo ≤ R.locals ∧ cells ≤ R.cells ∧ slots ≤ R.slots) : q_icmp_ge own cc fr lo (gvw nL p l e R s m args below meth c D cA ad cells slots Qf) := by
  intro pc ls st g x y o tgt hd ht kt kf H locs la hP hS hl
  exact lv_icmp_ge h.1 h.2.1 hd ht (fun q => kt q H locs la hP hS hl) (fun q => kf q H locs la hP hS hl)
theorem s_q_icmp_gt (h : gcx own cc nL p s m args c D cA ad) (hR : fr ≤ R.frames ∧ lo ≤ R.locals ∧ cells ≤ R.cells ∧ slots ≤ R.slots) : q_icmp_gt own cc fr lo (gvw nL p l e R s m args below meth c D cA ad cells slots Qf) := by
  intro pc ls st g x y o tgt hd ht kt kf H locs la hP hS hl
  exact lv_icmp_gt h.1 h.2.1 hd ht (fun q => kt q H locs la hP hS hl) (fun q => kf q H locs la hP hS hl)
theorem s_q_icmp_le (h : gcx own cc nL p s m args c D cA ad) (hR : fr ≤ R.frames ∧ lo ≤ R.locals ∧ cells ≤ R.cells ∧ slots ≤ R.slots) : q_icmp_le own cc fr lo (gvw nL p l e R s m args below meth c D cA ad cells slots Qf) := by
  intro pc ls st g x y o tgt hd ht kt kf H locs la hP hS hl
  exact lv_icmp_le h.1 h.2.1 hd ht (fun q => kt q H locs la hP hS hl) (fun q => kf q H locs la hP hS hl)
theorem s_q_goto (h : gcx own cc nL p s m args c D cA ad) (hR : fr ≤ R.frames ∧ lo ≤ R.locals ∧ cells ≤ R.cells ∧ slots ≤ R.slots) : q_goto own cc fr lo (gvw nL p l e R s m args below meth c D cA ad cells slots Qf) := by
  intro pc ls st g o tgt hd ht k H locs la hP hS hl
  exact lv_goto h.1 h.2.1 hd ht (k H locs la hP hS hl)
theorem s_q_tabOut (h : gcx own cc nL p s m args c D cA ad) (hR : fr ≤ R.frames ∧ lo ≤ R.locals ∧ cells ≤ R.cells ∧ slots ≤ R.slots) : q_tabOut own cc fr lo (gvw nL p l e R s m args below meth c D cA ad cells slots Qf) := by
  intro pc ls st g d lo_ hi_ offs len x tgt hd hx ht k H locs la hP hS hl
  exact lv_tableOut h.1 h.2.1 hd hx ht (k H locs la hP hS hl)
theorem s_q_tabIn (h : gcx own cc nL p s m args c D cA ad) (hR : fr ≤ R.frames ∧ lo ≤ R.locals ∧ cells ≤ R.cells ∧ slots ≤ R.slots) : q_tabIn own cc fr lo (gvw nL p l e R s m args below meth c D cA ad cells slots Qf) := by
  intro pc ls st g d lo_ hi_ offs len x o tgt hd h1 h2 ho ht k H locs la hP hS hl
  exact lv_tableIn h.1 h.2.1 hd h1 h2 ho ht (k H locs la hP hS hl)
theorem s_q_lookup (h : gcx own cc nL p s m args c D cA ad) (hR : fr ≤ R.frames ∧ lo ≤ R.locals ∧ cells ≤ R.cells ∧ slots ≤ R.slots) : q_lookup own cc fr lo (gvw nL p l e R s m args below meth c D cA ad cells slots Qf) := by
  intro pc ls st g d ps len x o tgt hd hp ho ht k H locs la hP hS hl
  exact lv_lookup h.1 h.2.1 hd hp ho ht (k H locs la hP hS hl)
theorem s_q_ldc (h : gcx own cc nL p s m args c D cA ad) (hR : fr ≤ R.frames ∧ lo ≤ R.locals ∧ cells ≤ R.cells ∧ slots ≤ R.slots) : q_ldc own cc fr lo (gvw nL p l e R s m args below meth c D cA ad cells slots Qf) := by
  intro pc ls st g idx v hd hc k H locs la hP hS hl
  exact lv_ldc h.1 h.2.1 h.2.2.2.1 (h.2.2.2.2.1 _ hc) hd (k H locs la hP hS hl)
theorem s_q_ldc_w (h : gcx own cc nL p s m args c D cA ad) (hR : fr ≤ R.frames ∧ lo ≤ R.locals ∧ cells ≤ R.cells ∧ slots ≤ R.slots) : q_ldc_w own cc fr lo (gvw nL p l e R s m args below meth c D cA ad cells slots Qf) := by
  intro pc ls st g idx v hd hc k H locs la hP hS hl
  exact lv_ldcw h.1 h.2.1 h.2.2.2.1 (h.2.2.2.2.1 _ hc) hd (k H locs la hP hS hl)
theorem s_q_ldc2 (h : gcx own cc nL p s m args c D cA ad) (hR : fr ≤ R.frames ∧ lo ≤ R.locals ∧ cells ≤ R.cells ∧ slots ≤ R.slots) : q_ldc2 own cc fr lo (gvw nL p l e R s m args below meth c D cA ad cells slots Qf) := by
  intro pc ls st g idx v hd hc k H locs la hP hS hl
  exact lv_ldc2 h.1 h.2.1 h.2.2.2.1 (h.2.2.2.2.1 _ hc) hd (k H locs la hP hS hl)
theorem s_q_ldcS (h : gcx own cc nL p s m args c D cA ad) (hR : fr ≤ R.frames ∧ lo ≤ R.locals ∧ cells ≤ R.cells ∧ slots ≤ R.slots) : q_ldcS own cc fr lo (gvw nL p l e R s m args below meth c D cA ad cells slots Qf) := by
  intro pc ls st g  hd ho k H locs la hP hS hl
  exact va_ldcS h.1 h.2.1 h.2.2.2.1 (by rw [ho]; exact h.2.2.2.2.2.2.2.2.1) hd (k H locs la hP hS hl)
theorem s_q_getI (h : gcx own cc nL p s m args c D cA ad) (hR : fr ≤ R.frames ∧ lo ≤ R.locals ∧ cells ≤ R.cells ∧ slots ≤ R.slots) : q_getI own cc fr lo (gvw nL p l e R s m args below meth c D cA ad cells slots Qf) := by
  intro pc ls st g idx ci j kk fl hd hf hk hj k H locs la hP hS hl
  exact s_get h hd hf hk hj rfl hP (k H locs la hP hS hl)
theorem s_q_getR (h : gcx own cc nL p s m args c D cA ad) (hR : fr ≤ R.frames ∧ lo ≤ R.locals ∧ cells ≤ R.cells ∧ slots ≤ R.slots) : q_getR own cc fr lo (gvw nL p l e R s m args below meth c D cA ad cells slots Qf) := by
  intro pc ls st g idx ci j kk fl q hd hf hk hj k H locs la hP hS hl
  exact s_get h hd hf hk hj rfl hP (k H locs la hP hS hl)
theorem s_q_putI (h : gcx own cc nL p s m args c D cA ad) (hR : fr ≤ R.frames ∧ lo ≤ R.locals ∧ cells ≤ R.cells ∧ slots ≤ R.slots) : q_putI own cc fr lo (gvw nL p l e R s m args below meth c D cA ad cells slots Qf) := by
  intro pc ls st g idx ci j kk fl x ty hd hf hk hj hn hfit k H locs la hP hS hl
  exact s_put h hd hf hk hj hn hfit hP hS (fun H1 locs1 hP1 hS1 => k H1 locs1 la hP1 hS1 hl)
theorem s_q_iaload (h : gcx own cc nL p s m args c D cA ad) (hR : fr ≤ R.frames ∧ lo ≤ R.locals ∧ cells ≤ R.cells ∧ slots ≤ R.slots) : q_iaload own cc fr lo (gvw nL p l e R s m args below meth c D cA ad cells slots Qf) := by
  intro pc ls st g kk n i hd hk hi k H locs la hP hS hl
  exact va_iald h.1 h.2.1 h.2.2.2.2.2.1 hP kk 0 (gws_at hk) rfl hi hd (k H locs la hP hS hl)
theorem s_q_caload (h : gcx own cc nL p s m args c D cA ad) (hR : fr ≤ R.frames ∧ lo ≤ R.locals ∧ cells ≤ R.cells ∧ slots ≤ R.slots) : q_caload own cc fr lo (gvw nL p l e R s m args below meth c D cA ad cells slots Qf) := by
  intro pc ls st g kk n i hd hk hi k H locs la hP hS hl
  exact va_cald h.1 h.2.1 h.2.2.2.2.2.1 hP kk 1 (gws_at hk) rfl hi hd (k H locs la hP hS hl)
theorem s_q_iastore (h : gcx own cc nL p s m args c D cA ad) (hR : fr ≤ R.frames ∧ lo ≤ R.locals ∧ cells ≤ R.cells ∧ slots ≤ R.slots) : q_iastore own cc fr lo (gvw nL p l e R s m args below meth c D cA ad cells slots Qf) := by
  intro pc ls st g kk n i x hd hk hi k H locs la hP hS hl
  exact va_iast h.1 h.2.1 h.2.2.2.2.2.1 hP (gD h.2.2.2.2.2.2.1) hS kk 0 (gws_at hk) rfl hi hd (fun H1 locs1 hP1 _ hS1 => k H1 locs1 la (by rw [gws_set (g' := gup g kk i.toNatClampNeg x) hk (gce_upd 0 (by decide)) (fun a ha => gup_ne ha)] at hP1; exact hP1) hS1 hl)
theorem s_q_castore (h : gcx own cc nL p s m args c D cA ad) (hR : fr ≤ R.frames ∧ lo ≤ R.locals ∧ cells ≤ R.cells ∧ slots ≤ R.slots) : q_castore own cc fr lo (gvw nL p l e R s m args below meth c D cA ad cells slots Qf) := by
  intro pc ls st g kk n i x hd hk hi k H locs la hP hS hl
  exact va_cast h.1 h.2.1 h.2.2.2.2.2.1 hP (gD h.2.2.2.2.2.2.1) hS kk 1 (gws_at hk) rfl hi hd (fun H1 locs1 hP1 _ hS1 => k H1 locs1 la (by rw [gws_set (g' := gup g kk i.toNatClampNeg (vp_nar .char x)) hk (gce_upd 1 (by decide)) (fun a ha => gup_ne ha)] at hP1; exact hP1) hS1 hl)
theorem s_q_aaload (h : gcx own cc nL p s m args c D cA ad) (hR : fr ≤ R.frames ∧ lo ≤ R.locals ∧ cells ≤ R.cells ∧ slots ≤ R.slots) : q_aaload own cc fr lo (gvw nL p l e R s m args below meth c D cA ad cells slots Qf) := by
  intro pc ls st g kk n i hd hk hi k H locs la hP hS hl
  exact s_aald h hd hk hi hP (k H locs la hP hS hl)
theorem s_q_alen (h : gcx own cc nL p s m args c D cA ad) (hR : fr ≤ R.frames ∧ lo ≤ R.locals ∧ cells ≤ R.cells ∧ slots ≤ R.slots) : q_alen own cc fr lo (gvw nL p l e R s m args below meth c D cA ad cells slots Qf) := by
  intro pc ls st g kk t n hd hk ht hn k H locs la hP hS hl
  exact s_alen h hd hk ht hn hP (k H locs la hP hS hl)
theorem s_q_gets (h : gcx own cc nL p s m args c D cA ad) (hR : fr ≤ R.frames ∧ lo ≤ R.locals ∧ cells ≤ R.cells ∧ slots ≤ R.slots) : q_gets own cc fr lo (gvw nL p l e R s m args below meth c D cA ad cells slots Qf) := by
  intro pc ls st g idx q hd hq hf k H locs la hP hS hl
  exact s_gets h hd hq hf hS (k H locs la hP hS hl)
theorem s_q_getsC (h : gcx own cc nL p s m args c D cA ad) (hR : fr ≤ R.frames ∧ lo ≤ R.locals ∧ cells ≤ R.cells ∧ slots ≤ R.slots) : q_getsC own cc fr lo (gvw nL p l e R s m args below meth c D cA ad cells slots Qf) := by
  intro pc ls st g idx hd hf k H locs la hP hS hl
  exact va_gets h.1 h.2.1 h.2.2.2.2.2.2.2.2.2.2.2.2.2 hS h.2.2.2.1 (h.2.2.2.2.1 _ hf) (fun _ q => q) hd (k H locs la hP hS hl)
theorem s_q_tabld (h : gcx own cc nL p s m args c D cA ad) (hR : fr ≤ R.frames ∧ lo ≤ R.locals ∧ cells ≤ R.cells ∧ slots ≤ R.slots) : q_tabld own cc fr lo (gvw nL p l e R s m args below meth c D cA ad cells slots Qf) := by
  intro pc ls st g q i hd hq hi k H locs la hP hS hl
  exact s_tabld h hd hq hi hS (k H locs la hP hS hl)
theorem s_q_strld (h : gcx own cc nL p s m args c D cA ad) (hR : fr ≤ R.frames ∧ lo ≤ R.locals ∧ cells ≤ R.cells ∧ slots ≤ R.slots) : q_strld own cc fr lo (gvw nL p l e R s m args below meth c D cA ad cells slots Qf) := by
  intro pc ls st g i hd hi k H locs la hP hS hl
  exact s_strld h hd hi hS (k H locs la hP hS hl)
theorem s_q_strlen (h : gcx own cc nL p s m args c D cA ad) (hR : fr ≤ R.frames ∧ lo ≤ R.locals ∧ cells ≤ R.cells ∧ slots ≤ R.slots) : q_strlen own cc fr lo (gvw nL p l e R s m args below meth c D cA ad cells slots Qf) := by
  intro pc ls st g  hd k H locs la hP hS hl
  exact s_strlen h hd hS (k H locs la hP hS hl)
theorem s_q_strV (h : gcx own cc nL p s m args c D cA ad) (hR : fr ≤ R.frames ∧ lo ≤ R.locals ∧ cells ≤ R.cells ∧ slots ≤ R.slots) : q_strV own cc fr lo (gvw nL p l e R s m args below meth c D cA ad cells slots Qf) := by
  intro pc ls st g idx hd hf k H locs la hP hS hl
  exact vk_getf h.1 h.2.1 h.2.2.2.2.2.2.2.2.2.2.1 hS h.2.2.2.1 (h.2.2.2.2.1 _ hf) (fun _ q => q) hd (k H locs la hP hS hl)
theorem s_q_strC (h : gcx own cc nL p s m args c D cA ad) (hR : fr ≤ R.frames ∧ lo ≤ R.locals ∧ cells ≤ R.cells ∧ slots ≤ R.slots) : q_strC own cc fr lo (gvw nL p l e R s m args below meth c D cA ad cells slots Qf) := by
  intro pc ls st g idx hd hf k H locs la hP hS hl
  exact vk_getf h.1 h.2.1 h.2.2.2.2.2.2.2.2.2.2.2.1 hS h.2.2.2.1 (h.2.2.2.2.1 _ hf) (fun _ q => q) hd (k H locs la hP hS hl)
theorem s_q_mmax (h : gcx own cc nL p s m args c D cA ad) (hR : fr ≤ R.frames ∧ lo ≤ R.locals ∧ cells ≤ R.cells ∧ slots ≤ R.slots) : q_mmax own cc fr lo (gvw nL p l e R s m args below meth c D cA ad cells slots Qf) := by
  intro pc ls st g idx x y hd hf hr k H locs la hP hS hl
  exact va_mmax h.1 h.2.1 (by rw [h.2.2.1, hl.1]) h.2.2.2.1 (h.2.2.2.2.1 _ hf.1) (h.2.2.2.2.1 _ hf.2.1) (h.2.2.2.2.1 _ hf.2.2.1) (h.2.2.2.2.1 _ hf.2.2.2) (Nat.le_trans hr.1 hR.1) (by rw [gtv_cats]; exact Nat.le_trans hr.2 hR.2.1) hR.2.2.1 hR.2.2.2 hd (k H locs la hP hS hl)
theorem s_q_mmin (h : gcx own cc nL p s m args c D cA ad) (hR : fr ≤ R.frames ∧ lo ≤ R.locals ∧ cells ≤ R.cells ∧ slots ≤ R.slots) : q_mmin own cc fr lo (gvw nL p l e R s m args below meth c D cA ad cells slots Qf) := by
  intro pc ls st g idx x y hd hf hr k H locs la hP hS hl
  exact va_mmin h.1 h.2.1 (by rw [h.2.2.1, hl.1]) h.2.2.2.1 (h.2.2.2.2.1 _ hf.1) (h.2.2.2.2.1 _ hf.2.1) (h.2.2.2.2.1 _ hf.2.2.1) (h.2.2.2.2.1 _ hf.2.2.2) (Nat.le_trans hr.1 hR.1) (by rw [gtv_cats]; exact Nat.le_trans hr.2 hR.2.1) hR.2.2.1 hR.2.2.2 hd (k H locs la hP hS hl)
theorem s_q_acopy (h : gcx own cc nL p s m args c D cA ad) (hR : fr ≤ R.frames ∧ lo ≤ R.locals ∧ cells ≤ R.cells ∧ slots ≤ R.slots) : q_acopy own cc fr lo (gvw nL p l e R s m args below meth c D cA ad cells slots Qf) := by
  intro pc ls st g idx k0 k1 n0 n1 n hd hf hk0 hk1 hn hr k H locs la hP hS hl
  exact s_acopy h hR hd hf hk0 hk1 hn hr hl.1 hP hS (fun H1 locs1 hP1 hS1 => k H1 locs1 la hP1 hS1 hl)
theorem s_q_callV (h : gcx own cc nL p s m args c D cA ad) (hR : fr ≤ R.frames ∧ lo ≤ R.locals ∧ cells ≤ R.cells ∧ slots ≤ R.slots) : q_callV own cc fr lo (gvw nL p l e R s m args below meth c D cA ad cells slots Qf) := by
  intro pc ls st g idx M kk As st2 Qc hd hM hk hs hr hc k H locs la hP hS hl
  subst hs; exact s_callV h hR hd hM hk hr hc hl.1 hP hS (fun r g1 q H1 locs1 hP1 hS1 => k r g1 q H1 locs1 la hP1 hS1 hl)
theorem s_q_callS (h : gcx own cc nL p s m args c D cA ad) (hR : fr ≤ R.frames ∧ lo ≤ R.locals ∧ cells ≤ R.cells ∧ slots ≤ R.slots) : q_callS own cc fr lo (gvw nL p l e R s m args below meth c D cA ad cells slots Qf) := by
  intro pc ls st g idx M As st2 Qc hd hM hs hr hc k H locs la hP hS hl
  subst hs; exact s_callS h hR hd hM hr hc hl.1 hP hS (fun r g1 q H1 locs1 hP1 hS1 => k r g1 q H1 locs1 la hP1 hS1 hl)
theorem gR_sound (h : gcx own cc nL p s m args c D cA ad) (hR : fr ≤ R.frames ∧ lo ≤ R.locals ∧ cells ≤ R.cells ∧ slots ≤ R.slots) : gR own cc fr lo (gvw nL p l e R s m args below meth c D cA ad cells slots Qf) := ⟨s_q_iconst h hR, s_q_bipush h hR, s_q_sipush h hR, s_q_lconst h hR, s_q_iload_n h hR, s_q_iload h hR, s_q_aload_n h hR, s_q_aload h hR, s_q_lload_n h hR, s_q_lload h hR, s_q_istore_n h hR, s_q_istore h hR, s_q_astore_n h hR, s_q_astore h hR, s_q_lstore_n h hR, s_q_lstore h hR, s_q_iinc h hR, s_q_iadd h hR, s_q_isub h hR, s_q_imul h hR, s_q_iand h hR, s_q_ior h hR, s_q_ixor h hR, s_q_ishl h hR, s_q_ishr h hR, s_q_ineg h hR, s_q_idiv h hR, s_q_irem h hR, s_q_ladd h hR, s_q_lsub h hR, s_q_lmul h hR, s_q_ldiv h hR, s_q_lrem h hR, s_q_i2l h hR, s_q_i2b h hR, s_q_iushr h hR, s_q_i2c h hR, s_q_lcmp h hR, s_q_dup h hR, s_q_pop h hR, s_q_dup2 h hR, s_q_if_eq h hR, s_q_if_ne h hR, s_q_if_lt h hR, s_q_if_ge h hR, s_q_if_gt h hR, s_q_if_le h hR, s_q_icmp_eq h hR, s_q_icmp_ne h hR, s_q_icmp_lt h hR, s_q_icmp_ge h hR, s_q_icmp_gt h hR, s_q_icmp_le h hR, s_q_goto h hR, s_q_tabOut h hR, s_q_tabIn h hR, s_q_lookup h hR, s_q_ldc h hR, s_q_ldc_w h hR, s_q_ldc2 h hR, s_q_ldcS h hR, s_q_getI h hR, s_q_getR h hR, s_q_putI h hR, s_q_iaload h hR, s_q_caload h hR, s_q_iastore h hR, s_q_castore h hR, s_q_aaload h hR, s_q_alen h hR, s_q_gets h hR, s_q_getsC h hR, s_q_tabld h hR, s_q_strld h hR, s_q_strlen h hR, s_q_strV h hR, s_q_strC h hR, s_q_mmax h hR, s_q_mmin h hR, s_q_acopy h hR, s_q_callV h hR, s_q_callS h hR⟩
end GV2
/-- the ends of a method -/
def gRet (cc : ByteArray) (rt : Option FieldType) (Q : Option Value → gG → Prop) (G : gJ) : Prop :=
  (∀ (pc : Nat) (ls : List Value) (g : gG) (x : Int32) (ty : FieldType), decode cc pc = .ok (.ireturn, 1) → rt = some ty → narrow ty (.int x) = .int x → Q (some (.int x)) g → G pc ls [.int x] g) ∧
  (∀ (pc : Nat) (ls : List Value) (g : gG) (x : Int64), decode cc pc = .ok (.lreturn, 1) → rt = some .long → Q (some (.long x)) g → G pc ls [.long x] g) ∧
  (∀ (pc : Nat) (ls : List Value) (g : gG), decode cc pc = .ok (.return_, 1) → rt = none → Q none g → G pc ls [] g)
section GT
variable {cc : ByteArray} {rt : Option FieldType} {Q : Option Value → gG → Prop} {G : gJ} {pc : Nat} {ls : List Value} {g : gG}
theorem r_iret (h : gRet cc rt Q G) {x : Int32} {ty : FieldType} (hd : decode cc pc = .ok (.ireturn, 1)) (hr : rt = some ty) (hn : narrow ty (.int x) = .int x) (k : Q (some (.int x)) g) : G pc ls [.int x] g := h.1 pc ls g x ty hd hr hn k
theorem r_lret (h : gRet cc rt Q G) {x : Int64} (hd : decode cc pc = .ok (.lreturn, 1)) (hr : rt = some .long) (k : Q (some (.long x)) g) : G pc ls [.long x] g := h.2.1 pc ls g x hd hr k
theorem r_vret (h : gRet cc rt Q G) (hd : decode cc pc = .ok (.return_, 1)) (hr : rt = none) (k : Q none g) : G pc ls [] g := h.2.2 pc ls g hd hr k
end GT
theorem gC_of {M : gM} {av ls0 : List Value} {g : gG} {Q : Option Value → gG → Prop} (hy : plainName M.1.cls = true) (hls : gent av M.2.2.1 = ls0) (hn : (gargs av).length ≤ M.2.2.1) (body : ∀ G : gJ, gR M.1.cls M.2.1 M.2.2.2.2.1 M.2.2.2.2.2 G → gRet M.2.1 M.2.2.2.1 Q G → G 0 ls0 [] g) : gC M av g Q := by
  intro l D cA ad
  refine Met.ofW (cc := M.2.1) (maxL := M.2.2.1) (ret := M.2.2.2.1) hy rfl ?_
  intro p e s m args below meth c s₁ B hml hv
  obtain ⟨rfl, hP, hK, hinj, hro⟩ := hv
  have hts : ∀ w ∈ gw, w.before (av.map (gtv ad)).toArray s = true := fun w hw => atoms_spec (ws := Cond.code M.1 M.2.1 M.2.2.1 M.2.2.2.1 :: gw) B.pre w (List.mem_cons_of_mem _ hw)
  have hown : s.vm.findClass M.1.cls = some m.cls := findClass_of_methodNamed B.named
  have hx := B.exec
  have hb := B.bytes
  have hr := B.returns
  have hlocks := B.notSynchronized
  have cx : gcx M.1.cls M.2.1 M.2.2.1 p s m (av.map (gtv ad)).toArray c D cA ad := ⟨hx, hb, hml, hown, hts, hK, hinj, hro⟩
  have hG := body (gvw M.2.2.1 p l e (groom M.2.2.2.2.1 M.2.2.2.2.2) s m (av.map (gtv ad)).toArray below meth c D cA ad 0 0 (MQ below (gQc D cA ad Q) (av.map (gtv ad)).toArray s 0 0 (gA ad))) (gR_sound cx ⟨Nat.le_refl _, Nat.le_refl _, Nat.le_refl _, Nat.le_refl _⟩) ?_
  · rw [lg_entry_eq]
    refine hG s.heap [] _ hP va_S.rf ?_
    rw [← hls]
    exact glo_entry ad av hn
  · refine ⟨fun pc ls g1 x ty hd hrt hnr hq H locs la hP1 hS1 hl1 => ?_, fun pc ls g1 x hd hrt hq H locs la hP1 hS1 hl1 => ?_, fun pc ls g1 hd hrt hq H locs la hP1 hS1 hl1 => ?_⟩
    · exact W.zret hx hb (hr.trans hrt) hnr (fun t ht hW => ⟨⟨some (.int x), g1, rfl, hq, by rw [ht]; exact hP1⟩, hS1.F ht⟩) hS1.2.2 hd hlocks
    · exact W.lret hx hb (hr.trans hrt) (fun t ht hW => ⟨⟨some (.long x), g1, rfl, hq, by rw [ht]; exact hP1⟩, hS1.F ht⟩) hS1.2.2 hd hlocks
    · exact W.vret hx hb (hr.trans hrt) (fun t ht hW => ⟨⟨none, g1, rfl, hq, by rw [ht]; exact hP1⟩, hS1.F ht⟩) hS1.2.2 hd hlocks
end
section
theorem sh_0 : gshL[0]? = some (.inl (3, [some 1, some 9, some 17, none, some 25, some 27, some 30, none, some 31, some 32, some 33, some 34])) := rfl
theorem sh_1 : gshL[1]? = some (.inl (0, [some 2, some 3, some 4, some 5, some 6, some 7, some 8, none, none, none, none])) := rfl
theorem sh_2 : gshL[2]? = some (.inr (0, 6)) := rfl
theorem sh_3 : gshL[3]? = some (.inr (0, 6)) := rfl
theorem sh_4 : gshL[4]? = some (.inr (0, 6)) := rfl
theorem sh_5 : gshL[5]? = some (.inr (0, 5)) := rfl
theorem sh_6 : gshL[6]? = some (.inr (0, 5)) := rfl
theorem sh_7 : gshL[7]? = some (.inr (0, 5)) := rfl
theorem sh_8 : gshL[8]? = some (.inr (0, 5)) := rfl
theorem sh_9 : gshL[9]? = some (.inl (0, [some 10, some 11, some 12, some 13, some 14, some 15, some 16, none, none, none, none])) := rfl
theorem sh_10 : gshL[10]? = some (.inr (0, 6)) := rfl
theorem sh_11 : gshL[11]? = some (.inr (0, 6)) := rfl
theorem sh_12 : gshL[12]? = some (.inr (0, 6)) := rfl
theorem sh_13 : gshL[13]? = some (.inr (0, 5)) := rfl
theorem sh_14 : gshL[14]? = some (.inr (0, 5)) := rfl
theorem sh_15 : gshL[15]? = some (.inr (0, 5)) := rfl
theorem sh_16 : gshL[16]? = some (.inr (0, 5)) := rfl
theorem sh_17 : gshL[17]? = some (.inl (0, [some 18, some 19, some 20, some 21, some 22, some 23, some 24, none, none, none, none])) := rfl
theorem sh_18 : gshL[18]? = some (.inr (0, 6)) := rfl
theorem sh_19 : gshL[19]? = some (.inr (0, 6)) := rfl
theorem sh_20 : gshL[20]? = some (.inr (0, 6)) := rfl
theorem sh_21 : gshL[21]? = some (.inr (0, 5)) := rfl
theorem sh_22 : gshL[22]? = some (.inr (0, 5)) := rfl
theorem sh_23 : gshL[23]? = some (.inr (0, 5)) := rfl
theorem sh_24 : gshL[24]? = some (.inr (0, 5)) := rfl
theorem sh_25 : gshL[25]? = some (.inl (2, [some 26, none])) := rfl
theorem sh_26 : gshL[26]? = some (.inr (1, 96)) := rfl
theorem sh_27 : gshL[27]? = some (.inl (1, [some 28, some 29])) := rfl
theorem sh_28 : gshL[28]? = some (.inr (0, 384)) := rfl
theorem sh_29 : gshL[29]? = some (.inr (0, 5)) := rfl
theorem sh_30 : gshL[30]? = some (.inr (0, 16)) := rfl
theorem sh_31 : gshL[31]? = some (.inr (0, 7)) := rfl
theorem sh_32 : gshL[32]? = some (.inr (0, 69)) := rfl
theorem sh_33 : gshL[33]? = some (.inr (0, 4)) := rfl
theorem sh_34 : gshL[34]? = some (.inr (0, 4)) := rfl
theorem sh_35 : gshL[35]? = some (.inl (4, [some 36, some 37, some 38, some 39, some 40, some 41, some 42, some 43, none, none, none, none, some 44, some 45, some 46, some 47, none, none, none, some 48, none, none, none, some 49, none, none, none, none, some 56, some 57, none, none])) := rfl
theorem sh_36 : gshL[36]? = some (.inr (0, 7)) := rfl
theorem sh_37 : gshL[37]? = some (.inr (0, 6)) := rfl
theorem sh_38 : gshL[38]? = some (.inr (0, 6)) := rfl
theorem sh_39 : gshL[39]? = some (.inr (0, 6)) := rfl
theorem sh_40 : gshL[40]? = some (.inr (0, 5)) := rfl
theorem sh_41 : gshL[41]? = some (.inr (0, 5)) := rfl
theorem sh_42 : gshL[42]? = some (.inr (0, 5)) := rfl
theorem sh_43 : gshL[43]? = some (.inr (0, 5)) := rfl
theorem sh_44 : gshL[44]? = some (.inr (0, 96)) := rfl
theorem sh_45 : gshL[45]? = some (.inr (0, 48)) := rfl
theorem sh_46 : gshL[46]? = some (.inr (0, 48)) := rfl
theorem sh_47 : gshL[47]? = some (.inr (0, 96)) := rfl
theorem sh_48 : gshL[48]? = some (.inr (0, 126)) := rfl
theorem sh_49 : gshL[49]? = some (.inr (2, 6)) := rfl
theorem sh_50 : gshL[50]? = some (.inr (0, 64)) := rfl
theorem sh_51 : gshL[51]? = some (.inr (0, 64)) := rfl
theorem sh_52 : gshL[52]? = some (.inr (0, 64)) := rfl
theorem sh_53 : gshL[53]? = some (.inr (0, 64)) := rfl
theorem sh_54 : gshL[54]? = some (.inr (0, 64)) := rfl
theorem sh_55 : gshL[55]? = some (.inr (0, 64)) := rfl
theorem sh_56 : gshL[56]? = some (.inr (0, 8)) := rfl
theorem sh_57 : gshL[57]? = some (.inr (0, 16)) := rfl
abbrev mX0_copyFrom : gM := (yX0_copyFrom, cX0_copyFrom, 2, none, 1, 40)
theorem gm_X0_copyFrom : (Cond.code mX0_copyFrom.1 mX0_copyFrom.2.1 mX0_copyFrom.2.2.1 mX0_copyFrom.2.2.2.1 ∈ gw ∧ Cond.initialized mX0_copyFrom.1.cls ∈ gw ∧ (mX0_copyFrom.1.cls ≠ "java/lang/invoke/MethodHandle" ∧ mX0_copyFrom.1.cls ≠ "java/lang/invoke/VarHandle" ∧ (parseMethodDescriptor mX0_copyFrom.1.desc).map (fun d => d.parameters.length) = some 1)) ∧ Cond.instanceMethod mX0_copyFrom.1 ∈ gw ∧ Cond.selects mX0_copyFrom.1.cls mX0_copyFrom.1 mX0_copyFrom.1 ∈ gw := ⟨⟨gw_mem 338 (by decide +kernel) (by decide +kernel), gw_mem 70 (by decide +kernel) (by decide +kernel), by decide +kernel, by decide +kernel, by decide +kernel⟩, gw_mem 336 (by decide +kernel) (by decide +kernel), gw_mem 337 (by decide +kernel) (by decide +kernel)⟩
abbrev mX0_addSuit : gM := (yX0_addSuit, cX0_addSuit, 3, some .boolean, 0, 0)
theorem gm_X0_addSuit : (Cond.code mX0_addSuit.1 mX0_addSuit.2.1 mX0_addSuit.2.2.1 mX0_addSuit.2.2.2.1 ∈ gw ∧ Cond.initialized mX0_addSuit.1.cls ∈ gw ∧ (mX0_addSuit.1.cls ≠ "java/lang/invoke/MethodHandle" ∧ mX0_addSuit.1.cls ≠ "java/lang/invoke/VarHandle" ∧ (parseMethodDescriptor mX0_addSuit.1.desc).map (fun d => d.parameters.length) = some 2)) ∧ Cond.instanceMethod mX0_addSuit.1 ∈ gw ∧ Cond.selects mX0_addSuit.1.cls mX0_addSuit.1 mX0_addSuit.1 ∈ gw := ⟨⟨gw_mem 353 (by decide +kernel) (by decide +kernel), gw_mem 70 (by decide +kernel) (by decide +kernel), by decide +kernel, by decide +kernel, by decide +kernel⟩, gw_mem 351 (by decide +kernel) (by decide +kernel), gw_mem 352 (by decide +kernel) (by decide +kernel)⟩
abbrev mX0_addCaller : gM := (yX0_addCaller, cX0_addCaller, 2, some .boolean, 0, 0)
theorem gm_X0_addCaller : (Cond.code mX0_addCaller.1 mX0_addCaller.2.1 mX0_addCaller.2.2.1 mX0_addCaller.2.2.2.1 ∈ gw ∧ Cond.initialized mX0_addCaller.1.cls ∈ gw ∧ (mX0_addCaller.1.cls ≠ "java/lang/invoke/MethodHandle" ∧ mX0_addCaller.1.cls ≠ "java/lang/invoke/VarHandle" ∧ (parseMethodDescriptor mX0_addCaller.1.desc).map (fun d => d.parameters.length) = some 1)) ∧ Cond.instanceMethod mX0_addCaller.1 ∈ gw ∧ Cond.selects mX0_addCaller.1.cls mX0_addCaller.1 mX0_addCaller.1 ∈ gw := ⟨⟨gw_mem 361 (by decide +kernel) (by decide +kernel), gw_mem 70 (by decide +kernel) (by decide +kernel), by decide +kernel, by decide +kernel, by decide +kernel⟩, gw_mem 359 (by decide +kernel) (by decide +kernel), gw_mem 360 (by decide +kernel) (by decide +kernel)⟩
abbrev mX0_putIn : gM := (yX0_putIn, cX0_putIn, 4, none, 1, 40)
theorem gm_X0_putIn : (Cond.code mX0_putIn.1 mX0_putIn.2.1 mX0_putIn.2.2.1 mX0_putIn.2.2.2.1 ∈ gw ∧ Cond.initialized mX0_putIn.1.cls ∈ gw ∧ (mX0_putIn.1.cls ≠ "java/lang/invoke/MethodHandle" ∧ mX0_putIn.1.cls ≠ "java/lang/invoke/VarHandle" ∧ (parseMethodDescriptor mX0_putIn.1.desc).map (fun d => d.parameters.length) = some 2)) ∧ Cond.instanceMethod mX0_putIn.1 ∈ gw ∧ Cond.selects mX0_putIn.1.cls mX0_putIn.1 mX0_putIn.1 ∈ gw := ⟨⟨gw_mem 368 (by decide +kernel) (by decide +kernel), gw_mem 70 (by decide +kernel) (by decide +kernel), by decide +kernel, by decide +kernel, by decide +kernel⟩, gw_mem 366 (by decide +kernel) (by decide +kernel), gw_mem 367 (by decide +kernel) (by decide +kernel)⟩
abbrev mX0_wearer : gM := (yX0_wearer, cX0_wearer, 3, some .int, 0, 0)
theorem gm_X0_wearer : (Cond.code mX0_wearer.1 mX0_wearer.2.1 mX0_wearer.2.2.1 mX0_wearer.2.2.2.1 ∈ gw ∧ Cond.initialized mX0_wearer.1.cls ∈ gw ∧ (mX0_wearer.1.cls ≠ "java/lang/invoke/MethodHandle" ∧ mX0_wearer.1.cls ≠ "java/lang/invoke/VarHandle" ∧ (parseMethodDescriptor mX0_wearer.1.desc).map (fun d => d.parameters.length) = some 1)) ∧ Cond.instanceMethod mX0_wearer.1 ∈ gw ∧ Cond.selects mX0_wearer.1.cls mX0_wearer.1 mX0_wearer.1 ∈ gw := ⟨⟨gw_mem 372 (by decide +kernel) (by decide +kernel), gw_mem 70 (by decide +kernel) (by decide +kernel), by decide +kernel, by decide +kernel, by decide +kernel⟩, gw_mem 370 (by decide +kernel) (by decide +kernel), gw_mem 371 (by decide +kernel) (by decide +kernel)⟩
abbrev mX0_covers : gM := (yX0_covers, cX0_covers, 2, some .int, 1, 40)
theorem gm_X0_covers : (Cond.code mX0_covers.1 mX0_covers.2.1 mX0_covers.2.2.1 mX0_covers.2.2.2.1 ∈ gw ∧ Cond.initialized mX0_covers.1.cls ∈ gw ∧ (mX0_covers.1.cls ≠ "java/lang/invoke/MethodHandle" ∧ mX0_covers.1.cls ≠ "java/lang/invoke/VarHandle" ∧ (parseMethodDescriptor mX0_covers.1.desc).map (fun d => d.parameters.length) = some 1)) ∧ Cond.instanceMethod mX0_covers.1 ∈ gw ∧ Cond.selects mX0_covers.1.cls mX0_covers.1 mX0_covers.1 ∈ gw := ⟨⟨gw_mem 450 (by decide +kernel) (by decide +kernel), gw_mem 70 (by decide +kernel) (by decide +kernel), by decide +kernel, by decide +kernel, by decide +kernel⟩, gw_mem 448 (by decide +kernel) (by decide +kernel), gw_mem 449 (by decide +kernel) (by decide +kernel)⟩
abbrev mX0_coversWith : gM := (yX0_coversWith, cX0_coversWith, 5, some .int, 0, 0)
theorem gm_X0_coversWith : (Cond.code mX0_coversWith.1 mX0_coversWith.2.1 mX0_coversWith.2.2.1 mX0_coversWith.2.2.2.1 ∈ gw ∧ Cond.initialized mX0_coversWith.1.cls ∈ gw ∧ (mX0_coversWith.1.cls ≠ "java/lang/invoke/MethodHandle" ∧ mX0_coversWith.1.cls ≠ "java/lang/invoke/VarHandle" ∧ (parseMethodDescriptor mX0_coversWith.1.desc).map (fun d => d.parameters.length) = some 2)) ∧ Cond.instanceMethod mX0_coversWith.1 ∈ gw ∧ Cond.selects mX0_coversWith.1.cls mX0_coversWith.1 mX0_coversWith.1 ∈ gw := ⟨⟨gw_mem 405 (by decide +kernel) (by decide +kernel), gw_mem 70 (by decide +kernel) (by decide +kernel), by decide +kernel, by decide +kernel, by decide +kernel⟩, gw_mem 403 (by decide +kernel) (by decide +kernel), gw_mem 404 (by decide +kernel) (by decide +kernel)⟩
abbrev mX0_chafe : gM := (yX0_chafe, cX0_chafe, 4, some .int, 0, 0)
theorem gm_X0_chafe : (Cond.code mX0_chafe.1 mX0_chafe.2.1 mX0_chafe.2.2.1 mX0_chafe.2.2.2.1 ∈ gw ∧ Cond.initialized mX0_chafe.1.cls ∈ gw ∧ (mX0_chafe.1.cls ≠ "java/lang/invoke/MethodHandle" ∧ mX0_chafe.1.cls ≠ "java/lang/invoke/VarHandle" ∧ (parseMethodDescriptor mX0_chafe.1.desc).map (fun d => d.parameters.length) = some 2)) ∧ Cond.instanceMethod mX0_chafe.1 ∈ gw ∧ Cond.selects mX0_chafe.1.cls mX0_chafe.1 mX0_chafe.1 ∈ gw := ⟨⟨gw_mem 421 (by decide +kernel) (by decide +kernel), gw_mem 70 (by decide +kernel) (by decide +kernel), by decide +kernel, by decide +kernel, by decide +kernel⟩, gw_mem 419 (by decide +kernel) (by decide +kernel), gw_mem 420 (by decide +kernel) (by decide +kernel)⟩
abbrev mX0_bravery : gM := (yX0_bravery, cX0_bravery, 3, some .int, 1, 40)
theorem gm_X0_bravery : (Cond.code mX0_bravery.1 mX0_bravery.2.1 mX0_bravery.2.2.1 mX0_bravery.2.2.2.1 ∈ gw ∧ Cond.initialized mX0_bravery.1.cls ∈ gw ∧ (mX0_bravery.1.cls ≠ "java/lang/invoke/MethodHandle" ∧ mX0_bravery.1.cls ≠ "java/lang/invoke/VarHandle" ∧ (parseMethodDescriptor mX0_bravery.1.desc).map (fun d => d.parameters.length) = some 1)) ∧ Cond.instanceMethod mX0_bravery.1 ∈ gw ∧ Cond.selects mX0_bravery.1.cls mX0_bravery.1 mX0_bravery.1 ∈ gw := ⟨⟨gw_mem 401 (by decide +kernel) (by decide +kernel), gw_mem 70 (by decide +kernel) (by decide +kernel), by decide +kernel, by decide +kernel, by decide +kernel⟩, gw_mem 399 (by decide +kernel) (by decide +kernel), gw_mem 400 (by decide +kernel) (by decide +kernel)⟩
abbrev mX0_braveryCovered : gM := (yX0_braveryCovered, cX0_braveryCovered, 3, some .int, 0, 0)
theorem gm_X0_braveryCovered : (Cond.code mX0_braveryCovered.1 mX0_braveryCovered.2.1 mX0_braveryCovered.2.2.1 mX0_braveryCovered.2.2.2.1 ∈ gw ∧ Cond.initialized mX0_braveryCovered.1.cls ∈ gw ∧ (mX0_braveryCovered.1.cls ≠ "java/lang/invoke/MethodHandle" ∧ mX0_braveryCovered.1.cls ≠ "java/lang/invoke/VarHandle" ∧ (parseMethodDescriptor mX0_braveryCovered.1.desc).map (fun d => d.parameters.length) = some 2)) ∧ Cond.instanceMethod mX0_braveryCovered.1 ∈ gw ∧ Cond.selects mX0_braveryCovered.1.cls mX0_braveryCovered.1 mX0_braveryCovered.1 ∈ gw := ⟨⟨gw_mem 413 (by decide +kernel) (by decide +kernel), gw_mem 70 (by decide +kernel) (by decide +kernel), by decide +kernel, by decide +kernel, by decide +kernel⟩, gw_mem 411 (by decide +kernel) (by decide +kernel), gw_mem 412 (by decide +kernel) (by decide +kernel)⟩
abbrev mX0_can : gM := (yX0_can, cX0_can, 2, some .boolean, 2, 80)
theorem gm_X0_can : (Cond.code mX0_can.1 mX0_can.2.1 mX0_can.2.2.1 mX0_can.2.2.2.1 ∈ gw ∧ Cond.initialized mX0_can.1.cls ∈ gw ∧ (mX0_can.1.cls ≠ "java/lang/invoke/MethodHandle" ∧ mX0_can.1.cls ≠ "java/lang/invoke/VarHandle" ∧ (parseMethodDescriptor mX0_can.1.desc).map (fun d => d.parameters.length) = some 1)) ∧ Cond.instanceMethod mX0_can.1 ∈ gw ∧ Cond.selects mX0_can.1.cls mX0_can.1 mX0_can.1 ∈ gw := ⟨⟨gw_mem 397 (by decide +kernel) (by decide +kernel), gw_mem 70 (by decide +kernel) (by decide +kernel), by decide +kernel, by decide +kernel, by decide +kernel⟩, gw_mem 395 (by decide +kernel) (by decide +kernel), gw_mem 396 (by decide +kernel) (by decide +kernel)⟩
abbrev mX0_canCovered : gM := (yX0_canCovered, cX0_canCovered, 3, some .boolean, 1, 40)
theorem gm_X0_canCovered : (Cond.code mX0_canCovered.1 mX0_canCovered.2.1 mX0_canCovered.2.2.1 mX0_canCovered.2.2.2.1 ∈ gw ∧ Cond.initialized mX0_canCovered.1.cls ∈ gw ∧ (mX0_canCovered.1.cls ≠ "java/lang/invoke/MethodHandle" ∧ mX0_canCovered.1.cls ≠ "java/lang/invoke/VarHandle" ∧ (parseMethodDescriptor mX0_canCovered.1.desc).map (fun d => d.parameters.length) = some 2)) ∧ Cond.instanceMethod mX0_canCovered.1 ∈ gw ∧ Cond.selects mX0_canCovered.1.cls mX0_canCovered.1 mX0_canCovered.1 ∈ gw := ⟨⟨gw_mem 557 (by decide +kernel) (by decide +kernel), gw_mem 70 (by decide +kernel) (by decide +kernel), by decide +kernel, by decide +kernel, by decide +kernel⟩, gw_mem 555 (by decide +kernel) (by decide +kernel), gw_mem 556 (by decide +kernel) (by decide +kernel)⟩
abbrev mX0_needs : gM := (yX0_needs, cX0_needs, 2, some .int, 0, 0)
theorem gm_X0_needs : (Cond.code mX0_needs.1 mX0_needs.2.1 mX0_needs.2.2.1 mX0_needs.2.2.2.1 ∈ gw ∧ Cond.initialized mX0_needs.1.cls ∈ gw ∧ (mX0_needs.1.cls ≠ "java/lang/invoke/MethodHandle" ∧ mX0_needs.1.cls ≠ "java/lang/invoke/VarHandle" ∧ (parseMethodDescriptor mX0_needs.1.desc).map (fun d => d.parameters.length) = some 1)) ∧ Cond.instanceMethod mX0_needs.1 ∈ gw ∧ Cond.selects mX0_needs.1.cls mX0_needs.1 mX0_needs.1 ∈ gw := ⟨⟨gw_mem 417 (by decide +kernel) (by decide +kernel), gw_mem 70 (by decide +kernel) (by decide +kernel), by decide +kernel, by decide +kernel, by decide +kernel⟩, gw_mem 415 (by decide +kernel) (by decide +kernel), gw_mem 416 (by decide +kernel) (by decide +kernel)⟩
abbrev mX0_lacks : gM := (yX0_lacks, cX0_lacks, 2, some .int, 2, 80)
theorem gm_X0_lacks : (Cond.code mX0_lacks.1 mX0_lacks.2.1 mX0_lacks.2.2.1 mX0_lacks.2.2.2.1 ∈ gw ∧ Cond.initialized mX0_lacks.1.cls ∈ gw ∧ (mX0_lacks.1.cls ≠ "java/lang/invoke/MethodHandle" ∧ mX0_lacks.1.cls ≠ "java/lang/invoke/VarHandle" ∧ (parseMethodDescriptor mX0_lacks.1.desc).map (fun d => d.parameters.length) = some 1)) ∧ Cond.instanceMethod mX0_lacks.1 ∈ gw ∧ Cond.selects mX0_lacks.1.cls mX0_lacks.1 mX0_lacks.1 ∈ gw := ⟨⟨gw_mem 466 (by decide +kernel) (by decide +kernel), gw_mem 70 (by decide +kernel) (by decide +kernel), by decide +kernel, by decide +kernel, by decide +kernel⟩, gw_mem 464 (by decide +kernel) (by decide +kernel), gw_mem 465 (by decide +kernel) (by decide +kernel)⟩
abbrev mX0_passDays : gM := (yX0_passDays, cX0_passDays, 4, none, 4, 160)
theorem gm_X0_passDays : (Cond.code mX0_passDays.1 mX0_passDays.2.1 mX0_passDays.2.2.1 mX0_passDays.2.2.2.1 ∈ gw ∧ Cond.initialized mX0_passDays.1.cls ∈ gw ∧ (mX0_passDays.1.cls ≠ "java/lang/invoke/MethodHandle" ∧ mX0_passDays.1.cls ≠ "java/lang/invoke/VarHandle" ∧ (parseMethodDescriptor mX0_passDays.1.desc).map (fun d => d.parameters.length) = some 1)) ∧ Cond.instanceMethod mX0_passDays.1 ∈ gw ∧ Cond.selects mX0_passDays.1.cls mX0_passDays.1 mX0_passDays.1 ∈ gw := ⟨⟨gw_mem 385 (by decide +kernel) (by decide +kernel), gw_mem 70 (by decide +kernel) (by decide +kernel), by decide +kernel, by decide +kernel, by decide +kernel⟩, gw_mem 383 (by decide +kernel) (by decide +kernel), gw_mem 384 (by decide +kernel) (by decide +kernel)⟩
abbrev mX0_passDayOf : gM := (yX0_passDayOf, cX0_passDayOf, 2, none, 4, 160)
theorem gm_X0_passDayOf : (Cond.code mX0_passDayOf.1 mX0_passDayOf.2.1 mX0_passDayOf.2.2.1 mX0_passDayOf.2.2.2.1 ∈ gw ∧ Cond.initialized mX0_passDayOf.1.cls ∈ gw ∧ (mX0_passDayOf.1.cls ≠ "java/lang/invoke/MethodHandle" ∧ mX0_passDayOf.1.cls ≠ "java/lang/invoke/VarHandle" ∧ (parseMethodDescriptor mX0_passDayOf.1.desc).map (fun d => d.parameters.length) = some 1)) ∧ Cond.instanceMethod mX0_passDayOf.1 ∈ gw ∧ Cond.selects mX0_passDayOf.1.cls mX0_passDayOf.1 mX0_passDayOf.1 ∈ gw := ⟨⟨gw_mem 655 (by decide +kernel) (by decide +kernel), gw_mem 70 (by decide +kernel) (by decide +kernel), by decide +kernel, by decide +kernel, by decide +kernel⟩, gw_mem 653 (by decide +kernel) (by decide +kernel), gw_mem 654 (by decide +kernel) (by decide +kernel)⟩
abbrev mX0_liveDay : gM := (yX0_liveDay, cX0_liveDay, 3, none, 3, 120)
theorem gm_X0_liveDay : (Cond.code mX0_liveDay.1 mX0_liveDay.2.1 mX0_liveDay.2.2.1 mX0_liveDay.2.2.2.1 ∈ gw ∧ Cond.initialized mX0_liveDay.1.cls ∈ gw ∧ (mX0_liveDay.1.cls ≠ "java/lang/invoke/MethodHandle" ∧ mX0_liveDay.1.cls ≠ "java/lang/invoke/VarHandle" ∧ (parseMethodDescriptor mX0_liveDay.1.desc).map (fun d => d.parameters.length) = some 1)) ∧ Cond.instanceMethod mX0_liveDay.1 ∈ gw ∧ Cond.selects mX0_liveDay.1.cls mX0_liveDay.1 mX0_liveDay.1 ∈ gw := ⟨⟨gw_mem 389 (by decide +kernel) (by decide +kernel), gw_mem 70 (by decide +kernel) (by decide +kernel), by decide +kernel, by decide +kernel, by decide +kernel⟩, gw_mem 387 (by decide +kernel) (by decide +kernel), gw_mem 388 (by decide +kernel) (by decide +kernel)⟩
abbrev mX0_rustUnworn : gM := (yX0_rustUnworn, cX0_rustUnworn, 2, none, 1, 40)
theorem gm_X0_rustUnworn : (Cond.code mX0_rustUnworn.1 mX0_rustUnworn.2.1 mX0_rustUnworn.2.2.1 mX0_rustUnworn.2.2.2.1 ∈ gw ∧ Cond.initialized mX0_rustUnworn.1.cls ∈ gw ∧ (mX0_rustUnworn.1.cls ≠ "java/lang/invoke/MethodHandle" ∧ mX0_rustUnworn.1.cls ≠ "java/lang/invoke/VarHandle" ∧ (parseMethodDescriptor mX0_rustUnworn.1.desc).map (fun d => d.parameters.length) = some 0)) ∧ Cond.instanceMethod mX0_rustUnworn.1 ∈ gw ∧ Cond.selects mX0_rustUnworn.1.cls mX0_rustUnworn.1 mX0_rustUnworn.1 ∈ gw := ⟨⟨gw_mem 427 (by decide +kernel) (by decide +kernel), gw_mem 70 (by decide +kernel) (by decide +kernel), by decide +kernel, by decide +kernel, by decide +kernel⟩, gw_mem 425 (by decide +kernel) (by decide +kernel), gw_mem 426 (by decide +kernel) (by decide +kernel)⟩
abbrev mX0_rainOnAll : gM := (yX0_rainOnAll, cX0_rainOnAll, 2, none, 1, 40)
theorem gm_X0_rainOnAll : (Cond.code mX0_rainOnAll.1 mX0_rainOnAll.2.1 mX0_rainOnAll.2.2.1 mX0_rainOnAll.2.2.2.1 ∈ gw ∧ Cond.initialized mX0_rainOnAll.1.cls ∈ gw ∧ (mX0_rainOnAll.1.cls ≠ "java/lang/invoke/MethodHandle" ∧ mX0_rainOnAll.1.cls ≠ "java/lang/invoke/VarHandle" ∧ (parseMethodDescriptor mX0_rainOnAll.1.desc).map (fun d => d.parameters.length) = some 0)) ∧ Cond.instanceMethod mX0_rainOnAll.1 ∈ gw ∧ Cond.selects mX0_rainOnAll.1.cls mX0_rainOnAll.1 mX0_rainOnAll.1 ∈ gw := ⟨⟨gw_mem 651 (by decide +kernel) (by decide +kernel), gw_mem 70 (by decide +kernel) (by decide +kernel), by decide +kernel, by decide +kernel, by decide +kernel⟩, gw_mem 649 (by decide +kernel) (by decide +kernel), gw_mem 650 (by decide +kernel) (by decide +kernel)⟩
abbrev mX0_allSaid : gM := (yX0_allSaid, cX0_allSaid, 3, some .int, 0, 0)
theorem gm_X0_allSaid : (Cond.code mX0_allSaid.1 mX0_allSaid.2.1 mX0_allSaid.2.2.1 mX0_allSaid.2.2.2.1 ∈ gw ∧ Cond.initialized mX0_allSaid.1.cls ∈ gw ∧ (mX0_allSaid.1.cls ≠ "java/lang/invoke/MethodHandle" ∧ mX0_allSaid.1.cls ≠ "java/lang/invoke/VarHandle" ∧ (parseMethodDescriptor mX0_allSaid.1.desc).map (fun d => d.parameters.length) = some 0)) ∧ Cond.instanceMethod mX0_allSaid.1 ∈ gw ∧ Cond.selects mX0_allSaid.1.cls mX0_allSaid.1 mX0_allSaid.1 ∈ gw := ⟨⟨gw_mem 510 (by decide +kernel) (by decide +kernel), gw_mem 70 (by decide +kernel) (by decide +kernel), by decide +kernel, by decide +kernel, by decide +kernel⟩, gw_mem 508 (by decide +kernel) (by decide +kernel), gw_mem 509 (by decide +kernel) (by decide +kernel)⟩
abbrev mX0_allFear : gM := (yX0_allFear, cX0_allFear, 3, some .int, 0, 0)
theorem gm_X0_allFear : (Cond.code mX0_allFear.1 mX0_allFear.2.1 mX0_allFear.2.2.1 mX0_allFear.2.2.2.1 ∈ gw ∧ Cond.initialized mX0_allFear.1.cls ∈ gw ∧ (mX0_allFear.1.cls ≠ "java/lang/invoke/MethodHandle" ∧ mX0_allFear.1.cls ≠ "java/lang/invoke/VarHandle" ∧ (parseMethodDescriptor mX0_allFear.1.desc).map (fun d => d.parameters.length) = some 0)) ∧ Cond.instanceMethod mX0_allFear.1 ∈ gw ∧ Cond.selects mX0_allFear.1.cls mX0_allFear.1 mX0_allFear.1 ∈ gw := ⟨⟨gw_mem 708 (by decide +kernel) (by decide +kernel), gw_mem 70 (by decide +kernel) (by decide +kernel), by decide +kernel, by decide +kernel, by decide +kernel⟩, gw_mem 706 (by decide +kernel) (by decide +kernel), gw_mem 707 (by decide +kernel) (by decide +kernel)⟩
abbrev mX1_most : gM := (yX1_most, cX1_most, 4, some .int, 3, 120)
theorem gm_X1_most : (Cond.code mX1_most.1 mX1_most.2.1 mX1_most.2.2.1 mX1_most.2.2.2.1 ∈ gw ∧ Cond.initialized mX1_most.1.cls ∈ gw ∧ (mX1_most.1.cls ≠ "java/lang/invoke/MethodHandle" ∧ mX1_most.1.cls ≠ "java/lang/invoke/VarHandle" ∧ (parseMethodDescriptor mX1_most.1.desc).map (fun d => d.parameters.length) = some 1)) ∧ Cond.instanceMethod mX1_most.1 ∈ gw ∧ Cond.selects mX1_most.1.cls mX1_most.1 mX1_most.1 ∈ gw := ⟨⟨gw_mem 550 (by decide +kernel) (by decide +kernel), gw_mem 72 (by decide +kernel) (by decide +kernel), by decide +kernel, by decide +kernel, by decide +kernel⟩, gw_mem 548 (by decide +kernel) (by decide +kernel), gw_mem 549 (by decide +kernel) (by decide +kernel)⟩
abbrev mX1_suitFor : gM := (yX1_suitFor, cX1_suitFor, 6, some .int, 4, 160)
theorem gm_X1_suitFor : (Cond.code mX1_suitFor.1 mX1_suitFor.2.1 mX1_suitFor.2.2.1 mX1_suitFor.2.2.2.1 ∈ gw ∧ Cond.initialized mX1_suitFor.1.cls ∈ gw ∧ (mX1_suitFor.1.cls ≠ "java/lang/invoke/MethodHandle" ∧ mX1_suitFor.1.cls ≠ "java/lang/invoke/VarHandle" ∧ (parseMethodDescriptor mX1_suitFor.1.desc).map (fun d => d.parameters.length) = some 2)) ∧ Cond.instanceMethod mX1_suitFor.1 ∈ gw ∧ Cond.selects mX1_suitFor.1.cls mX1_suitFor.1 mX1_suitFor.1 ∈ gw := ⟨⟨gw_mem 571 (by decide +kernel) (by decide +kernel), gw_mem 72 (by decide +kernel) (by decide +kernel), by decide +kernel, by decide +kernel, by decide +kernel⟩, gw_mem 569 (by decide +kernel) (by decide +kernel), gw_mem 570 (by decide +kernel) (by decide +kernel)⟩
abbrev mX1_bitsOfCan : gM := (yX1_bitsOfCan, cX1_bitsOfCan, 4, some .int, 2, 80)
theorem gm_X1_bitsOfCan : (Cond.code mX1_bitsOfCan.1 mX1_bitsOfCan.2.1 mX1_bitsOfCan.2.2.1 mX1_bitsOfCan.2.2.2.1 ∈ gw ∧ Cond.initialized mX1_bitsOfCan.1.cls ∈ gw ∧ (mX1_bitsOfCan.1.cls ≠ "java/lang/invoke/MethodHandle" ∧ mX1_bitsOfCan.1.cls ≠ "java/lang/invoke/VarHandle" ∧ (parseMethodDescriptor mX1_bitsOfCan.1.desc).map (fun d => d.parameters.length) = some 2)) ∧ Cond.static mX1_bitsOfCan.1 ∈ gw := ⟨⟨gw_mem 553 (by decide +kernel) (by decide +kernel), gw_mem 72 (by decide +kernel) (by decide +kernel), by decide +kernel, by decide +kernel, by decide +kernel⟩, gw_mem 552 (by decide +kernel) (by decide +kernel)⟩
abbrev mX1_mostOn : gM := (yX1_mostOn, cX1_mostOn, 6, some .int, 1, 40)
theorem gm_X1_mostOn : (Cond.code mX1_mostOn.1 mX1_mostOn.2.1 mX1_mostOn.2.2.1 mX1_mostOn.2.2.2.1 ∈ gw ∧ Cond.initialized mX1_mostOn.1.cls ∈ gw ∧ (mX1_mostOn.1.cls ≠ "java/lang/invoke/MethodHandle" ∧ mX1_mostOn.1.cls ≠ "java/lang/invoke/VarHandle" ∧ (parseMethodDescriptor mX1_mostOn.1.desc).map (fun d => d.parameters.length) = some 3)) ∧ Cond.instanceMethod mX1_mostOn.1 ∈ gw ∧ Cond.selects mX1_mostOn.1.cls mX1_mostOn.1 mX1_mostOn.1 ∈ gw := ⟨⟨gw_mem 562 (by decide +kernel) (by decide +kernel), gw_mem 72 (by decide +kernel) (by decide +kernel), by decide +kernel, by decide +kernel, by decide +kernel⟩, gw_mem 561 (by decide +kernel) (by decide +kernel), gw_mem 10 (by decide +kernel) (by decide +kernel)⟩
abbrev mX1_mostWith : gM := (yX1_mostWith, cX1_mostWith, 4, some .int, 0, 0)
theorem gm_X1_mostWith : (Cond.code mX1_mostWith.1 mX1_mostWith.2.1 mX1_mostWith.2.2.1 mX1_mostWith.2.2.2.1 ∈ gw ∧ Cond.initialized mX1_mostWith.1.cls ∈ gw ∧ (mX1_mostWith.1.cls ≠ "java/lang/invoke/MethodHandle" ∧ mX1_mostWith.1.cls ≠ "java/lang/invoke/VarHandle" ∧ (parseMethodDescriptor mX1_mostWith.1.desc).map (fun d => d.parameters.length) = some 3)) ∧ Cond.instanceMethod mX1_mostWith.1 ∈ gw ∧ Cond.selects mX1_mostWith.1.cls mX1_mostWith.1 mX1_mostWith.1 ∈ gw := ⟨⟨gw_mem 566 (by decide +kernel) (by decide +kernel), gw_mem 72 (by decide +kernel) (by decide +kernel), by decide +kernel, by decide +kernel, by decide +kernel⟩, gw_mem 565 (by decide +kernel) (by decide +kernel), gw_mem 11 (by decide +kernel) (by decide +kernel)⟩
abbrev mX1_firstBest : gM := (yX1_firstBest, cX1_firstBest, 6, some .int, 1, 40)
theorem gm_X1_firstBest : (Cond.code mX1_firstBest.1 mX1_firstBest.2.1 mX1_firstBest.2.2.1 mX1_firstBest.2.2.2.1 ∈ gw ∧ Cond.initialized mX1_firstBest.1.cls ∈ gw ∧ (mX1_firstBest.1.cls ≠ "java/lang/invoke/MethodHandle" ∧ mX1_firstBest.1.cls ≠ "java/lang/invoke/VarHandle" ∧ (parseMethodDescriptor mX1_firstBest.1.desc).map (fun d => d.parameters.length) = some 3)) ∧ Cond.instanceMethod mX1_firstBest.1 ∈ gw ∧ Cond.selects mX1_firstBest.1.cls mX1_firstBest.1 mX1_firstBest.1 ∈ gw := ⟨⟨gw_mem 576 (by decide +kernel) (by decide +kernel), gw_mem 72 (by decide +kernel) (by decide +kernel), by decide +kernel, by decide +kernel, by decide +kernel⟩, gw_mem 575 (by decide +kernel) (by decide +kernel), gw_mem 12 (by decide +kernel) (by decide +kernel)⟩
abbrev mX2_add : gM := (yX2_add, cX2_add, 2, some .int, 0, 0)
theorem gm_X2_add : (Cond.code mX2_add.1 mX2_add.2.1 mX2_add.2.2.1 mX2_add.2.2.2.1 ∈ gw ∧ Cond.initialized mX2_add.1.cls ∈ gw ∧ (mX2_add.1.cls ≠ "java/lang/invoke/MethodHandle" ∧ mX2_add.1.cls ≠ "java/lang/invoke/VarHandle" ∧ (parseMethodDescriptor mX2_add.1.desc).map (fun d => d.parameters.length) = some 1)) ∧ Cond.instanceMethod mX2_add.1 ∈ gw ∧ Cond.selects mX2_add.1.cls mX2_add.1 mX2_add.1 ∈ gw := ⟨⟨gw_mem 228 (by decide +kernel) (by decide +kernel), gw_mem 71 (by decide +kernel) (by decide +kernel), by decide +kernel, by decide +kernel, by decide +kernel⟩, gw_mem 226 (by decide +kernel) (by decide +kernel), gw_mem 227 (by decide +kernel) (by decide +kernel)⟩
abbrev mX2_wrongPlace : gM := (yX2_wrongPlace, cX2_wrongPlace, 3, some .int, 5, 200)
theorem gm_X2_wrongPlace : (Cond.code mX2_wrongPlace.1 mX2_wrongPlace.2.1 mX2_wrongPlace.2.2.1 mX2_wrongPlace.2.2.2.1 ∈ gw ∧ Cond.initialized mX2_wrongPlace.1.cls ∈ gw ∧ (mX2_wrongPlace.1.cls ≠ "java/lang/invoke/MethodHandle" ∧ mX2_wrongPlace.1.cls ≠ "java/lang/invoke/VarHandle" ∧ (parseMethodDescriptor mX2_wrongPlace.1.desc).map (fun d => d.parameters.length) = some 0)) ∧ Cond.instanceMethod mX2_wrongPlace.1 ∈ gw ∧ Cond.selects mX2_wrongPlace.1.cls mX2_wrongPlace.1 mX2_wrongPlace.1 ∈ gw := ⟨⟨gw_mem 236 (by decide +kernel) (by decide +kernel), gw_mem 71 (by decide +kernel) (by decide +kernel), by decide +kernel, by decide +kernel, by decide +kernel⟩, gw_mem 234 (by decide +kernel) (by decide +kernel), gw_mem 235 (by decide +kernel) (by decide +kernel)⟩
abbrev mX2_fits : gM := (yX2_fits, cX2_fits, 4, some .boolean, 4, 160)
theorem gm_X2_fits : (Cond.code mX2_fits.1 mX2_fits.2.1 mX2_fits.2.2.1 mX2_fits.2.2.2.1 ∈ gw ∧ Cond.initialized mX2_fits.1.cls ∈ gw ∧ (mX2_fits.1.cls ≠ "java/lang/invoke/MethodHandle" ∧ mX2_fits.1.cls ≠ "java/lang/invoke/VarHandle" ∧ (parseMethodDescriptor mX2_fits.1.desc).map (fun d => d.parameters.length) = some 2)) ∧ Cond.instanceMethod mX2_fits.1 ∈ gw ∧ Cond.selects mX2_fits.1.cls mX2_fits.1 mX2_fits.1 ∈ gw := ⟨⟨gw_mem 240 (by decide +kernel) (by decide +kernel), gw_mem 71 (by decide +kernel) (by decide +kernel), by decide +kernel, by decide +kernel, by decide +kernel⟩, gw_mem 239 (by decide +kernel) (by decide +kernel), gw_mem 1 (by decide +kernel) (by decide +kernel)⟩
abbrev mX2_signsBehind : gM := (yX2_signsBehind, cX2_signsBehind, 1, some .int, 0, 0)
theorem gm_X2_signsBehind : (Cond.code mX2_signsBehind.1 mX2_signsBehind.2.1 mX2_signsBehind.2.2.1 mX2_signsBehind.2.2.2.1 ∈ gw ∧ Cond.initialized mX2_signsBehind.1.cls ∈ gw ∧ (mX2_signsBehind.1.cls ≠ "java/lang/invoke/MethodHandle" ∧ mX2_signsBehind.1.cls ≠ "java/lang/invoke/VarHandle" ∧ (parseMethodDescriptor mX2_signsBehind.1.desc).map (fun d => d.parameters.length) = some 1)) ∧ Cond.static mX2_signsBehind.1 ∈ gw := ⟨⟨gw_mem 243 (by decide +kernel) (by decide +kernel), gw_mem 71 (by decide +kernel) (by decide +kernel), by decide +kernel, by decide +kernel, by decide +kernel⟩, gw_mem 242 (by decide +kernel) (by decide +kernel)⟩
abbrev mX2_lengthAt : gM := (yX2_lengthAt, cX2_lengthAt, 2, some .int, 1, 40)
theorem gm_X2_lengthAt : (Cond.code mX2_lengthAt.1 mX2_lengthAt.2.1 mX2_lengthAt.2.2.1 mX2_lengthAt.2.2.2.1 ∈ gw ∧ Cond.initialized mX2_lengthAt.1.cls ∈ gw ∧ (mX2_lengthAt.1.cls ≠ "java/lang/invoke/MethodHandle" ∧ mX2_lengthAt.1.cls ≠ "java/lang/invoke/VarHandle" ∧ (parseMethodDescriptor mX2_lengthAt.1.desc).map (fun d => d.parameters.length) = some 1)) ∧ Cond.instanceMethod mX2_lengthAt.1 ∈ gw ∧ Cond.selects mX2_lengthAt.1.cls mX2_lengthAt.1 mX2_lengthAt.1 ∈ gw := ⟨⟨gw_mem 431 (by decide +kernel) (by decide +kernel), gw_mem 71 (by decide +kernel) (by decide +kernel), by decide +kernel, by decide +kernel, by decide +kernel⟩, gw_mem 429 (by decide +kernel) (by decide +kernel), gw_mem 430 (by decide +kernel) (by decide +kernel)⟩
abbrev mX2_takes : gM := (yX2_takes, cX2_takes, 6, some .boolean, 5, 200)
theorem gm_X2_takes : (Cond.code mX2_takes.1 mX2_takes.2.1 mX2_takes.2.2.1 mX2_takes.2.2.2.1 ∈ gw ∧ Cond.initialized mX2_takes.1.cls ∈ gw ∧ (mX2_takes.1.cls ≠ "java/lang/invoke/MethodHandle" ∧ mX2_takes.1.cls ≠ "java/lang/invoke/VarHandle" ∧ (parseMethodDescriptor mX2_takes.1.desc).map (fun d => d.parameters.length) = some 2)) ∧ Cond.instanceMethod mX2_takes.1 ∈ gw ∧ Cond.selects mX2_takes.1.cls mX2_takes.1 mX2_takes.1 ∈ gw := ⟨⟨gw_mem 345 (by decide +kernel) (by decide +kernel), gw_mem 71 (by decide +kernel) (by decide +kernel), by decide +kernel, by decide +kernel, by decide +kernel⟩, gw_mem 343 (by decide +kernel) (by decide +kernel), gw_mem 344 (by decide +kernel) (by decide +kernel)⟩
abbrev mX2_digit : gM := (yX2_digit, cX2_digit, 2, some .int, 0, 0)
theorem gm_X2_digit : (Cond.code mX2_digit.1 mX2_digit.2.1 mX2_digit.2.2.1 mX2_digit.2.2.2.1 ∈ gw ∧ Cond.initialized mX2_digit.1.cls ∈ gw ∧ (mX2_digit.1.cls ≠ "java/lang/invoke/MethodHandle" ∧ mX2_digit.1.cls ≠ "java/lang/invoke/VarHandle" ∧ (parseMethodDescriptor mX2_digit.1.desc).map (fun d => d.parameters.length) = some 1)) ∧ Cond.instanceMethod mX2_digit.1 ∈ gw ∧ Cond.selects mX2_digit.1.cls mX2_digit.1 mX2_digit.1 ∈ gw := ⟨⟨gw_mem 349 (by decide +kernel) (by decide +kernel), gw_mem 71 (by decide +kernel) (by decide +kernel), by decide +kernel, by decide +kernel, by decide +kernel⟩, gw_mem 348 (by decide +kernel) (by decide +kernel), gw_mem 3 (by decide +kernel) (by decide +kernel)⟩
abbrev mX2_number : gM := (yX2_number, cX2_number, 2, some .int, 1, 40)
theorem gm_X2_number : (Cond.code mX2_number.1 mX2_number.2.1 mX2_number.2.2.1 mX2_number.2.2.2.1 ∈ gw ∧ Cond.initialized mX2_number.1.cls ∈ gw ∧ (mX2_number.1.cls ≠ "java/lang/invoke/MethodHandle" ∧ mX2_number.1.cls ≠ "java/lang/invoke/VarHandle" ∧ (parseMethodDescriptor mX2_number.1.desc).map (fun d => d.parameters.length) = some 1)) ∧ Cond.instanceMethod mX2_number.1 ∈ gw ∧ Cond.selects mX2_number.1.cls mX2_number.1 mX2_number.1 ∈ gw := ⟨⟨gw_mem 357 (by decide +kernel) (by decide +kernel), gw_mem 71 (by decide +kernel) (by decide +kernel), by decide +kernel, by decide +kernel, by decide +kernel⟩, gw_mem 356 (by decide +kernel) (by decide +kernel), gw_mem 4 (by decide +kernel) (by decide +kernel)⟩
abbrev mX2_takesWearing : gM := (yX2_takesWearing, cX2_takesWearing, 3, some .boolean, 2, 80)
theorem gm_X2_takesWearing : (Cond.code mX2_takesWearing.1 mX2_takesWearing.2.1 mX2_takesWearing.2.2.1 mX2_takesWearing.2.2.2.1 ∈ gw ∧ Cond.initialized mX2_takesWearing.1.cls ∈ gw ∧ (mX2_takesWearing.1.cls ≠ "java/lang/invoke/MethodHandle" ∧ mX2_takesWearing.1.cls ≠ "java/lang/invoke/VarHandle" ∧ (parseMethodDescriptor mX2_takesWearing.1.desc).map (fun d => d.parameters.length) = some 3)) ∧ Cond.static mX2_takesWearing.1 ∈ gw := ⟨⟨gw_mem 364 (by decide +kernel) (by decide +kernel), gw_mem 71 (by decide +kernel) (by decide +kernel), by decide +kernel, by decide +kernel, by decide +kernel⟩, gw_mem 363 (by decide +kernel) (by decide +kernel)⟩
abbrev mX2_takesUndressing : gM := (yX2_takesUndressing, cX2_takesUndressing, 2, some .boolean, 0, 0)
theorem gm_X2_takesUndressing : (Cond.code mX2_takesUndressing.1 mX2_takesUndressing.2.1 mX2_takesUndressing.2.2.1 mX2_takesUndressing.2.2.2.1 ∈ gw ∧ Cond.initialized mX2_takesUndressing.1.cls ∈ gw ∧ (mX2_takesUndressing.1.cls ≠ "java/lang/invoke/MethodHandle" ∧ mX2_takesUndressing.1.cls ≠ "java/lang/invoke/VarHandle" ∧ (parseMethodDescriptor mX2_takesUndressing.1.desc).map (fun d => d.parameters.length) = some 2)) ∧ Cond.static mX2_takesUndressing.1 ∈ gw := ⟨⟨gw_mem 375 (by decide +kernel) (by decide +kernel), gw_mem 71 (by decide +kernel) (by decide +kernel), by decide +kernel, by decide +kernel, by decide +kernel⟩, gw_mem 374 (by decide +kernel) (by decide +kernel)⟩
abbrev mX2_takesFear : gM := (yX2_takesFear, cX2_takesFear, 3, some .boolean, 0, 0)
theorem gm_X2_takesFear : (Cond.code mX2_takesFear.1 mX2_takesFear.2.1 mX2_takesFear.2.2.1 mX2_takesFear.2.2.2.1 ∈ gw ∧ Cond.initialized mX2_takesFear.1.cls ∈ gw ∧ (mX2_takesFear.1.cls ≠ "java/lang/invoke/MethodHandle" ∧ mX2_takesFear.1.cls ≠ "java/lang/invoke/VarHandle" ∧ (parseMethodDescriptor mX2_takesFear.1.desc).map (fun d => d.parameters.length) = some 3)) ∧ Cond.static mX2_takesFear.1 ∈ gw := ⟨⟨gw_mem 378 (by decide +kernel) (by decide +kernel), gw_mem 71 (by decide +kernel) (by decide +kernel), by decide +kernel, by decide +kernel, by decide +kernel⟩, gw_mem 377 (by decide +kernel) (by decide +kernel)⟩
abbrev mX2_takesRust : gM := (yX2_takesRust, cX2_takesRust, 3, some .boolean, 0, 0)
theorem gm_X2_takesRust : (Cond.code mX2_takesRust.1 mX2_takesRust.2.1 mX2_takesRust.2.2.1 mX2_takesRust.2.2.2.1 ∈ gw ∧ Cond.initialized mX2_takesRust.1.cls ∈ gw ∧ (mX2_takesRust.1.cls ≠ "java/lang/invoke/MethodHandle" ∧ mX2_takesRust.1.cls ≠ "java/lang/invoke/VarHandle" ∧ (parseMethodDescriptor mX2_takesRust.1.desc).map (fun d => d.parameters.length) = some 3)) ∧ Cond.static mX2_takesRust.1 ∈ gw := ⟨⟨gw_mem 381 (by decide +kernel) (by decide +kernel), gw_mem 71 (by decide +kernel) (by decide +kernel), by decide +kernel, by decide +kernel, by decide +kernel⟩, gw_mem 380 (by decide +kernel) (by decide +kernel)⟩
abbrev mX3_letter : gM := (yX3_letter, cX3_letter, 3, some .int, 1, 40)
theorem gm_X3_letter : (Cond.code mX3_letter.1 mX3_letter.2.1 mX3_letter.2.2.1 mX3_letter.2.2.2.1 ∈ gw ∧ Cond.initialized mX3_letter.1.cls ∈ gw ∧ (mX3_letter.1.cls ≠ "java/lang/invoke/MethodHandle" ∧ mX3_letter.1.cls ≠ "java/lang/invoke/VarHandle" ∧ (parseMethodDescriptor mX3_letter.1.desc).map (fun d => d.parameters.length) = some 1)) ∧ Cond.instanceMethod mX3_letter.1 ∈ gw ∧ Cond.selects mX3_letter.1.cls mX3_letter.1 mX3_letter.1 ∈ gw := ⟨⟨gw_mem 217 (by decide +kernel) (by decide +kernel), gw_mem 69 (by decide +kernel) (by decide +kernel), by decide +kernel, by decide +kernel, by decide +kernel⟩, gw_mem 215 (by decide +kernel) (by decide +kernel), gw_mem 216 (by decide +kernel) (by decide +kernel)⟩
abbrev mX3_city : gM := (yX3_city, cX3_city, 4, some .int, 6, 240)
theorem gm_X3_city : (Cond.code mX3_city.1 mX3_city.2.1 mX3_city.2.2.1 mX3_city.2.2.2.1 ∈ gw ∧ Cond.initialized mX3_city.1.cls ∈ gw ∧ (mX3_city.1.cls ≠ "java/lang/invoke/MethodHandle" ∧ mX3_city.1.cls ≠ "java/lang/invoke/VarHandle" ∧ (parseMethodDescriptor mX3_city.1.desc).map (fun d => d.parameters.length) = some 0)) ∧ Cond.instanceMethod mX3_city.1 ∈ gw ∧ Cond.selects mX3_city.1.cls mX3_city.1 mX3_city.1 ∈ gw := ⟨⟨gw_mem 232 (by decide +kernel) (by decide +kernel), gw_mem 69 (by decide +kernel) (by decide +kernel), by decide +kernel, by decide +kernel, by decide +kernel⟩, gw_mem 230 (by decide +kernel) (by decide +kernel), gw_mem 231 (by decide +kernel) (by decide +kernel)⟩
abbrev mX3_suit : gM := (yX3_suit, cX3_suit, 4, some .int, 2, 80)
theorem gm_X3_suit : (Cond.code mX3_suit.1 mX3_suit.2.1 mX3_suit.2.2.1 mX3_suit.2.2.2.1 ∈ gw ∧ Cond.initialized mX3_suit.1.cls ∈ gw ∧ (mX3_suit.1.cls ≠ "java/lang/invoke/MethodHandle" ∧ mX3_suit.1.cls ≠ "java/lang/invoke/VarHandle" ∧ (parseMethodDescriptor mX3_suit.1.desc).map (fun d => d.parameters.length) = some 2)) ∧ Cond.instanceMethod mX3_suit.1 ∈ gw ∧ Cond.selects mX3_suit.1.cls mX3_suit.1 mX3_suit.1 ∈ gw := ⟨⟨gw_mem 436 (by decide +kernel) (by decide +kernel), gw_mem 69 (by decide +kernel) (by decide +kernel), by decide +kernel, by decide +kernel, by decide +kernel⟩, gw_mem 434 (by decide +kernel) (by decide +kernel), gw_mem 435 (by decide +kernel) (by decide +kernel)⟩
abbrev mX3_caller : gM := (yX3_caller, cX3_caller, 4, some .int, 3, 120)
theorem gm_X3_caller : (Cond.code mX3_caller.1 mX3_caller.2.1 mX3_caller.2.2.1 mX3_caller.2.2.2.1 ∈ gw ∧ Cond.initialized mX3_caller.1.cls ∈ gw ∧ (mX3_caller.1.cls ≠ "java/lang/invoke/MethodHandle" ∧ mX3_caller.1.cls ≠ "java/lang/invoke/VarHandle" ∧ (parseMethodDescriptor mX3_caller.1.desc).map (fun d => d.parameters.length) = some 2)) ∧ Cond.instanceMethod mX3_caller.1 ∈ gw ∧ Cond.selects mX3_caller.1.cls mX3_caller.1 mX3_caller.1 ∈ gw := ⟨⟨gw_mem 457 (by decide +kernel) (by decide +kernel), gw_mem 69 (by decide +kernel) (by decide +kernel), by decide +kernel, by decide +kernel, by decide +kernel⟩, gw_mem 455 (by decide +kernel) (by decide +kernel), gw_mem 456 (by decide +kernel) (by decide +kernel)⟩
abbrev mX3_courage : gM := (yX3_courage, cX3_courage, 3, some .int, 2, 80)
theorem gm_X3_courage : (Cond.code mX3_courage.1 mX3_courage.2.1 mX3_courage.2.2.1 mX3_courage.2.2.2.1 ∈ gw ∧ Cond.initialized mX3_courage.1.cls ∈ gw ∧ (mX3_courage.1.cls ≠ "java/lang/invoke/MethodHandle" ∧ mX3_courage.1.cls ≠ "java/lang/invoke/VarHandle" ∧ (parseMethodDescriptor mX3_courage.1.desc).map (fun d => d.parameters.length) = some 1)) ∧ Cond.instanceMethod mX3_courage.1 ∈ gw ∧ Cond.selects mX3_courage.1.cls mX3_courage.1 mX3_courage.1 ∈ gw := ⟨⟨gw_mem 470 (by decide +kernel) (by decide +kernel), gw_mem 69 (by decide +kernel) (by decide +kernel), by decide +kernel, by decide +kernel, by decide +kernel⟩, gw_mem 468 (by decide +kernel) (by decide +kernel), gw_mem 469 (by decide +kernel) (by decide +kernel)⟩
abbrev mX3_wears : gM := (yX3_wears, cX3_wears, 5, some .int, 2, 80)
theorem gm_X3_wears : (Cond.code mX3_wears.1 mX3_wears.2.1 mX3_wears.2.2.1 mX3_wears.2.2.2.1 ∈ gw ∧ Cond.initialized mX3_wears.1.cls ∈ gw ∧ (mX3_wears.1.cls ≠ "java/lang/invoke/MethodHandle" ∧ mX3_wears.1.cls ≠ "java/lang/invoke/VarHandle" ∧ (parseMethodDescriptor mX3_wears.1.desc).map (fun d => d.parameters.length) = some 2)) ∧ Cond.instanceMethod mX3_wears.1 ∈ gw ∧ Cond.selects mX3_wears.1.cls mX3_wears.1 mX3_wears.1 ∈ gw := ⟨⟨gw_mem 476 (by decide +kernel) (by decide +kernel), gw_mem 69 (by decide +kernel) (by decide +kernel), by decide +kernel, by decide +kernel, by decide +kernel⟩, gw_mem 474 (by decide +kernel) (by decide +kernel), gw_mem 475 (by decide +kernel) (by decide +kernel)⟩
abbrev mX3_takesOff : gM := (yX3_takesOff, cX3_takesOff, 4, some .int, 2, 80)
theorem gm_X3_takesOff : (Cond.code mX3_takesOff.1 mX3_takesOff.2.1 mX3_takesOff.2.2.1 mX3_takesOff.2.2.2.1 ∈ gw ∧ Cond.initialized mX3_takesOff.1.cls ∈ gw ∧ (mX3_takesOff.1.cls ≠ "java/lang/invoke/MethodHandle" ∧ mX3_takesOff.1.cls ≠ "java/lang/invoke/VarHandle" ∧ (parseMethodDescriptor mX3_takesOff.1.desc).map (fun d => d.parameters.length) = some 1)) ∧ Cond.instanceMethod mX3_takesOff.1 ∈ gw ∧ Cond.selects mX3_takesOff.1.cls mX3_takesOff.1 mX3_takesOff.1 ∈ gw := ⟨⟨gw_mem 481 (by decide +kernel) (by decide +kernel), gw_mem 69 (by decide +kernel) (by decide +kernel), by decide +kernel, by decide +kernel, by decide +kernel⟩, gw_mem 479 (by decide +kernel) (by decide +kernel), gw_mem 480 (by decide +kernel) (by decide +kernel)⟩
abbrev mX3_fears : gM := (yX3_fears, cX3_fears, 5, some .int, 1, 40)
theorem gm_X3_fears : (Cond.code mX3_fears.1 mX3_fears.2.1 mX3_fears.2.2.1 mX3_fears.2.2.2.1 ∈ gw ∧ Cond.initialized mX3_fears.1.cls ∈ gw ∧ (mX3_fears.1.cls ≠ "java/lang/invoke/MethodHandle" ∧ mX3_fears.1.cls ≠ "java/lang/invoke/VarHandle" ∧ (parseMethodDescriptor mX3_fears.1.desc).map (fun d => d.parameters.length) = some 2)) ∧ Cond.instanceMethod mX3_fears.1 ∈ gw ∧ Cond.selects mX3_fears.1.cls mX3_fears.1 mX3_fears.1 ∈ gw := ⟨⟨gw_mem 489 (by decide +kernel) (by decide +kernel), gw_mem 69 (by decide +kernel) (by decide +kernel), by decide +kernel, by decide +kernel, by decide +kernel⟩, gw_mem 487 (by decide +kernel) (by decide +kernel), gw_mem 488 (by decide +kernel) (by decide +kernel)⟩
abbrev mX3_rusts : gM := (yX3_rusts, cX3_rusts, 5, some .int, 1, 40)
theorem gm_X3_rusts : (Cond.code mX3_rusts.1 mX3_rusts.2.1 mX3_rusts.2.2.1 mX3_rusts.2.2.2.1 ∈ gw ∧ Cond.initialized mX3_rusts.1.cls ∈ gw ∧ (mX3_rusts.1.cls ≠ "java/lang/invoke/MethodHandle" ∧ mX3_rusts.1.cls ≠ "java/lang/invoke/VarHandle" ∧ (parseMethodDescriptor mX3_rusts.1.desc).map (fun d => d.parameters.length) = some 2)) ∧ Cond.instanceMethod mX3_rusts.1 ∈ gw ∧ Cond.selects mX3_rusts.1.cls mX3_rusts.1 mX3_rusts.1 ∈ gw := ⟨⟨gw_mem 493 (by decide +kernel) (by decide +kernel), gw_mem 69 (by decide +kernel) (by decide +kernel), by decide +kernel, by decide +kernel, by decide +kernel⟩, gw_mem 491 (by decide +kernel) (by decide +kernel), gw_mem 492 (by decide +kernel) (by decide +kernel)⟩
abbrev mX3_soothes : gM := (yX3_soothes, cX3_soothes, 5, some .int, 1, 40)
theorem gm_X3_soothes : (Cond.code mX3_soothes.1 mX3_soothes.2.1 mX3_soothes.2.2.1 mX3_soothes.2.2.2.1 ∈ gw ∧ Cond.initialized mX3_soothes.1.cls ∈ gw ∧ (mX3_soothes.1.cls ≠ "java/lang/invoke/MethodHandle" ∧ mX3_soothes.1.cls ≠ "java/lang/invoke/VarHandle" ∧ (parseMethodDescriptor mX3_soothes.1.desc).map (fun d => d.parameters.length) = some 2)) ∧ Cond.instanceMethod mX3_soothes.1 ∈ gw ∧ Cond.selects mX3_soothes.1.cls mX3_soothes.1 mX3_soothes.1 ∈ gw := ⟨⟨gw_mem 497 (by decide +kernel) (by decide +kernel), gw_mem 69 (by decide +kernel) (by decide +kernel), by decide +kernel, by decide +kernel, by decide +kernel⟩, gw_mem 495 (by decide +kernel) (by decide +kernel), gw_mem 496 (by decide +kernel) (by decide +kernel)⟩
abbrev mX3_turn : gM := (yX3_turn, cX3_turn, 6, some .int, 1, 40)
theorem gm_X3_turn : (Cond.code mX3_turn.1 mX3_turn.2.1 mX3_turn.2.2.1 mX3_turn.2.2.2.1 ∈ gw ∧ Cond.initialized mX3_turn.1.cls ∈ gw ∧ (mX3_turn.1.cls ≠ "java/lang/invoke/MethodHandle" ∧ mX3_turn.1.cls ≠ "java/lang/invoke/VarHandle" ∧ (parseMethodDescriptor mX3_turn.1.desc).map (fun d => d.parameters.length) = some 3)) ∧ Cond.instanceMethod mX3_turn.1 ∈ gw ∧ Cond.selects mX3_turn.1.cls mX3_turn.1 mX3_turn.1 ∈ gw := ⟨⟨gw_mem 501 (by decide +kernel) (by decide +kernel), gw_mem 69 (by decide +kernel) (by decide +kernel), by decide +kernel, by decide +kernel, by decide +kernel⟩, gw_mem 499 (by decide +kernel) (by decide +kernel), gw_mem 500 (by decide +kernel) (by decide +kernel)⟩
abbrev mX3_days : gM := (yX3_days, cX3_days, 3, some .int, 5, 200)
theorem gm_X3_days : (Cond.code mX3_days.1 mX3_days.2.1 mX3_days.2.2.1 mX3_days.2.2.2.1 ∈ gw ∧ Cond.initialized mX3_days.1.cls ∈ gw ∧ (mX3_days.1.cls ≠ "java/lang/invoke/MethodHandle" ∧ mX3_days.1.cls ≠ "java/lang/invoke/VarHandle" ∧ (parseMethodDescriptor mX3_days.1.desc).map (fun d => d.parameters.length) = some 1)) ∧ Cond.instanceMethod mX3_days.1 ∈ gw ∧ Cond.selects mX3_days.1.cls mX3_days.1 mX3_days.1 ∈ gw := ⟨⟨gw_mem 505 (by decide +kernel) (by decide +kernel), gw_mem 69 (by decide +kernel) (by decide +kernel), by decide +kernel, by decide +kernel, by decide +kernel⟩, gw_mem 503 (by decide +kernel) (by decide +kernel), gw_mem 504 (by decide +kernel) (by decide +kernel)⟩
abbrev mX3_callerThen : gM := (yX3_callerThen, cX3_callerThen, 5, some .int, 5, 200)
theorem gm_X3_callerThen : (Cond.code mX3_callerThen.1 mX3_callerThen.2.1 mX3_callerThen.2.2.1 mX3_callerThen.2.2.2.1 ∈ gw ∧ Cond.initialized mX3_callerThen.1.cls ∈ gw ∧ (mX3_callerThen.1.cls ≠ "java/lang/invoke/MethodHandle" ∧ mX3_callerThen.1.cls ≠ "java/lang/invoke/VarHandle" ∧ (parseMethodDescriptor mX3_callerThen.1.desc).map (fun d => d.parameters.length) = some 3)) ∧ Cond.instanceMethod mX3_callerThen.1 ∈ gw ∧ Cond.selects mX3_callerThen.1.cls mX3_callerThen.1 mX3_callerThen.1 ∈ gw := ⟨⟨gw_mem 514 (by decide +kernel) (by decide +kernel), gw_mem 69 (by decide +kernel) (by decide +kernel), by decide +kernel, by decide +kernel, by decide +kernel⟩, gw_mem 512 (by decide +kernel) (by decide +kernel), gw_mem 513 (by decide +kernel) (by decide +kernel)⟩
abbrev mX3_suitThen : gM := (yX3_suitThen, cX3_suitThen, 4, some .int, 5, 200)
theorem gm_X3_suitThen : (Cond.code mX3_suitThen.1 mX3_suitThen.2.1 mX3_suitThen.2.2.1 mX3_suitThen.2.2.2.1 ∈ gw ∧ Cond.initialized mX3_suitThen.1.cls ∈ gw ∧ (mX3_suitThen.1.cls ≠ "java/lang/invoke/MethodHandle" ∧ mX3_suitThen.1.cls ≠ "java/lang/invoke/VarHandle" ∧ (parseMethodDescriptor mX3_suitThen.1.desc).map (fun d => d.parameters.length) = some 2)) ∧ Cond.instanceMethod mX3_suitThen.1 ∈ gw ∧ Cond.selects mX3_suitThen.1.cls mX3_suitThen.1 mX3_suitThen.1 ∈ gw := ⟨⟨gw_mem 518 (by decide +kernel) (by decide +kernel), gw_mem 69 (by decide +kernel) (by decide +kernel), by decide +kernel, by decide +kernel, by decide +kernel⟩, gw_mem 516 (by decide +kernel) (by decide +kernel), gw_mem 517 (by decide +kernel) (by decide +kernel)⟩
abbrev mX3_cost : gM := (yX3_cost, cX3_cost, 3, some .int, 5, 200)
theorem gm_X3_cost : (Cond.code mX3_cost.1 mX3_cost.2.1 mX3_cost.2.2.1 mX3_cost.2.2.2.1 ∈ gw ∧ Cond.initialized mX3_cost.1.cls ∈ gw ∧ (mX3_cost.1.cls ≠ "java/lang/invoke/MethodHandle" ∧ mX3_cost.1.cls ≠ "java/lang/invoke/VarHandle" ∧ (parseMethodDescriptor mX3_cost.1.desc).map (fun d => d.parameters.length) = some 1)) ∧ Cond.instanceMethod mX3_cost.1 ∈ gw ∧ Cond.selects mX3_cost.1.cls mX3_cost.1 mX3_cost.1 ∈ gw := ⟨⟨gw_mem 522 (by decide +kernel) (by decide +kernel), gw_mem 69 (by decide +kernel) (by decide +kernel), by decide +kernel, by decide +kernel, by decide +kernel⟩, gw_mem 520 (by decide +kernel) (by decide +kernel), gw_mem 521 (by decide +kernel) (by decide +kernel)⟩
abbrev mX3_proposes : gM := (yX3_proposes, cX3_proposes, 4, some .int, 6, 240)
theorem gm_X3_proposes : (Cond.code mX3_proposes.1 mX3_proposes.2.1 mX3_proposes.2.2.1 mX3_proposes.2.2.2.1 ∈ gw ∧ Cond.initialized mX3_proposes.1.cls ∈ gw ∧ (mX3_proposes.1.cls ≠ "java/lang/invoke/MethodHandle" ∧ mX3_proposes.1.cls ≠ "java/lang/invoke/VarHandle" ∧ (parseMethodDescriptor mX3_proposes.1.desc).map (fun d => d.parameters.length) = some 1)) ∧ Cond.instanceMethod mX3_proposes.1 ∈ gw ∧ Cond.selects mX3_proposes.1.cls mX3_proposes.1 mX3_proposes.1 ∈ gw := ⟨⟨gw_mem 526 (by decide +kernel) (by decide +kernel), gw_mem 69 (by decide +kernel) (by decide +kernel), by decide +kernel, by decide +kernel, by decide +kernel⟩, gw_mem 524 (by decide +kernel) (by decide +kernel), gw_mem 525 (by decide +kernel) (by decide +kernel)⟩
abbrev mX3_out : gM := (yX3_out, cX3_out, 4, some .int, 5, 200)
theorem gm_X3_out : (Cond.code mX3_out.1 mX3_out.2.1 mX3_out.2.2.1 mX3_out.2.2.2.1 ∈ gw ∧ Cond.initialized mX3_out.1.cls ∈ gw ∧ (mX3_out.1.cls ≠ "java/lang/invoke/MethodHandle" ∧ mX3_out.1.cls ≠ "java/lang/invoke/VarHandle" ∧ (parseMethodDescriptor mX3_out.1.desc).map (fun d => d.parameters.length) = some 1)) ∧ Cond.instanceMethod mX3_out.1 ∈ gw ∧ Cond.selects mX3_out.1.cls mX3_out.1 mX3_out.1 ∈ gw := ⟨⟨gw_mem 534 (by decide +kernel) (by decide +kernel), gw_mem 69 (by decide +kernel) (by decide +kernel), by decide +kernel, by decide +kernel, by decide +kernel⟩, gw_mem 532 (by decide +kernel) (by decide +kernel), gw_mem 533 (by decide +kernel) (by decide +kernel)⟩
abbrev mX3_still : gM := (yX3_still, cX3_still, 2, some .int, 6, 240)
theorem gm_X3_still : (Cond.code mX3_still.1 mX3_still.2.1 mX3_still.2.2.1 mX3_still.2.2.2.1 ∈ gw ∧ Cond.initialized mX3_still.1.cls ∈ gw ∧ (mX3_still.1.cls ≠ "java/lang/invoke/MethodHandle" ∧ mX3_still.1.cls ≠ "java/lang/invoke/VarHandle" ∧ (parseMethodDescriptor mX3_still.1.desc).map (fun d => d.parameters.length) = some 0)) ∧ Cond.instanceMethod mX3_still.1 ∈ gw ∧ Cond.selects mX3_still.1.cls mX3_still.1 mX3_still.1 ∈ gw := ⟨⟨gw_mem 538 (by decide +kernel) (by decide +kernel), gw_mem 69 (by decide +kernel) (by decide +kernel), by decide +kernel, by decide +kernel, by decide +kernel⟩, gw_mem 536 (by decide +kernel) (by decide +kernel), gw_mem 537 (by decide +kernel) (by decide +kernel)⟩
abbrev mX3_dress : gM := (yX3_dress, cX3_dress, 3, some .int, 5, 200)
theorem gm_X3_dress : (Cond.code mX3_dress.1 mX3_dress.2.1 mX3_dress.2.2.1 mX3_dress.2.2.2.1 ∈ gw ∧ Cond.initialized mX3_dress.1.cls ∈ gw ∧ (mX3_dress.1.cls ≠ "java/lang/invoke/MethodHandle" ∧ mX3_dress.1.cls ≠ "java/lang/invoke/VarHandle" ∧ (parseMethodDescriptor mX3_dress.1.desc).map (fun d => d.parameters.length) = some 1)) ∧ Cond.instanceMethod mX3_dress.1 ∈ gw ∧ Cond.selects mX3_dress.1.cls mX3_dress.1 mX3_dress.1 ∈ gw := ⟨⟨gw_mem 546 (by decide +kernel) (by decide +kernel), gw_mem 69 (by decide +kernel) (by decide +kernel), by decide +kernel, by decide +kernel, by decide +kernel⟩, gw_mem 544 (by decide +kernel) (by decide +kernel), gw_mem 545 (by decide +kernel) (by decide +kernel)⟩
abbrev mX3_suitBest : gM := (yX3_suitBest, cX3_suitBest, 8, some .int, 5, 200)
theorem gm_X3_suitBest : (Cond.code mX3_suitBest.1 mX3_suitBest.2.1 mX3_suitBest.2.2.1 mX3_suitBest.2.2.2.1 ∈ gw ∧ Cond.initialized mX3_suitBest.1.cls ∈ gw ∧ (mX3_suitBest.1.cls ≠ "java/lang/invoke/MethodHandle" ∧ mX3_suitBest.1.cls ≠ "java/lang/invoke/VarHandle" ∧ (parseMethodDescriptor mX3_suitBest.1.desc).map (fun d => d.parameters.length) = some 3)) ∧ Cond.instanceMethod mX3_suitBest.1 ∈ gw ∧ Cond.selects mX3_suitBest.1.cls mX3_suitBest.1 mX3_suitBest.1 ∈ gw := ⟨⟨gw_mem 580 (by decide +kernel) (by decide +kernel), gw_mem 69 (by decide +kernel) (by decide +kernel), by decide +kernel, by decide +kernel, by decide +kernel⟩, gw_mem 578 (by decide +kernel) (by decide +kernel), gw_mem 579 (by decide +kernel) (by decide +kernel)⟩
abbrev mX3_change : gM := (yX3_change, cX3_change, 8, some .int, 6, 240)
theorem gm_X3_change : (Cond.code mX3_change.1 mX3_change.2.1 mX3_change.2.2.1 mX3_change.2.2.2.1 ∈ gw ∧ Cond.initialized mX3_change.1.cls ∈ gw ∧ (mX3_change.1.cls ≠ "java/lang/invoke/MethodHandle" ∧ mX3_change.1.cls ≠ "java/lang/invoke/VarHandle" ∧ (parseMethodDescriptor mX3_change.1.desc).map (fun d => d.parameters.length) = some 1)) ∧ Cond.instanceMethod mX3_change.1 ∈ gw ∧ Cond.selects mX3_change.1.cls mX3_change.1 mX3_change.1 ∈ gw := ⟨⟨gw_mem 584 (by decide +kernel) (by decide +kernel), gw_mem 69 (by decide +kernel) (by decide +kernel), by decide +kernel, by decide +kernel, by decide +kernel⟩, gw_mem 582 (by decide +kernel) (by decide +kernel), gw_mem 583 (by decide +kernel) (by decide +kernel)⟩
abbrev mX3_fewest : gM := (yX3_fewest, cX3_fewest, 5, some .int, 5, 200)
theorem gm_X3_fewest : (Cond.code mX3_fewest.1 mX3_fewest.2.1 mX3_fewest.2.2.1 mX3_fewest.2.2.2.1 ∈ gw ∧ Cond.initialized mX3_fewest.1.cls ∈ gw ∧ (mX3_fewest.1.cls ≠ "java/lang/invoke/MethodHandle" ∧ mX3_fewest.1.cls ≠ "java/lang/invoke/VarHandle" ∧ (parseMethodDescriptor mX3_fewest.1.desc).map (fun d => d.parameters.length) = some 1)) ∧ Cond.instanceMethod mX3_fewest.1 ∈ gw ∧ Cond.selects mX3_fewest.1.cls mX3_fewest.1 mX3_fewest.1 ∈ gw := ⟨⟨gw_mem 588 (by decide +kernel) (by decide +kernel), gw_mem 69 (by decide +kernel) (by decide +kernel), by decide +kernel, by decide +kernel, by decide +kernel⟩, gw_mem 586 (by decide +kernel) (by decide +kernel), gw_mem 587 (by decide +kernel) (by decide +kernel)⟩
abbrev mX3_spare : gM := (yX3_spare, cX3_spare, 8, some .int, 6, 240)
theorem gm_X3_spare : (Cond.code mX3_spare.1 mX3_spare.2.1 mX3_spare.2.2.1 mX3_spare.2.2.2.1 ∈ gw ∧ Cond.initialized mX3_spare.1.cls ∈ gw ∧ (mX3_spare.1.cls ≠ "java/lang/invoke/MethodHandle" ∧ mX3_spare.1.cls ≠ "java/lang/invoke/VarHandle" ∧ (parseMethodDescriptor mX3_spare.1.desc).map (fun d => d.parameters.length) = some 2)) ∧ Cond.instanceMethod mX3_spare.1 ∈ gw ∧ Cond.selects mX3_spare.1.cls mX3_spare.1 mX3_spare.1 ∈ gw := ⟨⟨gw_mem 592 (by decide +kernel) (by decide +kernel), gw_mem 69 (by decide +kernel) (by decide +kernel), by decide +kernel, by decide +kernel, by decide +kernel⟩, gw_mem 590 (by decide +kernel) (by decide +kernel), gw_mem 591 (by decide +kernel) (by decide +kernel)⟩
abbrev mX3_cheer : gM := (yX3_cheer, cX3_cheer, 7, some .int, 6, 240)
theorem gm_X3_cheer : (Cond.code mX3_cheer.1 mX3_cheer.2.1 mX3_cheer.2.2.1 mX3_cheer.2.2.2.1 ∈ gw ∧ Cond.initialized mX3_cheer.1.cls ∈ gw ∧ (mX3_cheer.1.cls ≠ "java/lang/invoke/MethodHandle" ∧ mX3_cheer.1.cls ≠ "java/lang/invoke/VarHandle" ∧ (parseMethodDescriptor mX3_cheer.1.desc).map (fun d => d.parameters.length) = some 1)) ∧ Cond.instanceMethod mX3_cheer.1 ∈ gw ∧ Cond.selects mX3_cheer.1.cls mX3_cheer.1 mX3_cheer.1 ∈ gw := ⟨⟨gw_mem 596 (by decide +kernel) (by decide +kernel), gw_mem 69 (by decide +kernel) (by decide +kernel), by decide +kernel, by decide +kernel, by decide +kernel⟩, gw_mem 594 (by decide +kernel) (by decide +kernel), gw_mem 595 (by decide +kernel) (by decide +kernel)⟩
abbrev mX3_boldest : gM := (yX3_boldest, cX3_boldest, 7, some .int, 2, 80)
theorem gm_X3_boldest : (Cond.code mX3_boldest.1 mX3_boldest.2.1 mX3_boldest.2.2.1 mX3_boldest.2.2.2.1 ∈ gw ∧ Cond.initialized mX3_boldest.1.cls ∈ gw ∧ (mX3_boldest.1.cls ≠ "java/lang/invoke/MethodHandle" ∧ mX3_boldest.1.cls ≠ "java/lang/invoke/VarHandle" ∧ (parseMethodDescriptor mX3_boldest.1.desc).map (fun d => d.parameters.length) = some 1)) ∧ Cond.instanceMethod mX3_boldest.1 ∈ gw ∧ Cond.selects mX3_boldest.1.cls mX3_boldest.1 mX3_boldest.1 ∈ gw := ⟨⟨gw_mem 601 (by decide +kernel) (by decide +kernel), gw_mem 69 (by decide +kernel) (by decide +kernel), by decide +kernel, by decide +kernel, by decide +kernel⟩, gw_mem 599 (by decide +kernel) (by decide +kernel), gw_mem 600 (by decide +kernel) (by decide +kernel)⟩
abbrev mX3_left : gM := (yX3_left, cX3_left, 3, some .int, 1, 40)
theorem gm_X3_left : (Cond.code mX3_left.1 mX3_left.2.1 mX3_left.2.2.1 mX3_left.2.2.2.1 ∈ gw ∧ Cond.initialized mX3_left.1.cls ∈ gw ∧ (mX3_left.1.cls ≠ "java/lang/invoke/MethodHandle" ∧ mX3_left.1.cls ≠ "java/lang/invoke/VarHandle" ∧ (parseMethodDescriptor mX3_left.1.desc).map (fun d => d.parameters.length) = some 0)) ∧ Cond.instanceMethod mX3_left.1 ∈ gw ∧ Cond.selects mX3_left.1.cls mX3_left.1 mX3_left.1 ∈ gw := ⟨⟨gw_mem 605 (by decide +kernel) (by decide +kernel), gw_mem 69 (by decide +kernel) (by decide +kernel), by decide +kernel, by decide +kernel, by decide +kernel⟩, gw_mem 603 (by decide +kernel) (by decide +kernel), gw_mem 604 (by decide +kernel) (by decide +kernel)⟩
abbrev mX3_order : gM := (yX3_order, cX3_order, 3, some .int, 3, 120)
theorem gm_X3_order : (Cond.code mX3_order.1 mX3_order.2.1 mX3_order.2.2.1 mX3_order.2.2.2.1 ∈ gw ∧ Cond.initialized mX3_order.1.cls ∈ gw ∧ (mX3_order.1.cls ≠ "java/lang/invoke/MethodHandle" ∧ mX3_order.1.cls ≠ "java/lang/invoke/VarHandle" ∧ (parseMethodDescriptor mX3_order.1.desc).map (fun d => d.parameters.length) = some 1)) ∧ Cond.instanceMethod mX3_order.1 ∈ gw ∧ Cond.selects mX3_order.1.cls mX3_order.1 mX3_order.1 ∈ gw := ⟨⟨gw_mem 609 (by decide +kernel) (by decide +kernel), gw_mem 69 (by decide +kernel) (by decide +kernel), by decide +kernel, by decide +kernel, by decide +kernel⟩, gw_mem 607 (by decide +kernel) (by decide +kernel), gw_mem 608 (by decide +kernel) (by decide +kernel)⟩
abbrev mX3_heard : gM := (yX3_heard, cX3_heard, 4, some .int, 1, 40)
theorem gm_X3_heard : (Cond.code mX3_heard.1 mX3_heard.2.1 mX3_heard.2.2.1 mX3_heard.2.2.2.1 ∈ gw ∧ Cond.initialized mX3_heard.1.cls ∈ gw ∧ (mX3_heard.1.cls ≠ "java/lang/invoke/MethodHandle" ∧ mX3_heard.1.cls ≠ "java/lang/invoke/VarHandle" ∧ (parseMethodDescriptor mX3_heard.1.desc).map (fun d => d.parameters.length) = some 1)) ∧ Cond.instanceMethod mX3_heard.1 ∈ gw ∧ Cond.selects mX3_heard.1.cls mX3_heard.1 mX3_heard.1 ∈ gw := ⟨⟨gw_mem 617 (by decide +kernel) (by decide +kernel), gw_mem 69 (by decide +kernel) (by decide +kernel), by decide +kernel, by decide +kernel, by decide +kernel⟩, gw_mem 615 (by decide +kernel) (by decide +kernel), gw_mem 616 (by decide +kernel) (by decide +kernel)⟩
abbrev mX3_rusted : gM := (yX3_rusted, cX3_rusted, 5, some .int, 2, 80)
theorem gm_X3_rusted : (Cond.code mX3_rusted.1 mX3_rusted.2.1 mX3_rusted.2.2.1 mX3_rusted.2.2.2.1 ∈ gw ∧ Cond.initialized mX3_rusted.1.cls ∈ gw ∧ (mX3_rusted.1.cls ≠ "java/lang/invoke/MethodHandle" ∧ mX3_rusted.1.cls ≠ "java/lang/invoke/VarHandle" ∧ (parseMethodDescriptor mX3_rusted.1.desc).map (fun d => d.parameters.length) = some 1)) ∧ Cond.instanceMethod mX3_rusted.1 ∈ gw ∧ Cond.selects mX3_rusted.1.cls mX3_rusted.1 mX3_rusted.1 ∈ gw := ⟨⟨gw_mem 621 (by decide +kernel) (by decide +kernel), gw_mem 69 (by decide +kernel) (by decide +kernel), by decide +kernel, by decide +kernel, by decide +kernel⟩, gw_mem 619 (by decide +kernel) (by decide +kernel), gw_mem 620 (by decide +kernel) (by decide +kernel)⟩
abbrev mX3_two : gM := (yX3_two, cX3_two, 6, some .int, 6, 240)
theorem gm_X3_two : (Cond.code mX3_two.1 mX3_two.2.1 mX3_two.2.2.1 mX3_two.2.2.2.1 ∈ gw ∧ Cond.initialized mX3_two.1.cls ∈ gw ∧ (mX3_two.1.cls ≠ "java/lang/invoke/MethodHandle" ∧ mX3_two.1.cls ≠ "java/lang/invoke/VarHandle" ∧ (parseMethodDescriptor mX3_two.1.desc).map (fun d => d.parameters.length) = some 3)) ∧ Cond.instanceMethod mX3_two.1 ∈ gw ∧ Cond.selects mX3_two.1.cls mX3_two.1 mX3_two.1 ∈ gw := ⟨⟨gw_mem 627 (by decide +kernel) (by decide +kernel), gw_mem 69 (by decide +kernel) (by decide +kernel), by decide +kernel, by decide +kernel, by decide +kernel⟩, gw_mem 625 (by decide +kernel) (by decide +kernel), gw_mem 626 (by decide +kernel) (by decide +kernel)⟩
abbrev mX3_rain : gM := (yX3_rain, cX3_rain, 12, some .long, 6, 240)
theorem gm_X3_rain : (Cond.code mX3_rain.1 mX3_rain.2.1 mX3_rain.2.2.1 mX3_rain.2.2.2.1 ∈ gw ∧ Cond.initialized mX3_rain.1.cls ∈ gw ∧ (mX3_rain.1.cls ≠ "java/lang/invoke/MethodHandle" ∧ mX3_rain.1.cls ≠ "java/lang/invoke/VarHandle" ∧ (parseMethodDescriptor mX3_rain.1.desc).map (fun d => d.parameters.length) = some 5)) ∧ Cond.instanceMethod mX3_rain.1 ∈ gw ∧ Cond.selects mX3_rain.1.cls mX3_rain.1 mX3_rain.1 ∈ gw := ⟨⟨gw_mem 639 (by decide +kernel) (by decide +kernel), gw_mem 69 (by decide +kernel) (by decide +kernel), by decide +kernel, by decide +kernel, by decide +kernel⟩, gw_mem 637 (by decide +kernel) (by decide +kernel), gw_mem 638 (by decide +kernel) (by decide +kernel)⟩
abbrev mX3_mean : gM := (yX3_mean, cX3_mean, 6, some .long, 2, 80)
theorem gm_X3_mean : (Cond.code mX3_mean.1 mX3_mean.2.1 mX3_mean.2.2.1 mX3_mean.2.2.2.1 ∈ gw ∧ Cond.initialized mX3_mean.1.cls ∈ gw ∧ (mX3_mean.1.cls ≠ "java/lang/invoke/MethodHandle" ∧ mX3_mean.1.cls ≠ "java/lang/invoke/VarHandle" ∧ (parseMethodDescriptor mX3_mean.1.desc).map (fun d => d.parameters.length) = some 1)) ∧ Cond.instanceMethod mX3_mean.1 ∈ gw ∧ Cond.selects mX3_mean.1.cls mX3_mean.1 mX3_mean.1 ∈ gw := ⟨⟨gw_mem 665 (by decide +kernel) (by decide +kernel), gw_mem 69 (by decide +kernel) (by decide +kernel), by decide +kernel, by decide +kernel, by decide +kernel⟩, gw_mem 663 (by decide +kernel) (by decide +kernel), gw_mem 664 (by decide +kernel) (by decide +kernel)⟩
abbrev mX3_whatIs : gM := (yX3_whatIs, cX3_whatIs, 8, some .int, 6, 240)
theorem gm_X3_whatIs : (Cond.code mX3_whatIs.1 mX3_whatIs.2.1 mX3_whatIs.2.2.1 mX3_whatIs.2.2.2.1 ∈ gw ∧ Cond.initialized mX3_whatIs.1.cls ∈ gw ∧ (mX3_whatIs.1.cls ≠ "java/lang/invoke/MethodHandle" ∧ mX3_whatIs.1.cls ≠ "java/lang/invoke/VarHandle" ∧ (parseMethodDescriptor mX3_whatIs.1.desc).map (fun d => d.parameters.length) = some 2)) ∧ Cond.instanceMethod mX3_whatIs.1 ∈ gw ∧ Cond.selects mX3_whatIs.1.cls mX3_whatIs.1 mX3_whatIs.1 ∈ gw := ⟨⟨gw_mem 669 (by decide +kernel) (by decide +kernel), gw_mem 69 (by decide +kernel) (by decide +kernel), by decide +kernel, by decide +kernel, by decide +kernel⟩, gw_mem 667 (by decide +kernel) (by decide +kernel), gw_mem 668 (by decide +kernel) (by decide +kernel)⟩
abbrev mX3_row : gM := (yX3_row, cX3_row, 3, some .int, 1, 40)
theorem gm_X3_row : (Cond.code mX3_row.1 mX3_row.2.1 mX3_row.2.2.1 mX3_row.2.2.2.1 ∈ gw ∧ Cond.initialized mX3_row.1.cls ∈ gw ∧ (mX3_row.1.cls ≠ "java/lang/invoke/MethodHandle" ∧ mX3_row.1.cls ≠ "java/lang/invoke/VarHandle" ∧ (parseMethodDescriptor mX3_row.1.desc).map (fun d => d.parameters.length) = some 1)) ∧ Cond.instanceMethod mX3_row.1 ∈ gw ∧ Cond.selects mX3_row.1.cls mX3_row.1 mX3_row.1 ∈ gw := ⟨⟨gw_mem 677 (by decide +kernel) (by decide +kernel), gw_mem 69 (by decide +kernel) (by decide +kernel), by decide +kernel, by decide +kernel, by decide +kernel⟩, gw_mem 675 (by decide +kernel) (by decide +kernel), gw_mem 676 (by decide +kernel) (by decide +kernel)⟩
abbrev mX3_judge : gM := (yX3_judge, cX3_judge, 3, some .int, 0, 0)
theorem gm_X3_judge : (Cond.code mX3_judge.1 mX3_judge.2.1 mX3_judge.2.2.1 mX3_judge.2.2.2.1 ∈ gw ∧ Cond.initialized mX3_judge.1.cls ∈ gw ∧ (mX3_judge.1.cls ≠ "java/lang/invoke/MethodHandle" ∧ mX3_judge.1.cls ≠ "java/lang/invoke/VarHandle" ∧ (parseMethodDescriptor mX3_judge.1.desc).map (fun d => d.parameters.length) = some 0)) ∧ Cond.instanceMethod mX3_judge.1 ∈ gw ∧ Cond.selects mX3_judge.1.cls mX3_judge.1 mX3_judge.1 ∈ gw := ⟨⟨gw_mem 681 (by decide +kernel) (by decide +kernel), gw_mem 69 (by decide +kernel) (by decide +kernel), by decide +kernel, by decide +kernel, by decide +kernel⟩, gw_mem 679 (by decide +kernel) (by decide +kernel), gw_mem 680 (by decide +kernel) (by decide +kernel)⟩
abbrev mX3_clear : gM := (yX3_clear, cX3_clear, 2, some .int, 0, 0)
theorem gm_X3_clear : (Cond.code mX3_clear.1 mX3_clear.2.1 mX3_clear.2.2.1 mX3_clear.2.2.2.1 ∈ gw ∧ Cond.initialized mX3_clear.1.cls ∈ gw ∧ (mX3_clear.1.cls ≠ "java/lang/invoke/MethodHandle" ∧ mX3_clear.1.cls ≠ "java/lang/invoke/VarHandle" ∧ (parseMethodDescriptor mX3_clear.1.desc).map (fun d => d.parameters.length) = some 0)) ∧ Cond.instanceMethod mX3_clear.1 ∈ gw ∧ Cond.selects mX3_clear.1.cls mX3_clear.1 mX3_clear.1 ∈ gw := ⟨⟨gw_mem 685 (by decide +kernel) (by decide +kernel), gw_mem 69 (by decide +kernel) (by decide +kernel), by decide +kernel, by decide +kernel, by decide +kernel⟩, gw_mem 683 (by decide +kernel) (by decide +kernel), gw_mem 684 (by decide +kernel) (by decide +kernel)⟩
abbrev mX3_lots : gM := (yX3_lots, cX3_lots, 10, some .int, 6, 240)
theorem gm_X3_lots : (Cond.code mX3_lots.1 mX3_lots.2.1 mX3_lots.2.2.1 mX3_lots.2.2.2.1 ∈ gw ∧ Cond.initialized mX3_lots.1.cls ∈ gw ∧ (mX3_lots.1.cls ≠ "java/lang/invoke/MethodHandle" ∧ mX3_lots.1.cls ≠ "java/lang/invoke/VarHandle" ∧ (parseMethodDescriptor mX3_lots.1.desc).map (fun d => d.parameters.length) = some 3)) ∧ Cond.instanceMethod mX3_lots.1 ∈ gw ∧ Cond.selects mX3_lots.1.cls mX3_lots.1 mX3_lots.1 ∈ gw := ⟨⟨gw_mem 689 (by decide +kernel) (by decide +kernel), gw_mem 69 (by decide +kernel) (by decide +kernel), by decide +kernel, by decide +kernel, by decide +kernel⟩, gw_mem 687 (by decide +kernel) (by decide +kernel), gw_mem 688 (by decide +kernel) (by decide +kernel)⟩
abbrev mX3_image : gM := (yX3_image, cX3_image, 1, some .int, 2, 80)
theorem gm_X3_image : (Cond.code mX3_image.1 mX3_image.2.1 mX3_image.2.2.1 mX3_image.2.2.2.1 ∈ gw ∧ Cond.initialized mX3_image.1.cls ∈ gw ∧ (mX3_image.1.cls ≠ "java/lang/invoke/MethodHandle" ∧ mX3_image.1.cls ≠ "java/lang/invoke/VarHandle" ∧ (parseMethodDescriptor mX3_image.1.desc).map (fun d => d.parameters.length) = some 0)) ∧ Cond.instanceMethod mX3_image.1 ∈ gw ∧ Cond.selects mX3_image.1.cls mX3_image.1 mX3_image.1 ∈ gw := ⟨⟨gw_mem 696 (by decide +kernel) (by decide +kernel), gw_mem 69 (by decide +kernel) (by decide +kernel), by decide +kernel, by decide +kernel, by decide +kernel⟩, gw_mem 694 (by decide +kernel) (by decide +kernel), gw_mem 695 (by decide +kernel) (by decide +kernel)⟩
abbrev mX3_on : gM := (yX3_on, cX3_on, 1, some .int, 2, 80)
theorem gm_X3_on : (Cond.code mX3_on.1 mX3_on.2.1 mX3_on.2.2.1 mX3_on.2.2.2.1 ∈ gw ∧ Cond.initialized mX3_on.1.cls ∈ gw ∧ (mX3_on.1.cls ≠ "java/lang/invoke/MethodHandle" ∧ mX3_on.1.cls ≠ "java/lang/invoke/VarHandle" ∧ (parseMethodDescriptor mX3_on.1.desc).map (fun d => d.parameters.length) = some 0)) ∧ Cond.instanceMethod mX3_on.1 ∈ gw ∧ Cond.selects mX3_on.1.cls mX3_on.1 mX3_on.1 ∈ gw := ⟨⟨gw_mem 700 (by decide +kernel) (by decide +kernel), gw_mem 69 (by decide +kernel) (by decide +kernel), by decide +kernel, by decide +kernel, by decide +kernel⟩, gw_mem 698 (by decide +kernel) (by decide +kernel), gw_mem 699 (by decide +kernel) (by decide +kernel)⟩
abbrev mX3_count : gM := (yX3_count, cX3_count, 2, some .int, 1, 40)
theorem gm_X3_count : (Cond.code mX3_count.1 mX3_count.2.1 mX3_count.2.2.1 mX3_count.2.2.2.1 ∈ gw ∧ Cond.initialized mX3_count.1.cls ∈ gw ∧ (mX3_count.1.cls ≠ "java/lang/invoke/MethodHandle" ∧ mX3_count.1.cls ≠ "java/lang/invoke/VarHandle" ∧ (parseMethodDescriptor mX3_count.1.desc).map (fun d => d.parameters.length) = some 1)) ∧ Cond.instanceMethod mX3_count.1 ∈ gw ∧ Cond.selects mX3_count.1.cls mX3_count.1 mX3_count.1 ∈ gw := ⟨⟨gw_mem 704 (by decide +kernel) (by decide +kernel), gw_mem 69 (by decide +kernel) (by decide +kernel), by decide +kernel, by decide +kernel, by decide +kernel⟩, gw_mem 702 (by decide +kernel) (by decide +kernel), gw_mem 703 (by decide +kernel) (by decide +kernel)⟩
abbrev mX3_refuse : gM := (yX3_refuse, cX3_refuse, 2, some .int, 0, 0)
theorem gm_X3_refuse : (Cond.code mX3_refuse.1 mX3_refuse.2.1 mX3_refuse.2.2.1 mX3_refuse.2.2.2.1 ∈ gw ∧ Cond.initialized mX3_refuse.1.cls ∈ gw ∧ (mX3_refuse.1.cls ≠ "java/lang/invoke/MethodHandle" ∧ mX3_refuse.1.cls ≠ "java/lang/invoke/VarHandle" ∧ (parseMethodDescriptor mX3_refuse.1.desc).map (fun d => d.parameters.length) = some 1)) ∧ Cond.instanceMethod mX3_refuse.1 ∈ gw ∧ Cond.selects mX3_refuse.1.cls mX3_refuse.1 mX3_refuse.1 ∈ gw := ⟨⟨gw_mem 224 (by decide +kernel) (by decide +kernel), gw_mem 69 (by decide +kernel) (by decide +kernel), by decide +kernel, by decide +kernel, by decide +kernel⟩, gw_mem 223 (by decide +kernel) (by decide +kernel), gw_mem 0 (by decide +kernel) (by decide +kernel)⟩
abbrev mX3_firstOf : gM := (yX3_firstOf, cX3_firstOf, 3, some .int, 0, 0)
theorem gm_X3_firstOf : (Cond.code mX3_firstOf.1 mX3_firstOf.2.1 mX3_firstOf.2.2.1 mX3_firstOf.2.2.2.1 ∈ gw ∧ Cond.initialized mX3_firstOf.1.cls ∈ gw ∧ (mX3_firstOf.1.cls ≠ "java/lang/invoke/MethodHandle" ∧ mX3_firstOf.1.cls ≠ "java/lang/invoke/VarHandle" ∧ (parseMethodDescriptor mX3_firstOf.1.desc).map (fun d => d.parameters.length) = some 3)) ∧ Cond.static mX3_firstOf.1 ∈ gw := ⟨⟨gw_mem 446 (by decide +kernel) (by decide +kernel), gw_mem 69 (by decide +kernel) (by decide +kernel), by decide +kernel, by decide +kernel, by decide +kernel⟩, gw_mem 445 (by decide +kernel) (by decide +kernel)⟩
abbrev mX3_range : gM := (yX3_range, cX3_range, 3, some .int, 0, 0)
theorem gm_X3_range : (Cond.code mX3_range.1 mX3_range.2.1 mX3_range.2.2.1 mX3_range.2.2.2.1 ∈ gw ∧ Cond.initialized mX3_range.1.cls ∈ gw ∧ (mX3_range.1.cls ≠ "java/lang/invoke/MethodHandle" ∧ mX3_range.1.cls ≠ "java/lang/invoke/VarHandle" ∧ (parseMethodDescriptor mX3_range.1.desc).map (fun d => d.parameters.length) = some 3)) ∧ Cond.static mX3_range.1 ∈ gw := ⟨⟨gw_mem 220 (by decide +kernel) (by decide +kernel), gw_mem 69 (by decide +kernel) (by decide +kernel), by decide +kernel, by decide +kernel, by decide +kernel⟩, gw_mem 219 (by decide +kernel) (by decide +kernel)⟩
abbrev mX3_anyOf : gM := (yX3_anyOf, cX3_anyOf, 2, some .int, 0, 0)
theorem gm_X3_anyOf : (Cond.code mX3_anyOf.1 mX3_anyOf.2.1 mX3_anyOf.2.2.1 mX3_anyOf.2.2.2.1 ∈ gw ∧ Cond.initialized mX3_anyOf.1.cls ∈ gw ∧ (mX3_anyOf.1.cls ≠ "java/lang/invoke/MethodHandle" ∧ mX3_anyOf.1.cls ≠ "java/lang/invoke/VarHandle" ∧ (parseMethodDescriptor mX3_anyOf.1.desc).map (fun d => d.parameters.length) = some 2)) ∧ Cond.static mX3_anyOf.1 ∈ gw := ⟨⟨gw_mem 443 (by decide +kernel) (by decide +kernel), gw_mem 69 (by decide +kernel) (by decide +kernel), by decide +kernel, by decide +kernel, by decide +kernel⟩, gw_mem 442 (by decide +kernel) (by decide +kernel)⟩
abbrev mX3_anySuit : gM := (yX3_anySuit, cX3_anySuit, 2, some .int, 0, 0)
theorem gm_X3_anySuit : (Cond.code mX3_anySuit.1 mX3_anySuit.2.1 mX3_anySuit.2.2.1 mX3_anySuit.2.2.2.1 ∈ gw ∧ Cond.initialized mX3_anySuit.1.cls ∈ gw ∧ (mX3_anySuit.1.cls ≠ "java/lang/invoke/MethodHandle" ∧ mX3_anySuit.1.cls ≠ "java/lang/invoke/VarHandle" ∧ (parseMethodDescriptor mX3_anySuit.1.desc).map (fun d => d.parameters.length) = some 1)) ∧ Cond.instanceMethod mX3_anySuit.1 ∈ gw ∧ Cond.selects mX3_anySuit.1.cls mX3_anySuit.1 mX3_anySuit.1 ∈ gw := ⟨⟨gw_mem 440 (by decide +kernel) (by decide +kernel), gw_mem 69 (by decide +kernel) (by decide +kernel), by decide +kernel, by decide +kernel, by decide +kernel⟩, gw_mem 439 (by decide +kernel) (by decide +kernel), gw_mem 5 (by decide +kernel) (by decide +kernel)⟩
abbrev mX3_anyCaller : gM := (yX3_anyCaller, cX3_anyCaller, 2, some .int, 0, 0)
theorem gm_X3_anyCaller : (Cond.code mX3_anyCaller.1 mX3_anyCaller.2.1 mX3_anyCaller.2.2.1 mX3_anyCaller.2.2.2.1 ∈ gw ∧ Cond.initialized mX3_anyCaller.1.cls ∈ gw ∧ (mX3_anyCaller.1.cls ≠ "java/lang/invoke/MethodHandle" ∧ mX3_anyCaller.1.cls ≠ "java/lang/invoke/VarHandle" ∧ (parseMethodDescriptor mX3_anyCaller.1.desc).map (fun d => d.parameters.length) = some 1)) ∧ Cond.instanceMethod mX3_anyCaller.1 ∈ gw ∧ Cond.selects mX3_anyCaller.1.cls mX3_anyCaller.1 mX3_anyCaller.1 ∈ gw := ⟨⟨gw_mem 461 (by decide +kernel) (by decide +kernel), gw_mem 69 (by decide +kernel) (by decide +kernel), by decide +kernel, by decide +kernel, by decide +kernel⟩, gw_mem 460 (by decide +kernel) (by decide +kernel), gw_mem 6 (by decide +kernel) (by decide +kernel)⟩
abbrev mX3_inSuit : gM := (yX3_inSuit, cX3_inSuit, 3, some .int, 1, 40)
theorem gm_X3_inSuit : (Cond.code mX3_inSuit.1 mX3_inSuit.2.1 mX3_inSuit.2.2.1 mX3_inSuit.2.2.2.1 ∈ gw ∧ Cond.initialized mX3_inSuit.1.cls ∈ gw ∧ (mX3_inSuit.1.cls ≠ "java/lang/invoke/MethodHandle" ∧ mX3_inSuit.1.cls ≠ "java/lang/invoke/VarHandle" ∧ (parseMethodDescriptor mX3_inSuit.1.desc).map (fun d => d.parameters.length) = some 1)) ∧ Cond.instanceMethod mX3_inSuit.1 ∈ gw ∧ Cond.selects mX3_inSuit.1.cls mX3_inSuit.1 mX3_inSuit.1 ∈ gw := ⟨⟨gw_mem 485 (by decide +kernel) (by decide +kernel), gw_mem 69 (by decide +kernel) (by decide +kernel), by decide +kernel, by decide +kernel, by decide +kernel⟩, gw_mem 484 (by decide +kernel) (by decide +kernel), gw_mem 7 (by decide +kernel) (by decide +kernel)⟩
abbrev mX3_rainRange : gM := (yX3_rainRange, cX3_rainRange, 3, some .int, 0, 0)
theorem gm_X3_rainRange : (Cond.code mX3_rainRange.1 mX3_rainRange.2.1 mX3_rainRange.2.2.1 mX3_rainRange.2.2.2.1 ∈ gw ∧ Cond.initialized mX3_rainRange.1.cls ∈ gw ∧ (mX3_rainRange.1.cls ≠ "java/lang/invoke/MethodHandle" ∧ mX3_rainRange.1.cls ≠ "java/lang/invoke/VarHandle" ∧ (parseMethodDescriptor mX3_rainRange.1.desc).map (fun d => d.parameters.length) = some 3)) ∧ Cond.static mX3_rainRange.1 ∈ gw := ⟨⟨gw_mem 642 (by decide +kernel) (by decide +kernel), gw_mem 69 (by decide +kernel) (by decide +kernel), by decide +kernel, by decide +kernel, by decide +kernel⟩, gw_mem 641 (by decide +kernel) (by decide +kernel)⟩
abbrev mX3_think : gM := (yX3_think, cX3_think, 1, none, 2, 80)
theorem gm_X3_think : (Cond.code mX3_think.1 mX3_think.2.1 mX3_think.2.2.1 mX3_think.2.2.2.1 ∈ gw ∧ Cond.initialized mX3_think.1.cls ∈ gw ∧ (mX3_think.1.cls ≠ "java/lang/invoke/MethodHandle" ∧ mX3_think.1.cls ≠ "java/lang/invoke/VarHandle" ∧ (parseMethodDescriptor mX3_think.1.desc).map (fun d => d.parameters.length) = some 0)) ∧ Cond.instanceMethod mX3_think.1 ∈ gw ∧ Cond.selects mX3_think.1.cls mX3_think.1 mX3_think.1 ∈ gw := ⟨⟨gw_mem 334 (by decide +kernel) (by decide +kernel), gw_mem 69 (by decide +kernel) (by decide +kernel), by decide +kernel, by decide +kernel, by decide +kernel⟩, gw_mem 333 (by decide +kernel) (by decide +kernel), gw_mem 2 (by decide +kernel) (by decide +kernel)⟩
abbrev mX3_allSaidBehind : gM := (yX3_allSaidBehind, cX3_allSaidBehind, 2, some .int, 5, 200)
theorem gm_X3_allSaidBehind : (Cond.code mX3_allSaidBehind.1 mX3_allSaidBehind.2.1 mX3_allSaidBehind.2.2.1 mX3_allSaidBehind.2.2.2.1 ∈ gw ∧ Cond.initialized mX3_allSaidBehind.1.cls ∈ gw ∧ (mX3_allSaidBehind.1.cls ≠ "java/lang/invoke/MethodHandle" ∧ mX3_allSaidBehind.1.cls ≠ "java/lang/invoke/VarHandle" ∧ (parseMethodDescriptor mX3_allSaidBehind.1.desc).map (fun d => d.parameters.length) = some 1)) ∧ Cond.instanceMethod mX3_allSaidBehind.1 ∈ gw ∧ Cond.selects mX3_allSaidBehind.1.cls mX3_allSaidBehind.1 mX3_allSaidBehind.1 ∈ gw := ⟨⟨gw_mem 542 (by decide +kernel) (by decide +kernel), gw_mem 69 (by decide +kernel) (by decide +kernel), by decide +kernel, by decide +kernel, by decide +kernel⟩, gw_mem 541 (by decide +kernel) (by decide +kernel), gw_mem 9 (by decide +kernel) (by decide +kernel)⟩
abbrev mX3_firstToPropose : gM := (yX3_firstToPropose, cX3_firstToPropose, 3, some .int, 5, 200)
theorem gm_X3_firstToPropose : (Cond.code mX3_firstToPropose.1 mX3_firstToPropose.2.1 mX3_firstToPropose.2.2.1 mX3_firstToPropose.2.2.2.1 ∈ gw ∧ Cond.initialized mX3_firstToPropose.1.cls ∈ gw ∧ (mX3_firstToPropose.1.cls ≠ "java/lang/invoke/MethodHandle" ∧ mX3_firstToPropose.1.cls ≠ "java/lang/invoke/VarHandle" ∧ (parseMethodDescriptor mX3_firstToPropose.1.desc).map (fun d => d.parameters.length) = some 0)) ∧ Cond.instanceMethod mX3_firstToPropose.1 ∈ gw ∧ Cond.selects mX3_firstToPropose.1.cls mX3_firstToPropose.1 mX3_firstToPropose.1 ∈ gw := ⟨⟨gw_mem 530 (by decide +kernel) (by decide +kernel), gw_mem 69 (by decide +kernel) (by decide +kernel), by decide +kernel, by decide +kernel, by decide +kernel⟩, gw_mem 529 (by decide +kernel) (by decide +kernel), gw_mem 8 (by decide +kernel) (by decide +kernel)⟩
abbrev mX3_suitsAhead : gM := (yX3_suitsAhead, cX3_suitsAhead, 6, some .int, 2, 80)
theorem gm_X3_suitsAhead : (Cond.code mX3_suitsAhead.1 mX3_suitsAhead.2.1 mX3_suitsAhead.2.2.1 mX3_suitsAhead.2.2.2.1 ∈ gw ∧ Cond.initialized mX3_suitsAhead.1.cls ∈ gw ∧ (mX3_suitsAhead.1.cls ≠ "java/lang/invoke/MethodHandle" ∧ mX3_suitsAhead.1.cls ≠ "java/lang/invoke/VarHandle" ∧ (parseMethodDescriptor mX3_suitsAhead.1.desc).map (fun d => d.parameters.length) = some 1)) ∧ Cond.instanceMethod mX3_suitsAhead.1 ∈ gw ∧ Cond.selects mX3_suitsAhead.1.cls mX3_suitsAhead.1 mX3_suitsAhead.1 ∈ gw := ⟨⟨gw_mem 613 (by decide +kernel) (by decide +kernel), gw_mem 69 (by decide +kernel) (by decide +kernel), by decide +kernel, by decide +kernel, by decide +kernel⟩, gw_mem 612 (by decide +kernel) (by decide +kernel), gw_mem 13 (by decide +kernel) (by decide +kernel)⟩
abbrev mX3_thinkPair : gM := (yX3_thinkPair, cX3_thinkPair, 5, none, 5, 200)
theorem gm_X3_thinkPair : (Cond.code mX3_thinkPair.1 mX3_thinkPair.2.1 mX3_thinkPair.2.2.1 mX3_thinkPair.2.2.2.1 ∈ gw ∧ Cond.initialized mX3_thinkPair.1.cls ∈ gw ∧ (mX3_thinkPair.1.cls ≠ "java/lang/invoke/MethodHandle" ∧ mX3_thinkPair.1.cls ≠ "java/lang/invoke/VarHandle" ∧ (parseMethodDescriptor mX3_thinkPair.1.desc).map (fun d => d.parameters.length) = some 4)) ∧ Cond.instanceMethod mX3_thinkPair.1 ∈ gw ∧ Cond.selects mX3_thinkPair.1.cls mX3_thinkPair.1 mX3_thinkPair.1 ∈ gw := ⟨⟨gw_mem 631 (by decide +kernel) (by decide +kernel), gw_mem 69 (by decide +kernel) (by decide +kernel), by decide +kernel, by decide +kernel, by decide +kernel⟩, gw_mem 630 (by decide +kernel) (by decide +kernel), gw_mem 14 (by decide +kernel) (by decide +kernel)⟩
abbrev mX3_wish : gM := (yX3_wish, cX3_wish, 4, some .int, 0, 0)
theorem gm_X3_wish : (Cond.code mX3_wish.1 mX3_wish.2.1 mX3_wish.2.2.1 mX3_wish.2.2.2.1 ∈ gw ∧ Cond.initialized mX3_wish.1.cls ∈ gw ∧ (mX3_wish.1.cls ≠ "java/lang/invoke/MethodHandle" ∧ mX3_wish.1.cls ≠ "java/lang/invoke/VarHandle" ∧ (parseMethodDescriptor mX3_wish.1.desc).map (fun d => d.parameters.length) = some 2)) ∧ Cond.instanceMethod mX3_wish.1 ∈ gw ∧ Cond.selects mX3_wish.1.cls mX3_wish.1 mX3_wish.1 ∈ gw := ⟨⟨gw_mem 635 (by decide +kernel) (by decide +kernel), gw_mem 69 (by decide +kernel) (by decide +kernel), by decide +kernel, by decide +kernel, by decide +kernel⟩, gw_mem 634 (by decide +kernel) (by decide +kernel), gw_mem 15 (by decide +kernel) (by decide +kernel)⟩
abbrev mX3_saidInRain : gM := (yX3_saidInRain, cX3_saidInRain, 5, some .int, 5, 200)
theorem gm_X3_saidInRain : (Cond.code mX3_saidInRain.1 mX3_saidInRain.2.1 mX3_saidInRain.2.2.1 mX3_saidInRain.2.2.2.1 ∈ gw ∧ Cond.initialized mX3_saidInRain.1.cls ∈ gw ∧ (mX3_saidInRain.1.cls ≠ "java/lang/invoke/MethodHandle" ∧ mX3_saidInRain.1.cls ≠ "java/lang/invoke/VarHandle" ∧ (parseMethodDescriptor mX3_saidInRain.1.desc).map (fun d => d.parameters.length) = some 3)) ∧ Cond.instanceMethod mX3_saidInRain.1 ∈ gw ∧ Cond.selects mX3_saidInRain.1.cls mX3_saidInRain.1 mX3_saidInRain.1 ∈ gw := ⟨⟨gw_mem 647 (by decide +kernel) (by decide +kernel), gw_mem 69 (by decide +kernel) (by decide +kernel), by decide +kernel, by decide +kernel, by decide +kernel⟩, gw_mem 646 (by decide +kernel) (by decide +kernel), gw_mem 16 (by decide +kernel) (by decide +kernel)⟩
abbrev mX3_waysOfRain : gM := (yX3_waysOfRain, cX3_waysOfRain, 6, some .long, 0, 0)
theorem gm_X3_waysOfRain : (Cond.code mX3_waysOfRain.1 mX3_waysOfRain.2.1 mX3_waysOfRain.2.2.1 mX3_waysOfRain.2.2.2.1 ∈ gw ∧ Cond.initialized mX3_waysOfRain.1.cls ∈ gw ∧ (mX3_waysOfRain.1.cls ≠ "java/lang/invoke/MethodHandle" ∧ mX3_waysOfRain.1.cls ≠ "java/lang/invoke/VarHandle" ∧ (parseMethodDescriptor mX3_waysOfRain.1.desc).map (fun d => d.parameters.length) = some 3)) ∧ Cond.static mX3_waysOfRain.1 ∈ gw := ⟨⟨gw_mem 658 (by decide +kernel) (by decide +kernel), gw_mem 69 (by decide +kernel) (by decide +kernel), by decide +kernel, by decide +kernel, by decide +kernel⟩, gw_mem 657 (by decide +kernel) (by decide +kernel)⟩
abbrev mX3_partOf : gM := (yX3_partOf, cX3_partOf, 12, some .long, 0, 0)
theorem gm_X3_partOf : (Cond.code mX3_partOf.1 mX3_partOf.2.1 mX3_partOf.2.2.1 mX3_partOf.2.2.2.1 ∈ gw ∧ Cond.initialized mX3_partOf.1.cls ∈ gw ∧ (mX3_partOf.1.cls ≠ "java/lang/invoke/MethodHandle" ∧ mX3_partOf.1.cls ≠ "java/lang/invoke/VarHandle" ∧ (parseMethodDescriptor mX3_partOf.1.desc).map (fun d => d.parameters.length) = some 3)) ∧ Cond.static mX3_partOf.1 ∈ gw := ⟨⟨gw_mem 661 (by decide +kernel) (by decide +kernel), gw_mem 69 (by decide +kernel) (by decide +kernel), by decide +kernel, by decide +kernel, by decide +kernel⟩, gw_mem 660 (by decide +kernel) (by decide +kernel)⟩
abbrev mX3_saysTheRow : gM := (yX3_saysTheRow, cX3_saysTheRow, 3, some .boolean, 5, 200)
theorem gm_X3_saysTheRow : (Cond.code mX3_saysTheRow.1 mX3_saysTheRow.2.1 mX3_saysTheRow.2.2.1 mX3_saysTheRow.2.2.2.1 ∈ gw ∧ Cond.initialized mX3_saysTheRow.1.cls ∈ gw ∧ (mX3_saysTheRow.1.cls ≠ "java/lang/invoke/MethodHandle" ∧ mX3_saysTheRow.1.cls ≠ "java/lang/invoke/VarHandle" ∧ (parseMethodDescriptor mX3_saysTheRow.1.desc).map (fun d => d.parameters.length) = some 1)) ∧ Cond.instanceMethod mX3_saysTheRow.1 ∈ gw ∧ Cond.selects mX3_saysTheRow.1.cls mX3_saysTheRow.1 mX3_saysTheRow.1 ∈ gw := ⟨⟨gw_mem 673 (by decide +kernel) (by decide +kernel), gw_mem 69 (by decide +kernel) (by decide +kernel), by decide +kernel, by decide +kernel, by decide +kernel⟩, gw_mem 672 (by decide +kernel) (by decide +kernel), gw_mem 17 (by decide +kernel) (by decide +kernel)⟩
abbrev mX4_no : gM := (yX4_no, cX4_no, 2, some .int, 0, 0)
theorem gm_X4_no : (Cond.code mX4_no.1 mX4_no.2.1 mX4_no.2.2.1 mX4_no.2.2.2.1 ∈ gw ∧ Cond.initialized mX4_no.1.cls ∈ gw ∧ (mX4_no.1.cls ≠ "java/lang/invoke/MethodHandle" ∧ mX4_no.1.cls ≠ "java/lang/invoke/VarHandle" ∧ (parseMethodDescriptor mX4_no.1.desc).map (fun d => d.parameters.length) = some 1)) ∧ Cond.instanceMethod mX4_no.1 ∈ gw ∧ Cond.selects mX4_no.1.cls mX4_no.1 mX4_no.1 ∈ gw := ⟨⟨gw_mem 824 (by decide +kernel) (by decide +kernel), gw_mem 73 (by decide +kernel) (by decide +kernel), by decide +kernel, by decide +kernel, by decide +kernel⟩, gw_mem 823 (by decide +kernel) (by decide +kernel), gw_mem 18 (by decide +kernel) (by decide +kernel)⟩
abbrev mX4_lower : gM := (yX4_lower, cX4_lower, 2, some .int, 0, 0)
theorem gm_X4_lower : (Cond.code mX4_lower.1 mX4_lower.2.1 mX4_lower.2.2.1 mX4_lower.2.2.2.1 ∈ gw ∧ Cond.initialized mX4_lower.1.cls ∈ gw ∧ (mX4_lower.1.cls ≠ "java/lang/invoke/MethodHandle" ∧ mX4_lower.1.cls ≠ "java/lang/invoke/VarHandle" ∧ (parseMethodDescriptor mX4_lower.1.desc).map (fun d => d.parameters.length) = some 1)) ∧ Cond.instanceMethod mX4_lower.1 ∈ gw ∧ Cond.selects mX4_lower.1.cls mX4_lower.1 mX4_lower.1 ∈ gw := ⟨⟨gw_mem 973 (by decide +kernel) (by decide +kernel), gw_mem 73 (by decide +kernel) (by decide +kernel), by decide +kernel, by decide +kernel, by decide +kernel⟩, gw_mem 972 (by decide +kernel) (by decide +kernel), gw_mem 47 (by decide +kernel) (by decide +kernel)⟩
abbrev mX4_lowestOf : gM := (yX4_lowestOf, cX4_lowestOf, 2, some .long, 0, 0)
theorem gm_X4_lowestOf : (Cond.code mX4_lowestOf.1 mX4_lowestOf.2.1 mX4_lowestOf.2.2.1 mX4_lowestOf.2.2.2.1 ∈ gw ∧ Cond.initialized mX4_lowestOf.1.cls ∈ gw ∧ (mX4_lowestOf.1.cls ≠ "java/lang/invoke/MethodHandle" ∧ mX4_lowestOf.1.cls ≠ "java/lang/invoke/VarHandle" ∧ (parseMethodDescriptor mX4_lowestOf.1.desc).map (fun d => d.parameters.length) = some 1)) ∧ Cond.instanceMethod mX4_lowestOf.1 ∈ gw ∧ Cond.selects mX4_lowestOf.1.cls mX4_lowestOf.1 mX4_lowestOf.1 ∈ gw := ⟨⟨gw_mem 1154 (by decide +kernel) (by decide +kernel), gw_mem 73 (by decide +kernel) (by decide +kernel), by decide +kernel, by decide +kernel, by decide +kernel⟩, gw_mem 1153 (by decide +kernel) (by decide +kernel), gw_mem 63 (by decide +kernel) (by decide +kernel)⟩
abbrev mX4_isIn : gM := (yX4_isIn, cX4_isIn, 3, some .boolean, 0, 0)
theorem gm_X4_isIn : (Cond.code mX4_isIn.1 mX4_isIn.2.1 mX4_isIn.2.2.1 mX4_isIn.2.2.2.1 ∈ gw ∧ Cond.initialized mX4_isIn.1.cls ∈ gw ∧ (mX4_isIn.1.cls ≠ "java/lang/invoke/MethodHandle" ∧ mX4_isIn.1.cls ≠ "java/lang/invoke/VarHandle" ∧ (parseMethodDescriptor mX4_isIn.1.desc).map (fun d => d.parameters.length) = some 3)) ∧ Cond.static mX4_isIn.1 ∈ gw := ⟨⟨gw_mem 854 (by decide +kernel) (by decide +kernel), gw_mem 73 (by decide +kernel) (by decide +kernel), by decide +kernel, by decide +kernel, by decide +kernel⟩, gw_mem 853 (by decide +kernel) (by decide +kernel)⟩
abbrev mX4_bound : gM := (yX4_bound, cX4_bound, 3, some .int, 0, 0)
theorem gm_X4_bound : (Cond.code mX4_bound.1 mX4_bound.2.1 mX4_bound.2.2.1 mX4_bound.2.2.2.1 ∈ gw ∧ Cond.initialized mX4_bound.1.cls ∈ gw ∧ (mX4_bound.1.cls ≠ "java/lang/invoke/MethodHandle" ∧ mX4_bound.1.cls ≠ "java/lang/invoke/VarHandle" ∧ (parseMethodDescriptor mX4_bound.1.desc).map (fun d => d.parameters.length) = some 3)) ∧ Cond.static mX4_bound.1 ∈ gw := ⟨⟨gw_mem 820 (by decide +kernel) (by decide +kernel), gw_mem 73 (by decide +kernel) (by decide +kernel), by decide +kernel, by decide +kernel, by decide +kernel⟩, gw_mem 819 (by decide +kernel) (by decide +kernel)⟩
abbrev mX4_held : gM := (yX4_held, cX4_held, 2, some .int, 0, 0)
theorem gm_X4_held : (Cond.code mX4_held.1 mX4_held.2.1 mX4_held.2.2.1 mX4_held.2.2.2.1 ∈ gw ∧ Cond.initialized mX4_held.1.cls ∈ gw ∧ (mX4_held.1.cls ≠ "java/lang/invoke/MethodHandle" ∧ mX4_held.1.cls ≠ "java/lang/invoke/VarHandle" ∧ (parseMethodDescriptor mX4_held.1.desc).map (fun d => d.parameters.length) = some 2)) ∧ Cond.static mX4_held.1 ∈ gw := ⟨⟨gw_mem 897 (by decide +kernel) (by decide +kernel), gw_mem 73 (by decide +kernel) (by decide +kernel), by decide +kernel, by decide +kernel, by decide +kernel⟩, gw_mem 896 (by decide +kernel) (by decide +kernel)⟩
abbrev mX4_has : gM := (yX4_has, cX4_has, 2, some .boolean, 0, 0)
theorem gm_X4_has : (Cond.code mX4_has.1 mX4_has.2.1 mX4_has.2.2.1 mX4_has.2.2.2.1 ∈ gw ∧ Cond.initialized mX4_has.1.cls ∈ gw ∧ (mX4_has.1.cls ≠ "java/lang/invoke/MethodHandle" ∧ mX4_has.1.cls ≠ "java/lang/invoke/VarHandle" ∧ (parseMethodDescriptor mX4_has.1.desc).map (fun d => d.parameters.length) = some 2)) ∧ Cond.static mX4_has.1 ∈ gw := ⟨⟨gw_mem 1071 (by decide +kernel) (by decide +kernel), gw_mem 73 (by decide +kernel) (by decide +kernel), by decide +kernel, by decide +kernel, by decide +kernel⟩, gw_mem 1070 (by decide +kernel) (by decide +kernel)⟩
abbrev mX4_bits : gM := (yX4_bits, cX4_bits, 3, some .int, 0, 0)
theorem gm_X4_bits : (Cond.code mX4_bits.1 mX4_bits.2.1 mX4_bits.2.2.1 mX4_bits.2.2.2.1 ∈ gw ∧ Cond.initialized mX4_bits.1.cls ∈ gw ∧ (mX4_bits.1.cls ≠ "java/lang/invoke/MethodHandle" ∧ mX4_bits.1.cls ≠ "java/lang/invoke/VarHandle" ∧ (parseMethodDescriptor mX4_bits.1.desc).map (fun d => d.parameters.length) = some 1)) ∧ Cond.static mX4_bits.1 ∈ gw := ⟨⟨gw_mem 1102 (by decide +kernel) (by decide +kernel), gw_mem 73 (by decide +kernel) (by decide +kernel), by decide +kernel, by decide +kernel, by decide +kernel⟩, gw_mem 1101 (by decide +kernel) (by decide +kernel)⟩
abbrev mX4_isSuit : gM := (yX4_isSuit, cX4_isSuit, 2, some .boolean, 0, 0)
theorem gm_X4_isSuit : (Cond.code mX4_isSuit.1 mX4_isSuit.2.1 mX4_isSuit.2.2.1 mX4_isSuit.2.2.2.1 ∈ gw ∧ Cond.initialized mX4_isSuit.1.cls ∈ gw ∧ (mX4_isSuit.1.cls ≠ "java/lang/invoke/MethodHandle" ∧ mX4_isSuit.1.cls ≠ "java/lang/invoke/VarHandle" ∧ (parseMethodDescriptor mX4_isSuit.1.desc).map (fun d => d.parameters.length) = some 1)) ∧ Cond.instanceMethod mX4_isSuit.1 ∈ gw ∧ Cond.selects mX4_isSuit.1.cls mX4_isSuit.1 mX4_isSuit.1 ∈ gw := ⟨⟨gw_mem 933 (by decide +kernel) (by decide +kernel), gw_mem 73 (by decide +kernel) (by decide +kernel), by decide +kernel, by decide +kernel, by decide +kernel⟩, gw_mem 932 (by decide +kernel) (by decide +kernel), gw_mem 42 (by decide +kernel) (by decide +kernel)⟩
abbrev mX4_isCaller : gM := (yX4_isCaller, cX4_isCaller, 2, some .boolean, 0, 0)
theorem gm_X4_isCaller : (Cond.code mX4_isCaller.1 mX4_isCaller.2.1 mX4_isCaller.2.2.1 mX4_isCaller.2.2.2.1 ∈ gw ∧ Cond.initialized mX4_isCaller.1.cls ∈ gw ∧ (mX4_isCaller.1.cls ≠ "java/lang/invoke/MethodHandle" ∧ mX4_isCaller.1.cls ≠ "java/lang/invoke/VarHandle" ∧ (parseMethodDescriptor mX4_isCaller.1.desc).map (fun d => d.parameters.length) = some 1)) ∧ Cond.instanceMethod mX4_isCaller.1 ∈ gw ∧ Cond.selects mX4_isCaller.1.cls mX4_isCaller.1 mX4_isCaller.1 ∈ gw := ⟨⟨gw_mem 937 (by decide +kernel) (by decide +kernel), gw_mem 73 (by decide +kernel) (by decide +kernel), by decide +kernel, by decide +kernel, by decide +kernel⟩, gw_mem 936 (by decide +kernel) (by decide +kernel), gw_mem 43 (by decide +kernel) (by decide +kernel)⟩
abbrev mX4_letter : gM := (yX4_letter, cX4_letter, 3, some .int, 1, 40)
theorem gm_X4_letter : (Cond.code mX4_letter.1 mX4_letter.2.1 mX4_letter.2.2.1 mX4_letter.2.2.2.1 ∈ gw ∧ Cond.initialized mX4_letter.1.cls ∈ gw ∧ (mX4_letter.1.cls ≠ "java/lang/invoke/MethodHandle" ∧ mX4_letter.1.cls ≠ "java/lang/invoke/VarHandle" ∧ (parseMethodDescriptor mX4_letter.1.desc).map (fun d => d.parameters.length) = some 1)) ∧ Cond.instanceMethod mX4_letter.1 ∈ gw ∧ Cond.selects mX4_letter.1.cls mX4_letter.1 mX4_letter.1 ∈ gw := ⟨⟨gw_mem 817 (by decide +kernel) (by decide +kernel), gw_mem 73 (by decide +kernel) (by decide +kernel), by decide +kernel, by decide +kernel, by decide +kernel⟩, gw_mem 815 (by decide +kernel) (by decide +kernel), gw_mem 816 (by decide +kernel) (by decide +kernel)⟩
abbrev mX4_letterNow : gM := (yX4_letterNow, cX4_letterNow, 1, some .int, 0, 0)
theorem gm_X4_letterNow : (Cond.code mX4_letterNow.1 mX4_letterNow.2.1 mX4_letterNow.2.2.1 mX4_letterNow.2.2.2.1 ∈ gw ∧ Cond.initialized mX4_letterNow.1.cls ∈ gw ∧ (mX4_letterNow.1.cls ≠ "java/lang/invoke/MethodHandle" ∧ mX4_letterNow.1.cls ≠ "java/lang/invoke/VarHandle" ∧ (parseMethodDescriptor mX4_letterNow.1.desc).map (fun d => d.parameters.length) = some 0)) ∧ Cond.instanceMethod mX4_letterNow.1 ∈ gw ∧ Cond.selects mX4_letterNow.1.cls mX4_letterNow.1 mX4_letterNow.1 ∈ gw := ⟨⟨gw_mem 836 (by decide +kernel) (by decide +kernel), gw_mem 73 (by decide +kernel) (by decide +kernel), by decide +kernel, by decide +kernel, by decide +kernel⟩, gw_mem 835 (by decide +kernel) (by decide +kernel), gw_mem 20 (by decide +kernel) (by decide +kernel)⟩
abbrev mX4_readsDigits : gM := (yX4_readsDigits, cX4_readsDigits, 5, some .boolean, 1, 40)
theorem gm_X4_readsDigits : (Cond.code mX4_readsDigits.1 mX4_readsDigits.2.1 mX4_readsDigits.2.2.1 mX4_readsDigits.2.2.2.1 ∈ gw ∧ Cond.initialized mX4_readsDigits.1.cls ∈ gw ∧ (mX4_readsDigits.1.cls ≠ "java/lang/invoke/MethodHandle" ∧ mX4_readsDigits.1.cls ≠ "java/lang/invoke/VarHandle" ∧ (parseMethodDescriptor mX4_readsDigits.1.desc).map (fun d => d.parameters.length) = some 2)) ∧ Cond.instanceMethod mX4_readsDigits.1 ∈ gw ∧ Cond.selects mX4_readsDigits.1.cls mX4_readsDigits.1 mX4_readsDigits.1 ∈ gw := ⟨⟨gw_mem 851 (by decide +kernel) (by decide +kernel), gw_mem 73 (by decide +kernel) (by decide +kernel), by decide +kernel, by decide +kernel, by decide +kernel⟩, gw_mem 850 (by decide +kernel) (by decide +kernel), gw_mem 23 (by decide +kernel) (by decide +kernel)⟩
abbrev mX4_kindOf : gM := (yX4_kindOf, cX4_kindOf, 1, some .int, 0, 0)
theorem gm_X4_kindOf : (Cond.code mX4_kindOf.1 mX4_kindOf.2.1 mX4_kindOf.2.2.1 mX4_kindOf.2.2.2.1 ∈ gw ∧ Cond.initialized mX4_kindOf.1.cls ∈ gw ∧ (mX4_kindOf.1.cls ≠ "java/lang/invoke/MethodHandle" ∧ mX4_kindOf.1.cls ≠ "java/lang/invoke/VarHandle" ∧ (parseMethodDescriptor mX4_kindOf.1.desc).map (fun d => d.parameters.length) = some 1)) ∧ Cond.static mX4_kindOf.1 ∈ gw := ⟨⟨gw_mem 847 (by decide +kernel) (by decide +kernel), gw_mem 73 (by decide +kernel) (by decide +kernel), by decide +kernel, by decide +kernel, by decide +kernel⟩, gw_mem 846 (by decide +kernel) (by decide +kernel)⟩
abbrev mX4_readsSuit : gM := (yX4_readsSuit, cX4_readsSuit, 2, some .boolean, 2, 80)
theorem gm_X4_readsSuit : (Cond.code mX4_readsSuit.1 mX4_readsSuit.2.1 mX4_readsSuit.2.2.1 mX4_readsSuit.2.2.2.1 ∈ gw ∧ Cond.initialized mX4_readsSuit.1.cls ∈ gw ∧ (mX4_readsSuit.1.cls ≠ "java/lang/invoke/MethodHandle" ∧ mX4_readsSuit.1.cls ≠ "java/lang/invoke/VarHandle" ∧ (parseMethodDescriptor mX4_readsSuit.1.desc).map (fun d => d.parameters.length) = some 1)) ∧ Cond.instanceMethod mX4_readsSuit.1 ∈ gw ∧ Cond.selects mX4_readsSuit.1.cls mX4_readsSuit.1 mX4_readsSuit.1 ∈ gw := ⟨⟨gw_mem 844 (by decide +kernel) (by decide +kernel), gw_mem 73 (by decide +kernel) (by decide +kernel), by decide +kernel, by decide +kernel, by decide +kernel⟩, gw_mem 843 (by decide +kernel) (by decide +kernel), gw_mem 22 (by decide +kernel) (by decide +kernel)⟩
abbrev mX4_readsAll : gM := (yX4_readsAll, cX4_readsAll, 3, some .boolean, 3, 120)
theorem gm_X4_readsAll : (Cond.code mX4_readsAll.1 mX4_readsAll.2.1 mX4_readsAll.2.2.1 mX4_readsAll.2.2.2.1 ∈ gw ∧ Cond.initialized mX4_readsAll.1.cls ∈ gw ∧ (mX4_readsAll.1.cls ≠ "java/lang/invoke/MethodHandle" ∧ mX4_readsAll.1.cls ≠ "java/lang/invoke/VarHandle" ∧ (parseMethodDescriptor mX4_readsAll.1.desc).map (fun d => d.parameters.length) = some 2)) ∧ Cond.instanceMethod mX4_readsAll.1 ∈ gw ∧ Cond.selects mX4_readsAll.1.cls mX4_readsAll.1 mX4_readsAll.1 ∈ gw := ⟨⟨gw_mem 840 (by decide +kernel) (by decide +kernel), gw_mem 73 (by decide +kernel) (by decide +kernel), by decide +kernel, by decide +kernel, by decide +kernel⟩, gw_mem 839 (by decide +kernel) (by decide +kernel), gw_mem 21 (by decide +kernel) (by decide +kernel)⟩
abbrev mX4_statement : gM := (yX4_statement, cX4_statement, 2, some .boolean, 4, 160)
theorem gm_X4_statement : (Cond.code mX4_statement.1 mX4_statement.2.1 mX4_statement.2.2.1 mX4_statement.2.2.2.1 ∈ gw ∧ Cond.initialized mX4_statement.1.cls ∈ gw ∧ (mX4_statement.1.cls ≠ "java/lang/invoke/MethodHandle" ∧ mX4_statement.1.cls ≠ "java/lang/invoke/VarHandle" ∧ (parseMethodDescriptor mX4_statement.1.desc).map (fun d => d.parameters.length) = some 0)) ∧ Cond.instanceMethod mX4_statement.1 ∈ gw ∧ Cond.selects mX4_statement.1.cls mX4_statement.1 mX4_statement.1 ∈ gw := ⟨⟨gw_mem 832 (by decide +kernel) (by decide +kernel), gw_mem 73 (by decide +kernel) (by decide +kernel), by decide +kernel, by decide +kernel, by decide +kernel⟩, gw_mem 831 (by decide +kernel) (by decide +kernel), gw_mem 19 (by decide +kernel) (by decide +kernel)⟩
abbrev mX4_comesSuit : gM := (yX4_comesSuit, cX4_comesSuit, 3, some .boolean, 0, 0)
theorem gm_X4_comesSuit : (Cond.code mX4_comesSuit.1 mX4_comesSuit.2.1 mX4_comesSuit.2.2.1 mX4_comesSuit.2.2.2.1 ∈ gw ∧ Cond.initialized mX4_comesSuit.1.cls ∈ gw ∧ (mX4_comesSuit.1.cls ≠ "java/lang/invoke/MethodHandle" ∧ mX4_comesSuit.1.cls ≠ "java/lang/invoke/VarHandle" ∧ (parseMethodDescriptor mX4_comesSuit.1.desc).map (fun d => d.parameters.length) = some 2)) ∧ Cond.instanceMethod mX4_comesSuit.1 ∈ gw ∧ Cond.selects mX4_comesSuit.1.cls mX4_comesSuit.1 mX4_comesSuit.1 ∈ gw := ⟨⟨gw_mem 874 (by decide +kernel) (by decide +kernel), gw_mem 73 (by decide +kernel) (by decide +kernel), by decide +kernel, by decide +kernel, by decide +kernel⟩, gw_mem 873 (by decide +kernel) (by decide +kernel), gw_mem 28 (by decide +kernel) (by decide +kernel)⟩
abbrev mX4_comesCaller : gM := (yX4_comesCaller, cX4_comesCaller, 2, some .boolean, 0, 0)
theorem gm_X4_comesCaller : (Cond.code mX4_comesCaller.1 mX4_comesCaller.2.1 mX4_comesCaller.2.2.1 mX4_comesCaller.2.2.2.1 ∈ gw ∧ Cond.initialized mX4_comesCaller.1.cls ∈ gw ∧ (mX4_comesCaller.1.cls ≠ "java/lang/invoke/MethodHandle" ∧ mX4_comesCaller.1.cls ≠ "java/lang/invoke/VarHandle" ∧ (parseMethodDescriptor mX4_comesCaller.1.desc).map (fun d => d.parameters.length) = some 1)) ∧ Cond.instanceMethod mX4_comesCaller.1 ∈ gw ∧ Cond.selects mX4_comesCaller.1.cls mX4_comesCaller.1 mX4_comesCaller.1 ∈ gw := ⟨⟨gw_mem 878 (by decide +kernel) (by decide +kernel), gw_mem 73 (by decide +kernel) (by decide +kernel), by decide +kernel, by decide +kernel, by decide +kernel⟩, gw_mem 877 (by decide +kernel) (by decide +kernel), gw_mem 29 (by decide +kernel) (by decide +kernel)⟩
abbrev mX4_comesOf : gM := (yX4_comesOf, cX4_comesOf, 4, some .boolean, 2, 80)
theorem gm_X4_comesOf : (Cond.code mX4_comesOf.1 mX4_comesOf.2.1 mX4_comesOf.2.2.1 mX4_comesOf.2.2.2.1 ∈ gw ∧ Cond.initialized mX4_comesOf.1.cls ∈ gw ∧ (mX4_comesOf.1.cls ≠ "java/lang/invoke/MethodHandle" ∧ mX4_comesOf.1.cls ≠ "java/lang/invoke/VarHandle" ∧ (parseMethodDescriptor mX4_comesOf.1.desc).map (fun d => d.parameters.length) = some 3)) ∧ Cond.instanceMethod mX4_comesOf.1 ∈ gw ∧ Cond.selects mX4_comesOf.1.cls mX4_comesOf.1 mX4_comesOf.1 ∈ gw := ⟨⟨gw_mem 929 (by decide +kernel) (by decide +kernel), gw_mem 73 (by decide +kernel) (by decide +kernel), by decide +kernel, by decide +kernel, by decide +kernel⟩, gw_mem 928 (by decide +kernel) (by decide +kernel), gw_mem 41 (by decide +kernel) (by decide +kernel)⟩
abbrev mX4_comesDays : gM := (yX4_comesDays, cX4_comesDays, 2, some .boolean, 6, 240)
theorem gm_X4_comesDays : (Cond.code mX4_comesDays.1 mX4_comesDays.2.1 mX4_comesDays.2.2.1 mX4_comesDays.2.2.2.1 ∈ gw ∧ Cond.initialized mX4_comesDays.1.cls ∈ gw ∧ (mX4_comesDays.1.cls ≠ "java/lang/invoke/MethodHandle" ∧ mX4_comesDays.1.cls ≠ "java/lang/invoke/VarHandle" ∧ (parseMethodDescriptor mX4_comesDays.1.desc).map (fun d => d.parameters.length) = some 1)) ∧ Cond.instanceMethod mX4_comesDays.1 ∈ gw ∧ Cond.selects mX4_comesDays.1.cls mX4_comesDays.1 mX4_comesDays.1 ∈ gw := ⟨⟨gw_mem 882 (by decide +kernel) (by decide +kernel), gw_mem 73 (by decide +kernel) (by decide +kernel), by decide +kernel, by decide +kernel, by decide +kernel⟩, gw_mem 881 (by decide +kernel) (by decide +kernel), gw_mem 30 (by decide +kernel) (by decide +kernel)⟩
abbrev mX4_comes : gM := (yX4_comes, cX4_comes, 3, some .boolean, 7, 280)
theorem gm_X4_comes : (Cond.code mX4_comes.1 mX4_comes.2.1 mX4_comes.2.2.1 mX4_comes.2.2.2.1 ∈ gw ∧ Cond.initialized mX4_comes.1.cls ∈ gw ∧ (mX4_comes.1.cls ≠ "java/lang/invoke/MethodHandle" ∧ mX4_comes.1.cls ≠ "java/lang/invoke/VarHandle" ∧ (parseMethodDescriptor mX4_comes.1.desc).map (fun d => d.parameters.length) = some 1)) ∧ Cond.instanceMethod mX4_comes.1 ∈ gw ∧ Cond.selects mX4_comes.1.cls mX4_comes.1 mX4_comes.1 ∈ gw := ⟨⟨gw_mem 870 (by decide +kernel) (by decide +kernel), gw_mem 73 (by decide +kernel) (by decide +kernel), by decide +kernel, by decide +kernel, by decide +kernel⟩, gw_mem 869 (by decide +kernel) (by decide +kernel), gw_mem 27 (by decide +kernel) (by decide +kernel)⟩
abbrev mX4_city : gM := (yX4_city, cX4_city, 3, some .int, 8, 320)
theorem gm_X4_city : (Cond.code mX4_city.1 mX4_city.2.1 mX4_city.2.2.1 mX4_city.2.2.2.1 ∈ gw ∧ Cond.initialized mX4_city.1.cls ∈ gw ∧ (mX4_city.1.cls ≠ "java/lang/invoke/MethodHandle" ∧ mX4_city.1.cls ≠ "java/lang/invoke/VarHandle" ∧ (parseMethodDescriptor mX4_city.1.desc).map (fun d => d.parameters.length) = some 0)) ∧ Cond.instanceMethod mX4_city.1 ∈ gw ∧ Cond.selects mX4_city.1.cls mX4_city.1 mX4_city.1 ∈ gw := ⟨⟨gw_mem 828 (by decide +kernel) (by decide +kernel), gw_mem 73 (by decide +kernel) (by decide +kernel), by decide +kernel, by decide +kernel, by decide +kernel⟩, gw_mem 826 (by decide +kernel) (by decide +kernel), gw_mem 827 (by decide +kernel) (by decide +kernel)⟩
abbrev mX4_passes : gM := (yX4_passes, cX4_passes, 3, none, 0, 0)
theorem gm_X4_passes : (Cond.code mX4_passes.1 mX4_passes.2.1 mX4_passes.2.2.1 mX4_passes.2.2.2.1 ∈ gw ∧ Cond.initialized mX4_passes.1.cls ∈ gw ∧ (mX4_passes.1.cls ≠ "java/lang/invoke/MethodHandle" ∧ mX4_passes.1.cls ≠ "java/lang/invoke/VarHandle" ∧ (parseMethodDescriptor mX4_passes.1.desc).map (fun d => d.parameters.length) = some 1)) ∧ Cond.instanceMethod mX4_passes.1 ∈ gw ∧ Cond.selects mX4_passes.1.cls mX4_passes.1 mX4_passes.1 ∈ gw := ⟨⟨gw_mem 862 (by decide +kernel) (by decide +kernel), gw_mem 73 (by decide +kernel) (by decide +kernel), by decide +kernel, by decide +kernel, by decide +kernel⟩, gw_mem 861 (by decide +kernel) (by decide +kernel), gw_mem 25 (by decide +kernel) (by decide +kernel)⟩
abbrev mX4_passOne : gM := (yX4_passOne, cX4_passOne, 3, some .int, 0, 0)
theorem gm_X4_passOne : (Cond.code mX4_passOne.1 mX4_passOne.2.1 mX4_passOne.2.2.1 mX4_passOne.2.2.2.1 ∈ gw ∧ Cond.initialized mX4_passOne.1.cls ∈ gw ∧ (mX4_passOne.1.cls ≠ "java/lang/invoke/MethodHandle" ∧ mX4_passOne.1.cls ≠ "java/lang/invoke/VarHandle" ∧ (parseMethodDescriptor mX4_passOne.1.desc).map (fun d => d.parameters.length) = some 1)) ∧ Cond.instanceMethod mX4_passOne.1 ∈ gw ∧ Cond.selects mX4_passOne.1.cls mX4_passOne.1 mX4_passOne.1 ∈ gw := ⟨⟨gw_mem 866 (by decide +kernel) (by decide +kernel), gw_mem 73 (by decide +kernel) (by decide +kernel), by decide +kernel, by decide +kernel, by decide +kernel⟩, gw_mem 865 (by decide +kernel) (by decide +kernel), gw_mem 26 (by decide +kernel) (by decide +kernel)⟩
abbrev mX4_passesAll : gM := (yX4_passesAll, cX4_passesAll, 3, none, 1, 40)
theorem gm_X4_passesAll : (Cond.code mX4_passesAll.1 mX4_passesAll.2.1 mX4_passesAll.2.2.1 mX4_passesAll.2.2.2.1 ∈ gw ∧ Cond.initialized mX4_passesAll.1.cls ∈ gw ∧ (mX4_passesAll.1.cls ≠ "java/lang/invoke/MethodHandle" ∧ mX4_passesAll.1.cls ≠ "java/lang/invoke/VarHandle" ∧ (parseMethodDescriptor mX4_passesAll.1.desc).map (fun d => d.parameters.length) = some 2)) ∧ Cond.instanceMethod mX4_passesAll.1 ∈ gw ∧ Cond.selects mX4_passesAll.1.cls mX4_passesAll.1 mX4_passesAll.1 ∈ gw := ⟨⟨gw_mem 858 (by decide +kernel) (by decide +kernel), gw_mem 73 (by decide +kernel) (by decide +kernel), by decide +kernel, by decide +kernel, by decide +kernel⟩, gw_mem 857 (by decide +kernel) (by decide +kernel), gw_mem 24 (by decide +kernel) (by decide +kernel)⟩
abbrev mX4_thinks : gM := (yX4_thinks, cX4_thinks, 1, none, 2, 80)
theorem gm_X4_thinks : (Cond.code mX4_thinks.1 mX4_thinks.2.1 mX4_thinks.2.2.1 mX4_thinks.2.2.2.1 ∈ gw ∧ Cond.initialized mX4_thinks.1.cls ∈ gw ∧ (mX4_thinks.1.cls ≠ "java/lang/invoke/MethodHandle" ∧ mX4_thinks.1.cls ≠ "java/lang/invoke/VarHandle" ∧ (parseMethodDescriptor mX4_thinks.1.desc).map (fun d => d.parameters.length) = some 0)) ∧ Cond.instanceMethod mX4_thinks.1 ∈ gw ∧ Cond.selects mX4_thinks.1.cls mX4_thinks.1 mX4_thinks.1 ∈ gw := ⟨⟨gw_mem 1020 (by decide +kernel) (by decide +kernel), gw_mem 73 (by decide +kernel) (by decide +kernel), by decide +kernel, by decide +kernel, by decide +kernel⟩, gw_mem 1019 (by decide +kernel) (by decide +kernel), gw_mem 49 (by decide +kernel) (by decide +kernel)⟩
abbrev mX4_forgets : gM := (yX4_forgets, cX4_forgets, 1, none, 2, 80)
theorem gm_X4_forgets : (Cond.code mX4_forgets.1 mX4_forgets.2.1 mX4_forgets.2.2.1 mX4_forgets.2.2.2.1 ∈ gw ∧ Cond.initialized mX4_forgets.1.cls ∈ gw ∧ (mX4_forgets.1.cls ≠ "java/lang/invoke/MethodHandle" ∧ mX4_forgets.1.cls ≠ "java/lang/invoke/VarHandle" ∧ (parseMethodDescriptor mX4_forgets.1.desc).map (fun d => d.parameters.length) = some 0)) ∧ Cond.instanceMethod mX4_forgets.1 ∈ gw ∧ Cond.selects mX4_forgets.1.cls mX4_forgets.1 mX4_forgets.1 ∈ gw := ⟨⟨gw_mem 1024 (by decide +kernel) (by decide +kernel), gw_mem 73 (by decide +kernel) (by decide +kernel), by decide +kernel, by decide +kernel, by decide +kernel⟩, gw_mem 1023 (by decide +kernel) (by decide +kernel), gw_mem 50 (by decide +kernel) (by decide +kernel)⟩
abbrev mX4_image : gM := (yX4_image, cX4_image, 1, some .int, 2, 80)
theorem gm_X4_image : (Cond.code mX4_image.1 mX4_image.2.1 mX4_image.2.2.1 mX4_image.2.2.2.1 ∈ gw ∧ Cond.initialized mX4_image.1.cls ∈ gw ∧ (mX4_image.1.cls ≠ "java/lang/invoke/MethodHandle" ∧ mX4_image.1.cls ≠ "java/lang/invoke/VarHandle" ∧ (parseMethodDescriptor mX4_image.1.desc).map (fun d => d.parameters.length) = some 0)) ∧ Cond.instanceMethod mX4_image.1 ∈ gw ∧ Cond.selects mX4_image.1.cls mX4_image.1 mX4_image.1 ∈ gw := ⟨⟨gw_mem 945 (by decide +kernel) (by decide +kernel), gw_mem 73 (by decide +kernel) (by decide +kernel), by decide +kernel, by decide +kernel, by decide +kernel⟩, gw_mem 943 (by decide +kernel) (by decide +kernel), gw_mem 944 (by decide +kernel) (by decide +kernel)⟩
abbrev mX4_on : gM := (yX4_on, cX4_on, 1, some .int, 2, 80)
theorem gm_X4_on : (Cond.code mX4_on.1 mX4_on.2.1 mX4_on.2.2.1 mX4_on.2.2.2.1 ∈ gw ∧ Cond.initialized mX4_on.1.cls ∈ gw ∧ (mX4_on.1.cls ≠ "java/lang/invoke/MethodHandle" ∧ mX4_on.1.cls ≠ "java/lang/invoke/VarHandle" ∧ (parseMethodDescriptor mX4_on.1.desc).map (fun d => d.parameters.length) = some 0)) ∧ Cond.instanceMethod mX4_on.1 ∈ gw ∧ Cond.selects mX4_on.1.cls mX4_on.1 mX4_on.1 ∈ gw := ⟨⟨gw_mem 949 (by decide +kernel) (by decide +kernel), gw_mem 73 (by decide +kernel) (by decide +kernel), by decide +kernel, by decide +kernel, by decide +kernel⟩, gw_mem 947 (by decide +kernel) (by decide +kernel), gw_mem 948 (by decide +kernel) (by decide +kernel)⟩
abbrev mX4_covers : gM := (yX4_covers, cX4_covers, 3, some .int, 0, 0)
theorem gm_X4_covers : (Cond.code mX4_covers.1 mX4_covers.2.1 mX4_covers.2.2.1 mX4_covers.2.2.2.1 ∈ gw ∧ Cond.initialized mX4_covers.1.cls ∈ gw ∧ (mX4_covers.1.cls ≠ "java/lang/invoke/MethodHandle" ∧ mX4_covers.1.cls ≠ "java/lang/invoke/VarHandle" ∧ (parseMethodDescriptor mX4_covers.1.desc).map (fun d => d.parameters.length) = some 1)) ∧ Cond.instanceMethod mX4_covers.1 ∈ gw ∧ Cond.selects mX4_covers.1.cls mX4_covers.1 mX4_covers.1 ∈ gw := ⟨⟨gw_mem 909 (by decide +kernel) (by decide +kernel), gw_mem 73 (by decide +kernel) (by decide +kernel), by decide +kernel, by decide +kernel, by decide +kernel⟩, gw_mem 908 (by decide +kernel) (by decide +kernel), gw_mem 36 (by decide +kernel) (by decide +kernel)⟩
abbrev mX4_chafes : gM := (yX4_chafes, cX4_chafes, 3, some .int, 0, 0)
theorem gm_X4_chafes : (Cond.code mX4_chafes.1 mX4_chafes.2.1 mX4_chafes.2.2.1 mX4_chafes.2.2.2.1 ∈ gw ∧ Cond.initialized mX4_chafes.1.cls ∈ gw ∧ (mX4_chafes.1.cls ≠ "java/lang/invoke/MethodHandle" ∧ mX4_chafes.1.cls ≠ "java/lang/invoke/VarHandle" ∧ (parseMethodDescriptor mX4_chafes.1.desc).map (fun d => d.parameters.length) = some 2)) ∧ Cond.instanceMethod mX4_chafes.1 ∈ gw ∧ Cond.selects mX4_chafes.1.cls mX4_chafes.1 mX4_chafes.1 ∈ gw := ⟨⟨gw_mem 921 (by decide +kernel) (by decide +kernel), gw_mem 73 (by decide +kernel) (by decide +kernel), by decide +kernel, by decide +kernel, by decide +kernel⟩, gw_mem 920 (by decide +kernel) (by decide +kernel), gw_mem 39 (by decide +kernel) (by decide +kernel)⟩
abbrev mX4_costs : gM := (yX4_costs, cX4_costs, 2, some .int, 0, 0)
theorem gm_X4_costs : (Cond.code mX4_costs.1 mX4_costs.2.1 mX4_costs.2.2.1 mX4_costs.2.2.2.1 ∈ gw ∧ Cond.initialized mX4_costs.1.cls ∈ gw ∧ (mX4_costs.1.cls ≠ "java/lang/invoke/MethodHandle" ∧ mX4_costs.1.cls ≠ "java/lang/invoke/VarHandle" ∧ (parseMethodDescriptor mX4_costs.1.desc).map (fun d => d.parameters.length) = some 1)) ∧ Cond.instanceMethod mX4_costs.1 ∈ gw ∧ Cond.selects mX4_costs.1.cls mX4_costs.1 mX4_costs.1 ∈ gw := ⟨⟨gw_mem 901 (by decide +kernel) (by decide +kernel), gw_mem 73 (by decide +kernel) (by decide +kernel), by decide +kernel, by decide +kernel, by decide +kernel⟩, gw_mem 900 (by decide +kernel) (by decide +kernel), gw_mem 34 (by decide +kernel) (by decide +kernel)⟩
abbrev mX4_wearerOf : gM := (yX4_wearerOf, cX4_wearerOf, 3, some .int, 0, 0)
theorem gm_X4_wearerOf : (Cond.code mX4_wearerOf.1 mX4_wearerOf.2.1 mX4_wearerOf.2.2.1 mX4_wearerOf.2.2.2.1 ∈ gw ∧ Cond.initialized mX4_wearerOf.1.cls ∈ gw ∧ (mX4_wearerOf.1.cls ≠ "java/lang/invoke/MethodHandle" ∧ mX4_wearerOf.1.cls ≠ "java/lang/invoke/VarHandle" ∧ (parseMethodDescriptor mX4_wearerOf.1.desc).map (fun d => d.parameters.length) = some 1)) ∧ Cond.instanceMethod mX4_wearerOf.1 ∈ gw ∧ Cond.selects mX4_wearerOf.1.cls mX4_wearerOf.1 mX4_wearerOf.1 ∈ gw := ⟨⟨gw_mem 925 (by decide +kernel) (by decide +kernel), gw_mem 73 (by decide +kernel) (by decide +kernel), by decide +kernel, by decide +kernel, by decide +kernel⟩, gw_mem 924 (by decide +kernel) (by decide +kernel), gw_mem 40 (by decide +kernel) (by decide +kernel)⟩
abbrev mX4_putsOn : gM := (yX4_putsOn, cX4_putsOn, 4, none, 1, 40)
theorem gm_X4_putsOn : (Cond.code mX4_putsOn.1 mX4_putsOn.2.1 mX4_putsOn.2.2.1 mX4_putsOn.2.2.2.1 ∈ gw ∧ Cond.initialized mX4_putsOn.1.cls ∈ gw ∧ (mX4_putsOn.1.cls ≠ "java/lang/invoke/MethodHandle" ∧ mX4_putsOn.1.cls ≠ "java/lang/invoke/VarHandle" ∧ (parseMethodDescriptor mX4_putsOn.1.desc).map (fun d => d.parameters.length) = some 2)) ∧ Cond.instanceMethod mX4_putsOn.1 ∈ gw ∧ Cond.selects mX4_putsOn.1.cls mX4_putsOn.1 mX4_putsOn.1 ∈ gw := ⟨⟨gw_mem 941 (by decide +kernel) (by decide +kernel), gw_mem 73 (by decide +kernel) (by decide +kernel), by decide +kernel, by decide +kernel, by decide +kernel⟩, gw_mem 940 (by decide +kernel) (by decide +kernel), gw_mem 44 (by decide +kernel) (by decide +kernel)⟩
abbrev mX4_courageIn : gM := (yX4_courageIn, cX4_courageIn, 3, some .int, 0, 0)
theorem gm_X4_courageIn : (Cond.code mX4_courageIn.1 mX4_courageIn.2.1 mX4_courageIn.2.2.1 mX4_courageIn.2.2.2.1 ∈ gw ∧ Cond.initialized mX4_courageIn.1.cls ∈ gw ∧ (mX4_courageIn.1.cls ≠ "java/lang/invoke/MethodHandle" ∧ mX4_courageIn.1.cls ≠ "java/lang/invoke/VarHandle" ∧ (parseMethodDescriptor mX4_courageIn.1.desc).map (fun d => d.parameters.length) = some 2)) ∧ Cond.instanceMethod mX4_courageIn.1 ∈ gw ∧ Cond.selects mX4_courageIn.1.cls mX4_courageIn.1 mX4_courageIn.1 ∈ gw := ⟨⟨gw_mem 917 (by decide +kernel) (by decide +kernel), gw_mem 73 (by decide +kernel) (by decide +kernel), by decide +kernel, by decide +kernel, by decide +kernel⟩, gw_mem 916 (by decide +kernel) (by decide +kernel), gw_mem 38 (by decide +kernel) (by decide +kernel)⟩
abbrev mX4_courageOf : gM := (yX4_courageOf, cX4_courageOf, 2, some .int, 1, 40)
theorem gm_X4_courageOf : (Cond.code mX4_courageOf.1 mX4_courageOf.2.1 mX4_courageOf.2.2.1 mX4_courageOf.2.2.2.1 ∈ gw ∧ Cond.initialized mX4_courageOf.1.cls ∈ gw ∧ (mX4_courageOf.1.cls ≠ "java/lang/invoke/MethodHandle" ∧ mX4_courageOf.1.cls ≠ "java/lang/invoke/VarHandle" ∧ (parseMethodDescriptor mX4_courageOf.1.desc).map (fun d => d.parameters.length) = some 1)) ∧ Cond.instanceMethod mX4_courageOf.1 ∈ gw ∧ Cond.selects mX4_courageOf.1.cls mX4_courageOf.1 mX4_courageOf.1 ∈ gw := ⟨⟨gw_mem 965 (by decide +kernel) (by decide +kernel), gw_mem 73 (by decide +kernel) (by decide +kernel), by decide +kernel, by decide +kernel, by decide +kernel⟩, gw_mem 964 (by decide +kernel) (by decide +kernel), gw_mem 46 (by decide +kernel) (by decide +kernel)⟩
abbrev mX4_isEnough : gM := (yX4_isEnough, cX4_isEnough, 3, some .boolean, 1, 40)
theorem gm_X4_isEnough : (Cond.code mX4_isEnough.1 mX4_isEnough.2.1 mX4_isEnough.2.2.1 mX4_isEnough.2.2.2.1 ∈ gw ∧ Cond.initialized mX4_isEnough.1.cls ∈ gw ∧ (mX4_isEnough.1.cls ≠ "java/lang/invoke/MethodHandle" ∧ mX4_isEnough.1.cls ≠ "java/lang/invoke/VarHandle" ∧ (parseMethodDescriptor mX4_isEnough.1.desc).map (fun d => d.parameters.length) = some 2)) ∧ Cond.instanceMethod mX4_isEnough.1 ∈ gw ∧ Cond.selects mX4_isEnough.1.cls mX4_isEnough.1 mX4_isEnough.1 ∈ gw := ⟨⟨gw_mem 913 (by decide +kernel) (by decide +kernel), gw_mem 73 (by decide +kernel) (by decide +kernel), by decide +kernel, by decide +kernel, by decide +kernel⟩, gw_mem 912 (by decide +kernel) (by decide +kernel), gw_mem 37 (by decide +kernel) (by decide +kernel)⟩
abbrev mX4_canSay : gM := (yX4_canSay, cX4_canSay, 2, some .boolean, 2, 80)
theorem gm_X4_canSay : (Cond.code mX4_canSay.1 mX4_canSay.2.1 mX4_canSay.2.2.1 mX4_canSay.2.2.2.1 ∈ gw ∧ Cond.initialized mX4_canSay.1.cls ∈ gw ∧ (mX4_canSay.1.cls ≠ "java/lang/invoke/MethodHandle" ∧ mX4_canSay.1.cls ≠ "java/lang/invoke/VarHandle" ∧ (parseMethodDescriptor mX4_canSay.1.desc).map (fun d => d.parameters.length) = some 1)) ∧ Cond.instanceMethod mX4_canSay.1 ∈ gw ∧ Cond.selects mX4_canSay.1.cls mX4_canSay.1 mX4_canSay.1 ∈ gw := ⟨⟨gw_mem 905 (by decide +kernel) (by decide +kernel), gw_mem 73 (by decide +kernel) (by decide +kernel), by decide +kernel, by decide +kernel, by decide +kernel⟩, gw_mem 904 (by decide +kernel) (by decide +kernel), gw_mem 35 (by decide +kernel) (by decide +kernel)⟩
abbrev mX4_lacks : gM := (yX4_lacks, cX4_lacks, 2, some .int, 3, 120)
theorem gm_X4_lacks : (Cond.code mX4_lacks.1 mX4_lacks.2.1 mX4_lacks.2.2.1 mX4_lacks.2.2.2.1 ∈ gw ∧ Cond.initialized mX4_lacks.1.cls ∈ gw ∧ (mX4_lacks.1.cls ≠ "java/lang/invoke/MethodHandle" ∧ mX4_lacks.1.cls ≠ "java/lang/invoke/VarHandle" ∧ (parseMethodDescriptor mX4_lacks.1.desc).map (fun d => d.parameters.length) = some 1)) ∧ Cond.instanceMethod mX4_lacks.1 ∈ gw ∧ Cond.selects mX4_lacks.1.cls mX4_lacks.1 mX4_lacks.1 ∈ gw := ⟨⟨gw_mem 961 (by decide +kernel) (by decide +kernel), gw_mem 73 (by decide +kernel) (by decide +kernel), by decide +kernel, by decide +kernel, by decide +kernel⟩, gw_mem 960 (by decide +kernel) (by decide +kernel), gw_mem 45 (by decide +kernel) (by decide +kernel)⟩
abbrev mX4_goesCaller : gM := (yX4_goesCaller, cX4_goesCaller, 4, none, 3, 120)
theorem gm_X4_goesCaller : (Cond.code mX4_goesCaller.1 mX4_goesCaller.2.1 mX4_goesCaller.2.2.1 mX4_goesCaller.2.2.2.1 ∈ gw ∧ Cond.initialized mX4_goesCaller.1.cls ∈ gw ∧ (mX4_goesCaller.1.cls ≠ "java/lang/invoke/MethodHandle" ∧ mX4_goesCaller.1.cls ≠ "java/lang/invoke/VarHandle" ∧ (parseMethodDescriptor mX4_goesCaller.1.desc).map (fun d => d.parameters.length) = some 1)) ∧ Cond.instanceMethod mX4_goesCaller.1 ∈ gw ∧ Cond.selects mX4_goesCaller.1.cls mX4_goesCaller.1 mX4_goesCaller.1 ∈ gw := ⟨⟨gw_mem 894 (by decide +kernel) (by decide +kernel), gw_mem 73 (by decide +kernel) (by decide +kernel), by decide +kernel, by decide +kernel, by decide +kernel⟩, gw_mem 893 (by decide +kernel) (by decide +kernel), gw_mem 33 (by decide +kernel) (by decide +kernel)⟩
abbrev mX4_goesDay : gM := (yX4_goesDay, cX4_goesDay, 2, none, 4, 160)
theorem gm_X4_goesDay : (Cond.code mX4_goesDay.1 mX4_goesDay.2.1 mX4_goesDay.2.2.1 mX4_goesDay.2.2.2.1 ∈ gw ∧ Cond.initialized mX4_goesDay.1.cls ∈ gw ∧ (mX4_goesDay.1.cls ≠ "java/lang/invoke/MethodHandle" ∧ mX4_goesDay.1.cls ≠ "java/lang/invoke/VarHandle" ∧ (parseMethodDescriptor mX4_goesDay.1.desc).map (fun d => d.parameters.length) = some 0)) ∧ Cond.instanceMethod mX4_goesDay.1 ∈ gw ∧ Cond.selects mX4_goesDay.1.cls mX4_goesDay.1 mX4_goesDay.1 ∈ gw := ⟨⟨gw_mem 890 (by decide +kernel) (by decide +kernel), gw_mem 73 (by decide +kernel) (by decide +kernel), by decide +kernel, by decide +kernel, by decide +kernel⟩, gw_mem 889 (by decide +kernel) (by decide +kernel), gw_mem 32 (by decide +kernel) (by decide +kernel)⟩
abbrev mX4_goes : gM := (yX4_goes, cX4_goes, 3, none, 5, 200)
theorem gm_X4_goes : (Cond.code mX4_goes.1 mX4_goes.2.1 mX4_goes.2.2.1 mX4_goes.2.2.2.1 ∈ gw ∧ Cond.initialized mX4_goes.1.cls ∈ gw ∧ (mX4_goes.1.cls ≠ "java/lang/invoke/MethodHandle" ∧ mX4_goes.1.cls ≠ "java/lang/invoke/VarHandle" ∧ (parseMethodDescriptor mX4_goes.1.desc).map (fun d => d.parameters.length) = some 1)) ∧ Cond.instanceMethod mX4_goes.1 ∈ gw ∧ Cond.selects mX4_goes.1.cls mX4_goes.1 mX4_goes.1 ∈ gw := ⟨⟨gw_mem 886 (by decide +kernel) (by decide +kernel), gw_mem 73 (by decide +kernel) (by decide +kernel), by decide +kernel, by decide +kernel, by decide +kernel⟩, gw_mem 885 (by decide +kernel) (by decide +kernel), gw_mem 31 (by decide +kernel) (by decide +kernel)⟩
abbrev mX4_allOf : gM := (yX4_allOf, cX4_allOf, 4, some .int, 0, 0)
theorem gm_X4_allOf : (Cond.code mX4_allOf.1 mX4_allOf.2.1 mX4_allOf.2.2.1 mX4_allOf.2.2.2.1 ∈ gw ∧ Cond.initialized mX4_allOf.1.cls ∈ gw ∧ (mX4_allOf.1.cls ≠ "java/lang/invoke/MethodHandle" ∧ mX4_allOf.1.cls ≠ "java/lang/invoke/VarHandle" ∧ (parseMethodDescriptor mX4_allOf.1.desc).map (fun d => d.parameters.length) = some 1)) ∧ Cond.instanceMethod mX4_allOf.1 ∈ gw ∧ Cond.selects mX4_allOf.1.cls mX4_allOf.1 mX4_allOf.1 ∈ gw := ⟨⟨gw_mem 1009 (by decide +kernel) (by decide +kernel), gw_mem 73 (by decide +kernel) (by decide +kernel), by decide +kernel, by decide +kernel, by decide +kernel⟩, gw_mem 1008 (by decide +kernel) (by decide +kernel), gw_mem 48 (by decide +kernel) (by decide +kernel)⟩
abbrev mX4_suit : gM := (yX4_suit, cX4_suit, 3, some .int, 1, 40)
theorem gm_X4_suit : (Cond.code mX4_suit.1 mX4_suit.2.1 mX4_suit.2.2.1 mX4_suit.2.2.2.1 ∈ gw ∧ Cond.initialized mX4_suit.1.cls ∈ gw ∧ (mX4_suit.1.cls ≠ "java/lang/invoke/MethodHandle" ∧ mX4_suit.1.cls ≠ "java/lang/invoke/VarHandle" ∧ (parseMethodDescriptor mX4_suit.1.desc).map (fun d => d.parameters.length) = some 2)) ∧ Cond.instanceMethod mX4_suit.1 ∈ gw ∧ Cond.selects mX4_suit.1.cls mX4_suit.1 mX4_suit.1 ∈ gw := ⟨⟨gw_mem 953 (by decide +kernel) (by decide +kernel), gw_mem 73 (by decide +kernel) (by decide +kernel), by decide +kernel, by decide +kernel, by decide +kernel⟩, gw_mem 951 (by decide +kernel) (by decide +kernel), gw_mem 952 (by decide +kernel) (by decide +kernel)⟩
abbrev mX4_caller : gM := (yX4_caller, cX4_caller, 3, some .int, 4, 160)
theorem gm_X4_caller : (Cond.code mX4_caller.1 mX4_caller.2.1 mX4_caller.2.2.1 mX4_caller.2.2.2.1 ∈ gw ∧ Cond.initialized mX4_caller.1.cls ∈ gw ∧ (mX4_caller.1.cls ≠ "java/lang/invoke/MethodHandle" ∧ mX4_caller.1.cls ≠ "java/lang/invoke/VarHandle" ∧ (parseMethodDescriptor mX4_caller.1.desc).map (fun d => d.parameters.length) = some 2)) ∧ Cond.instanceMethod mX4_caller.1 ∈ gw ∧ Cond.selects mX4_caller.1.cls mX4_caller.1 mX4_caller.1 ∈ gw := ⟨⟨gw_mem 957 (by decide +kernel) (by decide +kernel), gw_mem 73 (by decide +kernel) (by decide +kernel), by decide +kernel, by decide +kernel, by decide +kernel⟩, gw_mem 955 (by decide +kernel) (by decide +kernel), gw_mem 956 (by decide +kernel) (by decide +kernel)⟩
abbrev mX4_courage : gM := (yX4_courage, cX4_courage, 2, some .int, 2, 80)
theorem gm_X4_courage : (Cond.code mX4_courage.1 mX4_courage.2.1 mX4_courage.2.2.1 mX4_courage.2.2.2.1 ∈ gw ∧ Cond.initialized mX4_courage.1.cls ∈ gw ∧ (mX4_courage.1.cls ≠ "java/lang/invoke/MethodHandle" ∧ mX4_courage.1.cls ≠ "java/lang/invoke/VarHandle" ∧ (parseMethodDescriptor mX4_courage.1.desc).map (fun d => d.parameters.length) = some 1)) ∧ Cond.instanceMethod mX4_courage.1 ∈ gw ∧ Cond.selects mX4_courage.1.cls mX4_courage.1 mX4_courage.1 ∈ gw := ⟨⟨gw_mem 969 (by decide +kernel) (by decide +kernel), gw_mem 73 (by decide +kernel) (by decide +kernel), by decide +kernel, by decide +kernel, by decide +kernel⟩, gw_mem 967 (by decide +kernel) (by decide +kernel), gw_mem 968 (by decide +kernel) (by decide +kernel)⟩
abbrev mX4_suitOf : gM := (yX4_suitOf, cX4_suitOf, 1, some .int, 0, 0)
theorem gm_X4_suitOf : (Cond.code mX4_suitOf.1 mX4_suitOf.2.1 mX4_suitOf.2.2.1 mX4_suitOf.2.2.2.1 ∈ gw ∧ Cond.initialized mX4_suitOf.1.cls ∈ gw ∧ (mX4_suitOf.1.cls ≠ "java/lang/invoke/MethodHandle" ∧ mX4_suitOf.1.cls ≠ "java/lang/invoke/VarHandle" ∧ (parseMethodDescriptor mX4_suitOf.1.desc).map (fun d => d.parameters.length) = some 1)) ∧ Cond.static mX4_suitOf.1 ∈ gw := ⟨⟨gw_mem 981 (by decide +kernel) (by decide +kernel), gw_mem 73 (by decide +kernel) (by decide +kernel), by decide +kernel, by decide +kernel, by decide +kernel⟩, gw_mem 980 (by decide +kernel) (by decide +kernel)⟩
abbrev mX4_wears : gM := (yX4_wears, cX4_wears, 4, some .int, 2, 80)
theorem gm_X4_wears : (Cond.code mX4_wears.1 mX4_wears.2.1 mX4_wears.2.2.1 mX4_wears.2.2.2.1 ∈ gw ∧ Cond.initialized mX4_wears.1.cls ∈ gw ∧ (mX4_wears.1.cls ≠ "java/lang/invoke/MethodHandle" ∧ mX4_wears.1.cls ≠ "java/lang/invoke/VarHandle" ∧ (parseMethodDescriptor mX4_wears.1.desc).map (fun d => d.parameters.length) = some 2)) ∧ Cond.instanceMethod mX4_wears.1 ∈ gw ∧ Cond.selects mX4_wears.1.cls mX4_wears.1 mX4_wears.1 ∈ gw := ⟨⟨gw_mem 978 (by decide +kernel) (by decide +kernel), gw_mem 73 (by decide +kernel) (by decide +kernel), by decide +kernel, by decide +kernel, by decide +kernel⟩, gw_mem 976 (by decide +kernel) (by decide +kernel), gw_mem 977 (by decide +kernel) (by decide +kernel)⟩
abbrev mX4_takesOff : gM := (yX4_takesOff, cX4_takesOff, 4, some .int, 1, 40)
theorem gm_X4_takesOff : (Cond.code mX4_takesOff.1 mX4_takesOff.2.1 mX4_takesOff.2.2.1 mX4_takesOff.2.2.2.1 ∈ gw ∧ Cond.initialized mX4_takesOff.1.cls ∈ gw ∧ (mX4_takesOff.1.cls ≠ "java/lang/invoke/MethodHandle" ∧ mX4_takesOff.1.cls ≠ "java/lang/invoke/VarHandle" ∧ (parseMethodDescriptor mX4_takesOff.1.desc).map (fun d => d.parameters.length) = some 1)) ∧ Cond.instanceMethod mX4_takesOff.1 ∈ gw ∧ Cond.selects mX4_takesOff.1.cls mX4_takesOff.1 mX4_takesOff.1 ∈ gw := ⟨⟨gw_mem 985 (by decide +kernel) (by decide +kernel), gw_mem 73 (by decide +kernel) (by decide +kernel), by decide +kernel, by decide +kernel, by decide +kernel⟩, gw_mem 983 (by decide +kernel) (by decide +kernel), gw_mem 984 (by decide +kernel) (by decide +kernel)⟩
abbrev mX4_fears : gM := (yX4_fears, cX4_fears, 5, some .int, 1, 40)
theorem gm_X4_fears : (Cond.code mX4_fears.1 mX4_fears.2.1 mX4_fears.2.2.1 mX4_fears.2.2.2.1 ∈ gw ∧ Cond.initialized mX4_fears.1.cls ∈ gw ∧ (mX4_fears.1.cls ≠ "java/lang/invoke/MethodHandle" ∧ mX4_fears.1.cls ≠ "java/lang/invoke/VarHandle" ∧ (parseMethodDescriptor mX4_fears.1.desc).map (fun d => d.parameters.length) = some 2)) ∧ Cond.instanceMethod mX4_fears.1 ∈ gw ∧ Cond.selects mX4_fears.1.cls mX4_fears.1 mX4_fears.1 ∈ gw := ⟨⟨gw_mem 989 (by decide +kernel) (by decide +kernel), gw_mem 73 (by decide +kernel) (by decide +kernel), by decide +kernel, by decide +kernel, by decide +kernel⟩, gw_mem 987 (by decide +kernel) (by decide +kernel), gw_mem 988 (by decide +kernel) (by decide +kernel)⟩
abbrev mX4_rusts : gM := (yX4_rusts, cX4_rusts, 5, some .int, 1, 40)
theorem gm_X4_rusts : (Cond.code mX4_rusts.1 mX4_rusts.2.1 mX4_rusts.2.2.1 mX4_rusts.2.2.2.1 ∈ gw ∧ Cond.initialized mX4_rusts.1.cls ∈ gw ∧ (mX4_rusts.1.cls ≠ "java/lang/invoke/MethodHandle" ∧ mX4_rusts.1.cls ≠ "java/lang/invoke/VarHandle" ∧ (parseMethodDescriptor mX4_rusts.1.desc).map (fun d => d.parameters.length) = some 2)) ∧ Cond.instanceMethod mX4_rusts.1 ∈ gw ∧ Cond.selects mX4_rusts.1.cls mX4_rusts.1 mX4_rusts.1 ∈ gw := ⟨⟨gw_mem 993 (by decide +kernel) (by decide +kernel), gw_mem 73 (by decide +kernel) (by decide +kernel), by decide +kernel, by decide +kernel, by decide +kernel⟩, gw_mem 991 (by decide +kernel) (by decide +kernel), gw_mem 992 (by decide +kernel) (by decide +kernel)⟩
abbrev mX4_soothes : gM := (yX4_soothes, cX4_soothes, 5, some .int, 1, 40)
theorem gm_X4_soothes : (Cond.code mX4_soothes.1 mX4_soothes.2.1 mX4_soothes.2.2.1 mX4_soothes.2.2.2.1 ∈ gw ∧ Cond.initialized mX4_soothes.1.cls ∈ gw ∧ (mX4_soothes.1.cls ≠ "java/lang/invoke/MethodHandle" ∧ mX4_soothes.1.cls ≠ "java/lang/invoke/VarHandle" ∧ (parseMethodDescriptor mX4_soothes.1.desc).map (fun d => d.parameters.length) = some 2)) ∧ Cond.instanceMethod mX4_soothes.1 ∈ gw ∧ Cond.selects mX4_soothes.1.cls mX4_soothes.1 mX4_soothes.1 ∈ gw := ⟨⟨gw_mem 997 (by decide +kernel) (by decide +kernel), gw_mem 73 (by decide +kernel) (by decide +kernel), by decide +kernel, by decide +kernel, by decide +kernel⟩, gw_mem 995 (by decide +kernel) (by decide +kernel), gw_mem 996 (by decide +kernel) (by decide +kernel)⟩
abbrev mX4_turn : gM := (yX4_turn, cX4_turn, 6, some .int, 1, 40)
theorem gm_X4_turn : (Cond.code mX4_turn.1 mX4_turn.2.1 mX4_turn.2.2.1 mX4_turn.2.2.2.1 ∈ gw ∧ Cond.initialized mX4_turn.1.cls ∈ gw ∧ (mX4_turn.1.cls ≠ "java/lang/invoke/MethodHandle" ∧ mX4_turn.1.cls ≠ "java/lang/invoke/VarHandle" ∧ (parseMethodDescriptor mX4_turn.1.desc).map (fun d => d.parameters.length) = some 3)) ∧ Cond.instanceMethod mX4_turn.1 ∈ gw ∧ Cond.selects mX4_turn.1.cls mX4_turn.1 mX4_turn.1 ∈ gw := ⟨⟨gw_mem 1001 (by decide +kernel) (by decide +kernel), gw_mem 73 (by decide +kernel) (by decide +kernel), by decide +kernel, by decide +kernel, by decide +kernel⟩, gw_mem 999 (by decide +kernel) (by decide +kernel), gw_mem 1000 (by decide +kernel) (by decide +kernel)⟩
abbrev mX4_days : gM := (yX4_days, cX4_days, 3, some .int, 6, 240)
theorem gm_X4_days : (Cond.code mX4_days.1 mX4_days.2.1 mX4_days.2.2.1 mX4_days.2.2.2.1 ∈ gw ∧ Cond.initialized mX4_days.1.cls ∈ gw ∧ (mX4_days.1.cls ≠ "java/lang/invoke/MethodHandle" ∧ mX4_days.1.cls ≠ "java/lang/invoke/VarHandle" ∧ (parseMethodDescriptor mX4_days.1.desc).map (fun d => d.parameters.length) = some 1)) ∧ Cond.instanceMethod mX4_days.1 ∈ gw ∧ Cond.selects mX4_days.1.cls mX4_days.1 mX4_days.1 ∈ gw := ⟨⟨gw_mem 1005 (by decide +kernel) (by decide +kernel), gw_mem 73 (by decide +kernel) (by decide +kernel), by decide +kernel, by decide +kernel, by decide +kernel⟩, gw_mem 1003 (by decide +kernel) (by decide +kernel), gw_mem 1004 (by decide +kernel) (by decide +kernel)⟩
abbrev mX4_notDays : gM := (yX4_notDays, cX4_notDays, 1, some .int, 1, 40)
theorem gm_X4_notDays : (Cond.code mX4_notDays.1 mX4_notDays.2.1 mX4_notDays.2.2.1 mX4_notDays.2.2.2.1 ∈ gw ∧ Cond.initialized mX4_notDays.1.cls ∈ gw ∧ (mX4_notDays.1.cls ≠ "java/lang/invoke/MethodHandle" ∧ mX4_notDays.1.cls ≠ "java/lang/invoke/VarHandle" ∧ (parseMethodDescriptor mX4_notDays.1.desc).map (fun d => d.parameters.length) = some 1)) ∧ Cond.static mX4_notDays.1 ∈ gw := ⟨⟨gw_mem 1016 (by decide +kernel) (by decide +kernel), gw_mem 73 (by decide +kernel) (by decide +kernel), by decide +kernel, by decide +kernel, by decide +kernel⟩, gw_mem 1015 (by decide +kernel) (by decide +kernel)⟩
abbrev mX4_callerThen : gM := (yX4_callerThen, cX4_callerThen, 6, some .int, 6, 240)
theorem gm_X4_callerThen : (Cond.code mX4_callerThen.1 mX4_callerThen.2.1 mX4_callerThen.2.2.1 mX4_callerThen.2.2.2.1 ∈ gw ∧ Cond.initialized mX4_callerThen.1.cls ∈ gw ∧ (mX4_callerThen.1.cls ≠ "java/lang/invoke/MethodHandle" ∧ mX4_callerThen.1.cls ≠ "java/lang/invoke/VarHandle" ∧ (parseMethodDescriptor mX4_callerThen.1.desc).map (fun d => d.parameters.length) = some 3)) ∧ Cond.instanceMethod mX4_callerThen.1 ∈ gw ∧ Cond.selects mX4_callerThen.1.cls mX4_callerThen.1 mX4_callerThen.1 ∈ gw := ⟨⟨gw_mem 1013 (by decide +kernel) (by decide +kernel), gw_mem 73 (by decide +kernel) (by decide +kernel), by decide +kernel, by decide +kernel, by decide +kernel⟩, gw_mem 1011 (by decide +kernel) (by decide +kernel), gw_mem 1012 (by decide +kernel) (by decide +kernel)⟩
abbrev mX4_suitThen : gM := (yX4_suitThen, cX4_suitThen, 5, some .int, 6, 240)
theorem gm_X4_suitThen : (Cond.code mX4_suitThen.1 mX4_suitThen.2.1 mX4_suitThen.2.2.1 mX4_suitThen.2.2.2.1 ∈ gw ∧ Cond.initialized mX4_suitThen.1.cls ∈ gw ∧ (mX4_suitThen.1.cls ≠ "java/lang/invoke/MethodHandle" ∧ mX4_suitThen.1.cls ≠ "java/lang/invoke/VarHandle" ∧ (parseMethodDescriptor mX4_suitThen.1.desc).map (fun d => d.parameters.length) = some 2)) ∧ Cond.instanceMethod mX4_suitThen.1 ∈ gw ∧ Cond.selects mX4_suitThen.1.cls mX4_suitThen.1 mX4_suitThen.1 ∈ gw := ⟨⟨gw_mem 1028 (by decide +kernel) (by decide +kernel), gw_mem 73 (by decide +kernel) (by decide +kernel), by decide +kernel, by decide +kernel, by decide +kernel⟩, gw_mem 1026 (by decide +kernel) (by decide +kernel), gw_mem 1027 (by decide +kernel) (by decide +kernel)⟩
abbrev mX4_cost : gM := (yX4_cost, cX4_cost, 5, some .int, 6, 240)
theorem gm_X4_cost : (Cond.code mX4_cost.1 mX4_cost.2.1 mX4_cost.2.2.1 mX4_cost.2.2.2.1 ∈ gw ∧ Cond.initialized mX4_cost.1.cls ∈ gw ∧ (mX4_cost.1.cls ≠ "java/lang/invoke/MethodHandle" ∧ mX4_cost.1.cls ≠ "java/lang/invoke/VarHandle" ∧ (parseMethodDescriptor mX4_cost.1.desc).map (fun d => d.parameters.length) = some 1)) ∧ Cond.instanceMethod mX4_cost.1 ∈ gw ∧ Cond.selects mX4_cost.1.cls mX4_cost.1 mX4_cost.1 ∈ gw := ⟨⟨gw_mem 1032 (by decide +kernel) (by decide +kernel), gw_mem 73 (by decide +kernel) (by decide +kernel), by decide +kernel, by decide +kernel, by decide +kernel⟩, gw_mem 1030 (by decide +kernel) (by decide +kernel), gw_mem 1031 (by decide +kernel) (by decide +kernel)⟩
abbrev mX4_proposesWhen : gM := (yX4_proposesWhen, cX4_proposesWhen, 4, some .int, 5, 200)
theorem gm_X4_proposesWhen : (Cond.code mX4_proposesWhen.1 mX4_proposesWhen.2.1 mX4_proposesWhen.2.2.1 mX4_proposesWhen.2.2.2.1 ∈ gw ∧ Cond.initialized mX4_proposesWhen.1.cls ∈ gw ∧ (mX4_proposesWhen.1.cls ≠ "java/lang/invoke/MethodHandle" ∧ mX4_proposesWhen.1.cls ≠ "java/lang/invoke/VarHandle" ∧ (parseMethodDescriptor mX4_proposesWhen.1.desc).map (fun d => d.parameters.length) = some 1)) ∧ Cond.instanceMethod mX4_proposesWhen.1 ∈ gw ∧ Cond.selects mX4_proposesWhen.1.cls mX4_proposesWhen.1 mX4_proposesWhen.1 ∈ gw := ⟨⟨gw_mem 1044 (by decide +kernel) (by decide +kernel), gw_mem 73 (by decide +kernel) (by decide +kernel), by decide +kernel, by decide +kernel, by decide +kernel⟩, gw_mem 1043 (by decide +kernel) (by decide +kernel), gw_mem 52 (by decide +kernel) (by decide +kernel)⟩
abbrev mX4_firstToPropose : gM := (yX4_firstToPropose, cX4_firstToPropose, 5, some .int, 6, 240)
theorem gm_X4_firstToPropose : (Cond.code mX4_firstToPropose.1 mX4_firstToPropose.2.1 mX4_firstToPropose.2.2.1 mX4_firstToPropose.2.2.2.1 ∈ gw ∧ Cond.initialized mX4_firstToPropose.1.cls ∈ gw ∧ (mX4_firstToPropose.1.cls ≠ "java/lang/invoke/MethodHandle" ∧ mX4_firstToPropose.1.cls ≠ "java/lang/invoke/VarHandle" ∧ (parseMethodDescriptor mX4_firstToPropose.1.desc).map (fun d => d.parameters.length) = some 0)) ∧ Cond.instanceMethod mX4_firstToPropose.1 ∈ gw ∧ Cond.selects mX4_firstToPropose.1.cls mX4_firstToPropose.1 mX4_firstToPropose.1 ∈ gw := ⟨⟨gw_mem 1040 (by decide +kernel) (by decide +kernel), gw_mem 73 (by decide +kernel) (by decide +kernel), by decide +kernel, by decide +kernel, by decide +kernel⟩, gw_mem 1039 (by decide +kernel) (by decide +kernel), gw_mem 51 (by decide +kernel) (by decide +kernel)⟩
abbrev mX4_proposes : gM := (yX4_proposes, cX4_proposes, 2, some .int, 7, 280)
theorem gm_X4_proposes : (Cond.code mX4_proposes.1 mX4_proposes.2.1 mX4_proposes.2.2.1 mX4_proposes.2.2.2.1 ∈ gw ∧ Cond.initialized mX4_proposes.1.cls ∈ gw ∧ (mX4_proposes.1.cls ≠ "java/lang/invoke/MethodHandle" ∧ mX4_proposes.1.cls ≠ "java/lang/invoke/VarHandle" ∧ (parseMethodDescriptor mX4_proposes.1.desc).map (fun d => d.parameters.length) = some 1)) ∧ Cond.instanceMethod mX4_proposes.1 ∈ gw ∧ Cond.selects mX4_proposes.1.cls mX4_proposes.1 mX4_proposes.1 ∈ gw := ⟨⟨gw_mem 1036 (by decide +kernel) (by decide +kernel), gw_mem 73 (by decide +kernel) (by decide +kernel), by decide +kernel, by decide +kernel, by decide +kernel⟩, gw_mem 1034 (by decide +kernel) (by decide +kernel), gw_mem 1035 (by decide +kernel) (by decide +kernel)⟩
abbrev mX4_out : gM := (yX4_out, cX4_out, 4, some .int, 5, 200)
theorem gm_X4_out : (Cond.code mX4_out.1 mX4_out.2.1 mX4_out.2.2.1 mX4_out.2.2.2.1 ∈ gw ∧ Cond.initialized mX4_out.1.cls ∈ gw ∧ (mX4_out.1.cls ≠ "java/lang/invoke/MethodHandle" ∧ mX4_out.1.cls ≠ "java/lang/invoke/VarHandle" ∧ (parseMethodDescriptor mX4_out.1.desc).map (fun d => d.parameters.length) = some 1)) ∧ Cond.instanceMethod mX4_out.1 ∈ gw ∧ Cond.selects mX4_out.1.cls mX4_out.1 mX4_out.1 ∈ gw := ⟨⟨gw_mem 1048 (by decide +kernel) (by decide +kernel), gw_mem 73 (by decide +kernel) (by decide +kernel), by decide +kernel, by decide +kernel, by decide +kernel⟩, gw_mem 1046 (by decide +kernel) (by decide +kernel), gw_mem 1047 (by decide +kernel) (by decide +kernel)⟩
abbrev mX4_saidIn : gM := (yX4_saidIn, cX4_saidIn, 3, some .int, 6, 240)
theorem gm_X4_saidIn : (Cond.code mX4_saidIn.1 mX4_saidIn.2.1 mX4_saidIn.2.2.1 mX4_saidIn.2.2.2.1 ∈ gw ∧ Cond.initialized mX4_saidIn.1.cls ∈ gw ∧ (mX4_saidIn.1.cls ≠ "java/lang/invoke/MethodHandle" ∧ mX4_saidIn.1.cls ≠ "java/lang/invoke/VarHandle" ∧ (parseMethodDescriptor mX4_saidIn.1.desc).map (fun d => d.parameters.length) = some 1)) ∧ Cond.instanceMethod mX4_saidIn.1 ∈ gw ∧ Cond.selects mX4_saidIn.1.cls mX4_saidIn.1 mX4_saidIn.1 ∈ gw := ⟨⟨gw_mem 1056 (by decide +kernel) (by decide +kernel), gw_mem 73 (by decide +kernel) (by decide +kernel), by decide +kernel, by decide +kernel, by decide +kernel⟩, gw_mem 1055 (by decide +kernel) (by decide +kernel), gw_mem 53 (by decide +kernel) (by decide +kernel)⟩
abbrev mX4_still : gM := (yX4_still, cX4_still, 2, some .int, 7, 280)
theorem gm_X4_still : (Cond.code mX4_still.1 mX4_still.2.1 mX4_still.2.2.1 mX4_still.2.2.2.1 ∈ gw ∧ Cond.initialized mX4_still.1.cls ∈ gw ∧ (mX4_still.1.cls ≠ "java/lang/invoke/MethodHandle" ∧ mX4_still.1.cls ≠ "java/lang/invoke/VarHandle" ∧ (parseMethodDescriptor mX4_still.1.desc).map (fun d => d.parameters.length) = some 0)) ∧ Cond.instanceMethod mX4_still.1 ∈ gw ∧ Cond.selects mX4_still.1.cls mX4_still.1 mX4_still.1 ∈ gw := ⟨⟨gw_mem 1052 (by decide +kernel) (by decide +kernel), gw_mem 73 (by decide +kernel) (by decide +kernel), by decide +kernel, by decide +kernel, by decide +kernel⟩, gw_mem 1050 (by decide +kernel) (by decide +kernel), gw_mem 1051 (by decide +kernel) (by decide +kernel)⟩
abbrev mX4_worthIn : gM := (yX4_worthIn, cX4_worthIn, 3, some .int, 2, 80)
theorem gm_X4_worthIn : (Cond.code mX4_worthIn.1 mX4_worthIn.2.1 mX4_worthIn.2.2.1 mX4_worthIn.2.2.2.1 ∈ gw ∧ Cond.initialized mX4_worthIn.1.cls ∈ gw ∧ (mX4_worthIn.1.cls ≠ "java/lang/invoke/MethodHandle" ∧ mX4_worthIn.1.cls ≠ "java/lang/invoke/VarHandle" ∧ (parseMethodDescriptor mX4_worthIn.1.desc).map (fun d => d.parameters.length) = some 2)) ∧ Cond.instanceMethod mX4_worthIn.1 ∈ gw ∧ Cond.selects mX4_worthIn.1.cls mX4_worthIn.1 mX4_worthIn.1 ∈ gw := ⟨⟨gw_mem 1068 (by decide +kernel) (by decide +kernel), gw_mem 73 (by decide +kernel) (by decide +kernel), by decide +kernel, by decide +kernel, by decide +kernel⟩, gw_mem 1067 (by decide +kernel) (by decide +kernel), gw_mem 55 (by decide +kernel) (by decide +kernel)⟩
abbrev mX4_findDressed : gM := (yX4_findDressed, cX4_findDressed, 6, none, 3, 120)
theorem gm_X4_findDressed : (Cond.code mX4_findDressed.1 mX4_findDressed.2.1 mX4_findDressed.2.2.1 mX4_findDressed.2.2.2.1 ∈ gw ∧ Cond.initialized mX4_findDressed.1.cls ∈ gw ∧ (mX4_findDressed.1.cls ≠ "java/lang/invoke/MethodHandle" ∧ mX4_findDressed.1.cls ≠ "java/lang/invoke/VarHandle" ∧ (parseMethodDescriptor mX4_findDressed.1.desc).map (fun d => d.parameters.length) = some 0)) ∧ Cond.instanceMethod mX4_findDressed.1 ∈ gw ∧ Cond.selects mX4_findDressed.1.cls mX4_findDressed.1 mX4_findDressed.1 ∈ gw := ⟨⟨gw_mem 1064 (by decide +kernel) (by decide +kernel), gw_mem 73 (by decide +kernel) (by decide +kernel), by decide +kernel, by decide +kernel, by decide +kernel⟩, gw_mem 1063 (by decide +kernel) (by decide +kernel), gw_mem 54 (by decide +kernel) (by decide +kernel)⟩
abbrev mX4_dressedIn : gM := (yX4_dressedIn, cX4_dressedIn, 4, some .int, 3, 120)
theorem gm_X4_dressedIn : (Cond.code mX4_dressedIn.1 mX4_dressedIn.2.1 mX4_dressedIn.2.2.1 mX4_dressedIn.2.2.2.1 ∈ gw ∧ Cond.initialized mX4_dressedIn.1.cls ∈ gw ∧ (mX4_dressedIn.1.cls ≠ "java/lang/invoke/MethodHandle" ∧ mX4_dressedIn.1.cls ≠ "java/lang/invoke/VarHandle" ∧ (parseMethodDescriptor mX4_dressedIn.1.desc).map (fun d => d.parameters.length) = some 2)) ∧ Cond.instanceMethod mX4_dressedIn.1 ∈ gw ∧ Cond.selects mX4_dressedIn.1.cls mX4_dressedIn.1 mX4_dressedIn.1 ∈ gw := ⟨⟨gw_mem 1075 (by decide +kernel) (by decide +kernel), gw_mem 73 (by decide +kernel) (by decide +kernel), by decide +kernel, by decide +kernel, by decide +kernel⟩, gw_mem 1074 (by decide +kernel) (by decide +kernel), gw_mem 56 (by decide +kernel) (by decide +kernel)⟩
abbrev mX4_dress : gM := (yX4_dress, cX4_dress, 5, some .int, 4, 160)
theorem gm_X4_dress : (Cond.code mX4_dress.1 mX4_dress.2.1 mX4_dress.2.2.1 mX4_dress.2.2.2.1 ∈ gw ∧ Cond.initialized mX4_dress.1.cls ∈ gw ∧ (mX4_dress.1.cls ≠ "java/lang/invoke/MethodHandle" ∧ mX4_dress.1.cls ≠ "java/lang/invoke/VarHandle" ∧ (parseMethodDescriptor mX4_dress.1.desc).map (fun d => d.parameters.length) = some 1)) ∧ Cond.instanceMethod mX4_dress.1 ∈ gw ∧ Cond.selects mX4_dress.1.cls mX4_dress.1 mX4_dress.1 ∈ gw := ⟨⟨gw_mem 1060 (by decide +kernel) (by decide +kernel), gw_mem 73 (by decide +kernel) (by decide +kernel), by decide +kernel, by decide +kernel, by decide +kernel⟩, gw_mem 1058 (by decide +kernel) (by decide +kernel), gw_mem 1059 (by decide +kernel) (by decide +kernel)⟩
abbrev mX4_findSuit : gM := (yX4_findSuit, cX4_findSuit, 5, none, 6, 240)
theorem gm_X4_findSuit : (Cond.code mX4_findSuit.1 mX4_findSuit.2.1 mX4_findSuit.2.2.1 mX4_findSuit.2.2.2.1 ∈ gw ∧ Cond.initialized mX4_findSuit.1.cls ∈ gw ∧ (mX4_findSuit.1.cls ≠ "java/lang/invoke/MethodHandle" ∧ mX4_findSuit.1.cls ≠ "java/lang/invoke/VarHandle" ∧ (parseMethodDescriptor mX4_findSuit.1.desc).map (fun d => d.parameters.length) = some 2)) ∧ Cond.instanceMethod mX4_findSuit.1 ∈ gw ∧ Cond.selects mX4_findSuit.1.cls mX4_findSuit.1 mX4_findSuit.1 ∈ gw := ⟨⟨gw_mem 1083 (by decide +kernel) (by decide +kernel), gw_mem 73 (by decide +kernel) (by decide +kernel), by decide +kernel, by decide +kernel, by decide +kernel⟩, gw_mem 1082 (by decide +kernel) (by decide +kernel), gw_mem 57 (by decide +kernel) (by decide +kernel)⟩
abbrev mX4_suitBest : gM := (yX4_suitBest, cX4_suitBest, 5, some .int, 7, 280)
theorem gm_X4_suitBest : (Cond.code mX4_suitBest.1 mX4_suitBest.2.1 mX4_suitBest.2.2.1 mX4_suitBest.2.2.2.1 ∈ gw ∧ Cond.initialized mX4_suitBest.1.cls ∈ gw ∧ (mX4_suitBest.1.cls ≠ "java/lang/invoke/MethodHandle" ∧ mX4_suitBest.1.cls ≠ "java/lang/invoke/VarHandle" ∧ (parseMethodDescriptor mX4_suitBest.1.desc).map (fun d => d.parameters.length) = some 3)) ∧ Cond.instanceMethod mX4_suitBest.1 ∈ gw ∧ Cond.selects mX4_suitBest.1.cls mX4_suitBest.1 mX4_suitBest.1 ∈ gw := ⟨⟨gw_mem 1079 (by decide +kernel) (by decide +kernel), gw_mem 73 (by decide +kernel) (by decide +kernel), by decide +kernel, by decide +kernel, by decide +kernel⟩, gw_mem 1077 (by decide +kernel) (by decide +kernel), gw_mem 1078 (by decide +kernel) (by decide +kernel)⟩
abbrev mX4_change : gM := (yX4_change, cX4_change, 10, some .int, 7, 280)
theorem gm_X4_change : (Cond.code mX4_change.1 mX4_change.2.1 mX4_change.2.2.1 mX4_change.2.2.2.1 ∈ gw ∧ Cond.initialized mX4_change.1.cls ∈ gw ∧ (mX4_change.1.cls ≠ "java/lang/invoke/MethodHandle" ∧ mX4_change.1.cls ≠ "java/lang/invoke/VarHandle" ∧ (parseMethodDescriptor mX4_change.1.desc).map (fun d => d.parameters.length) = some 1)) ∧ Cond.instanceMethod mX4_change.1 ∈ gw ∧ Cond.selects mX4_change.1.cls mX4_change.1 mX4_change.1 ∈ gw := ⟨⟨gw_mem 1087 (by decide +kernel) (by decide +kernel), gw_mem 73 (by decide +kernel) (by decide +kernel), by decide +kernel, by decide +kernel, by decide +kernel⟩, gw_mem 1085 (by decide +kernel) (by decide +kernel), gw_mem 1086 (by decide +kernel) (by decide +kernel)⟩
abbrev mX4_proposedBy : gM := (yX4_proposedBy, cX4_proposedBy, 5, some .int, 6, 240)
theorem gm_X4_proposedBy : (Cond.code mX4_proposedBy.1 mX4_proposedBy.2.1 mX4_proposedBy.2.2.1 mX4_proposedBy.2.2.2.1 ∈ gw ∧ Cond.initialized mX4_proposedBy.1.cls ∈ gw ∧ (mX4_proposedBy.1.cls ≠ "java/lang/invoke/MethodHandle" ∧ mX4_proposedBy.1.cls ≠ "java/lang/invoke/VarHandle" ∧ (parseMethodDescriptor mX4_proposedBy.1.desc).map (fun d => d.parameters.length) = some 2)) ∧ Cond.instanceMethod mX4_proposedBy.1 ∈ gw ∧ Cond.selects mX4_proposedBy.1.cls mX4_proposedBy.1 mX4_proposedBy.1 ∈ gw := ⟨⟨gw_mem 1099 (by decide +kernel) (by decide +kernel), gw_mem 73 (by decide +kernel) (by decide +kernel), by decide +kernel, by decide +kernel, by decide +kernel⟩, gw_mem 1098 (by decide +kernel) (by decide +kernel), gw_mem 59 (by decide +kernel) (by decide +kernel)⟩
abbrev mX4_dressedOnes : gM := (yX4_dressedOnes, cX4_dressedOnes, 3, some .int, 0, 0)
theorem gm_X4_dressedOnes : (Cond.code mX4_dressedOnes.1 mX4_dressedOnes.2.1 mX4_dressedOnes.2.2.1 mX4_dressedOnes.2.2.2.1 ∈ gw ∧ Cond.initialized mX4_dressedOnes.1.cls ∈ gw ∧ (mX4_dressedOnes.1.cls ≠ "java/lang/invoke/MethodHandle" ∧ mX4_dressedOnes.1.cls ≠ "java/lang/invoke/VarHandle" ∧ (parseMethodDescriptor mX4_dressedOnes.1.desc).map (fun d => d.parameters.length) = some 0)) ∧ Cond.instanceMethod mX4_dressedOnes.1 ∈ gw ∧ Cond.selects mX4_dressedOnes.1.cls mX4_dressedOnes.1 mX4_dressedOnes.1 ∈ gw := ⟨⟨gw_mem 1095 (by decide +kernel) (by decide +kernel), gw_mem 73 (by decide +kernel) (by decide +kernel), by decide +kernel, by decide +kernel, by decide +kernel⟩, gw_mem 1094 (by decide +kernel) (by decide +kernel), gw_mem 58 (by decide +kernel) (by decide +kernel)⟩
abbrev mX4_fewest : gM := (yX4_fewest, cX4_fewest, 7, some .int, 7, 280)
theorem gm_X4_fewest : (Cond.code mX4_fewest.1 mX4_fewest.2.1 mX4_fewest.2.2.1 mX4_fewest.2.2.2.1 ∈ gw ∧ Cond.initialized mX4_fewest.1.cls ∈ gw ∧ (mX4_fewest.1.cls ≠ "java/lang/invoke/MethodHandle" ∧ mX4_fewest.1.cls ≠ "java/lang/invoke/VarHandle" ∧ (parseMethodDescriptor mX4_fewest.1.desc).map (fun d => d.parameters.length) = some 1)) ∧ Cond.instanceMethod mX4_fewest.1 ∈ gw ∧ Cond.selects mX4_fewest.1.cls mX4_fewest.1 mX4_fewest.1 ∈ gw := ⟨⟨gw_mem 1091 (by decide +kernel) (by decide +kernel), gw_mem 73 (by decide +kernel) (by decide +kernel), by decide +kernel, by decide +kernel, by decide +kernel⟩, gw_mem 1089 (by decide +kernel) (by decide +kernel), gw_mem 1090 (by decide +kernel) (by decide +kernel)⟩
abbrev mX4_findSpare : gM := (yX4_findSpare, cX4_findSpare, 5, none, 7, 280)
theorem gm_X4_findSpare : (Cond.code mX4_findSpare.1 mX4_findSpare.2.1 mX4_findSpare.2.2.1 mX4_findSpare.2.2.2.1 ∈ gw ∧ Cond.initialized mX4_findSpare.1.cls ∈ gw ∧ (mX4_findSpare.1.cls ≠ "java/lang/invoke/MethodHandle" ∧ mX4_findSpare.1.cls ≠ "java/lang/invoke/VarHandle" ∧ (parseMethodDescriptor mX4_findSpare.1.desc).map (fun d => d.parameters.length) = some 1)) ∧ Cond.instanceMethod mX4_findSpare.1 ∈ gw ∧ Cond.selects mX4_findSpare.1.cls mX4_findSpare.1 mX4_findSpare.1 ∈ gw := ⟨⟨gw_mem 1110 (by decide +kernel) (by decide +kernel), gw_mem 73 (by decide +kernel) (by decide +kernel), by decide +kernel, by decide +kernel, by decide +kernel⟩, gw_mem 1109 (by decide +kernel) (by decide +kernel), gw_mem 60 (by decide +kernel) (by decide +kernel)⟩
abbrev mX4_spare : gM := (yX4_spare, cX4_spare, 4, some .int, 8, 320)
theorem gm_X4_spare : (Cond.code mX4_spare.1 mX4_spare.2.1 mX4_spare.2.2.1 mX4_spare.2.2.2.1 ∈ gw ∧ Cond.initialized mX4_spare.1.cls ∈ gw ∧ (mX4_spare.1.cls ≠ "java/lang/invoke/MethodHandle" ∧ mX4_spare.1.cls ≠ "java/lang/invoke/VarHandle" ∧ (parseMethodDescriptor mX4_spare.1.desc).map (fun d => d.parameters.length) = some 2)) ∧ Cond.instanceMethod mX4_spare.1 ∈ gw ∧ Cond.selects mX4_spare.1.cls mX4_spare.1 mX4_spare.1 ∈ gw := ⟨⟨gw_mem 1106 (by decide +kernel) (by decide +kernel), gw_mem 73 (by decide +kernel) (by decide +kernel), by decide +kernel, by decide +kernel, by decide +kernel⟩, gw_mem 1104 (by decide +kernel) (by decide +kernel), gw_mem 1105 (by decide +kernel) (by decide +kernel)⟩
abbrev mX4_cheer : gM := (yX4_cheer, cX4_cheer, 8, some .int, 7, 280)
theorem gm_X4_cheer : (Cond.code mX4_cheer.1 mX4_cheer.2.1 mX4_cheer.2.2.1 mX4_cheer.2.2.2.1 ∈ gw ∧ Cond.initialized mX4_cheer.1.cls ∈ gw ∧ (mX4_cheer.1.cls ≠ "java/lang/invoke/MethodHandle" ∧ mX4_cheer.1.cls ≠ "java/lang/invoke/VarHandle" ∧ (parseMethodDescriptor mX4_cheer.1.desc).map (fun d => d.parameters.length) = some 1)) ∧ Cond.instanceMethod mX4_cheer.1 ∈ gw ∧ Cond.selects mX4_cheer.1.cls mX4_cheer.1 mX4_cheer.1 ∈ gw := ⟨⟨gw_mem 1114 (by decide +kernel) (by decide +kernel), gw_mem 73 (by decide +kernel) (by decide +kernel), by decide +kernel, by decide +kernel, by decide +kernel⟩, gw_mem 1112 (by decide +kernel) (by decide +kernel), gw_mem 1113 (by decide +kernel) (by decide +kernel)⟩
abbrev mX4_boldest : gM := (yX4_boldest, cX4_boldest, 4, some .int, 2, 80)
theorem gm_X4_boldest : (Cond.code mX4_boldest.1 mX4_boldest.2.1 mX4_boldest.2.2.1 mX4_boldest.2.2.2.1 ∈ gw ∧ Cond.initialized mX4_boldest.1.cls ∈ gw ∧ (mX4_boldest.1.cls ≠ "java/lang/invoke/MethodHandle" ∧ mX4_boldest.1.cls ≠ "java/lang/invoke/VarHandle" ∧ (parseMethodDescriptor mX4_boldest.1.desc).map (fun d => d.parameters.length) = some 1)) ∧ Cond.instanceMethod mX4_boldest.1 ∈ gw ∧ Cond.selects mX4_boldest.1.cls mX4_boldest.1 mX4_boldest.1 ∈ gw := ⟨⟨gw_mem 1118 (by decide +kernel) (by decide +kernel), gw_mem 73 (by decide +kernel) (by decide +kernel), by decide +kernel, by decide +kernel, by decide +kernel⟩, gw_mem 1116 (by decide +kernel) (by decide +kernel), gw_mem 1117 (by decide +kernel) (by decide +kernel)⟩
abbrev mX4_left : gM := (yX4_left, cX4_left, 3, some .int, 1, 40)
theorem gm_X4_left : (Cond.code mX4_left.1 mX4_left.2.1 mX4_left.2.2.1 mX4_left.2.2.2.1 ∈ gw ∧ Cond.initialized mX4_left.1.cls ∈ gw ∧ (mX4_left.1.cls ≠ "java/lang/invoke/MethodHandle" ∧ mX4_left.1.cls ≠ "java/lang/invoke/VarHandle" ∧ (parseMethodDescriptor mX4_left.1.desc).map (fun d => d.parameters.length) = some 0)) ∧ Cond.instanceMethod mX4_left.1 ∈ gw ∧ Cond.selects mX4_left.1.cls mX4_left.1 mX4_left.1 ∈ gw := ⟨⟨gw_mem 1122 (by decide +kernel) (by decide +kernel), gw_mem 73 (by decide +kernel) (by decide +kernel), by decide +kernel, by decide +kernel, by decide +kernel⟩, gw_mem 1120 (by decide +kernel) (by decide +kernel), gw_mem 1121 (by decide +kernel) (by decide +kernel)⟩
abbrev mX4_aheadOf : gM := (yX4_aheadOf, cX4_aheadOf, 4, some .int, 1, 40)
theorem gm_X4_aheadOf : (Cond.code mX4_aheadOf.1 mX4_aheadOf.2.1 mX4_aheadOf.2.2.1 mX4_aheadOf.2.2.2.1 ∈ gw ∧ Cond.initialized mX4_aheadOf.1.cls ∈ gw ∧ (mX4_aheadOf.1.cls ≠ "java/lang/invoke/MethodHandle" ∧ mX4_aheadOf.1.cls ≠ "java/lang/invoke/VarHandle" ∧ (parseMethodDescriptor mX4_aheadOf.1.desc).map (fun d => d.parameters.length) = some 1)) ∧ Cond.instanceMethod mX4_aheadOf.1 ∈ gw ∧ Cond.selects mX4_aheadOf.1.cls mX4_aheadOf.1 mX4_aheadOf.1 ∈ gw := ⟨⟨gw_mem 1130 (by decide +kernel) (by decide +kernel), gw_mem 73 (by decide +kernel) (by decide +kernel), by decide +kernel, by decide +kernel, by decide +kernel⟩, gw_mem 1129 (by decide +kernel) (by decide +kernel), gw_mem 61 (by decide +kernel) (by decide +kernel)⟩
abbrev mX4_order : gM := (yX4_order, cX4_order, 3, some .int, 2, 80)
theorem gm_X4_order : (Cond.code mX4_order.1 mX4_order.2.1 mX4_order.2.2.1 mX4_order.2.2.2.1 ∈ gw ∧ Cond.initialized mX4_order.1.cls ∈ gw ∧ (mX4_order.1.cls ≠ "java/lang/invoke/MethodHandle" ∧ mX4_order.1.cls ≠ "java/lang/invoke/VarHandle" ∧ (parseMethodDescriptor mX4_order.1.desc).map (fun d => d.parameters.length) = some 1)) ∧ Cond.instanceMethod mX4_order.1 ∈ gw ∧ Cond.selects mX4_order.1.cls mX4_order.1 mX4_order.1 ∈ gw := ⟨⟨gw_mem 1126 (by decide +kernel) (by decide +kernel), gw_mem 73 (by decide +kernel) (by decide +kernel), by decide +kernel, by decide +kernel, by decide +kernel⟩, gw_mem 1124 (by decide +kernel) (by decide +kernel), gw_mem 1125 (by decide +kernel) (by decide +kernel)⟩
abbrev mX4_heard : gM := (yX4_heard, cX4_heard, 4, some .int, 1, 40)
theorem gm_X4_heard : (Cond.code mX4_heard.1 mX4_heard.2.1 mX4_heard.2.2.1 mX4_heard.2.2.2.1 ∈ gw ∧ Cond.initialized mX4_heard.1.cls ∈ gw ∧ (mX4_heard.1.cls ≠ "java/lang/invoke/MethodHandle" ∧ mX4_heard.1.cls ≠ "java/lang/invoke/VarHandle" ∧ (parseMethodDescriptor mX4_heard.1.desc).map (fun d => d.parameters.length) = some 1)) ∧ Cond.instanceMethod mX4_heard.1 ∈ gw ∧ Cond.selects mX4_heard.1.cls mX4_heard.1 mX4_heard.1 ∈ gw := ⟨⟨gw_mem 1134 (by decide +kernel) (by decide +kernel), gw_mem 73 (by decide +kernel) (by decide +kernel), by decide +kernel, by decide +kernel, by decide +kernel⟩, gw_mem 1132 (by decide +kernel) (by decide +kernel), gw_mem 1133 (by decide +kernel) (by decide +kernel)⟩
abbrev mX4_rusted : gM := (yX4_rusted, cX4_rusted, 6, some .int, 3, 120)
theorem gm_X4_rusted : (Cond.code mX4_rusted.1 mX4_rusted.2.1 mX4_rusted.2.2.1 mX4_rusted.2.2.2.1 ∈ gw ∧ Cond.initialized mX4_rusted.1.cls ∈ gw ∧ (mX4_rusted.1.cls ≠ "java/lang/invoke/MethodHandle" ∧ mX4_rusted.1.cls ≠ "java/lang/invoke/VarHandle" ∧ (parseMethodDescriptor mX4_rusted.1.desc).map (fun d => d.parameters.length) = some 1)) ∧ Cond.instanceMethod mX4_rusted.1 ∈ gw ∧ Cond.selects mX4_rusted.1.cls mX4_rusted.1 mX4_rusted.1 ∈ gw := ⟨⟨gw_mem 1138 (by decide +kernel) (by decide +kernel), gw_mem 73 (by decide +kernel) (by decide +kernel), by decide +kernel, by decide +kernel, by decide +kernel⟩, gw_mem 1136 (by decide +kernel) (by decide +kernel), gw_mem 1137 (by decide +kernel) (by decide +kernel)⟩
abbrev mX4_findGets : gM := (yX4_findGets, cX4_findGets, 5, none, 6, 240)
theorem gm_X4_findGets : (Cond.code mX4_findGets.1 mX4_findGets.2.1 mX4_findGets.2.2.1 mX4_findGets.2.2.2.1 ∈ gw ∧ Cond.initialized mX4_findGets.1.cls ∈ gw ∧ (mX4_findGets.1.cls ≠ "java/lang/invoke/MethodHandle" ∧ mX4_findGets.1.cls ≠ "java/lang/invoke/VarHandle" ∧ (parseMethodDescriptor mX4_findGets.1.desc).map (fun d => d.parameters.length) = some 3)) ∧ Cond.instanceMethod mX4_findGets.1 ∈ gw ∧ Cond.selects mX4_findGets.1.cls mX4_findGets.1 mX4_findGets.1 ∈ gw := ⟨⟨gw_mem 1146 (by decide +kernel) (by decide +kernel), gw_mem 73 (by decide +kernel) (by decide +kernel), by decide +kernel, by decide +kernel, by decide +kernel⟩, gw_mem 1145 (by decide +kernel) (by decide +kernel), gw_mem 62 (by decide +kernel) (by decide +kernel)⟩
abbrev mX4_two : gM := (yX4_two, cX4_two, 6, some .int, 7, 280)
theorem gm_X4_two : (Cond.code mX4_two.1 mX4_two.2.1 mX4_two.2.2.1 mX4_two.2.2.2.1 ∈ gw ∧ Cond.initialized mX4_two.1.cls ∈ gw ∧ (mX4_two.1.cls ≠ "java/lang/invoke/MethodHandle" ∧ mX4_two.1.cls ≠ "java/lang/invoke/VarHandle" ∧ (parseMethodDescriptor mX4_two.1.desc).map (fun d => d.parameters.length) = some 3)) ∧ Cond.instanceMethod mX4_two.1 ∈ gw ∧ Cond.selects mX4_two.1.cls mX4_two.1 mX4_two.1 ∈ gw := ⟨⟨gw_mem 1142 (by decide +kernel) (by decide +kernel), gw_mem 73 (by decide +kernel) (by decide +kernel), by decide +kernel, by decide +kernel, by decide +kernel⟩, gw_mem 1140 (by decide +kernel) (by decide +kernel), gw_mem 1141 (by decide +kernel) (by decide +kernel)⟩
abbrev mX4_divisor : gM := (yX4_divisor, cX4_divisor, 10, some .long, 0, 0)
theorem gm_X4_divisor : (Cond.code mX4_divisor.1 mX4_divisor.2.1 mX4_divisor.2.2.1 mX4_divisor.2.2.2.1 ∈ gw ∧ Cond.initialized mX4_divisor.1.cls ∈ gw ∧ (mX4_divisor.1.cls ≠ "java/lang/invoke/MethodHandle" ∧ mX4_divisor.1.cls ≠ "java/lang/invoke/VarHandle" ∧ (parseMethodDescriptor mX4_divisor.1.desc).map (fun d => d.parameters.length) = some 2)) ∧ Cond.static mX4_divisor.1 ∈ gw := ⟨⟨gw_mem 1165 (by decide +kernel) (by decide +kernel), gw_mem 73 (by decide +kernel) (by decide +kernel), by decide +kernel, by decide +kernel, by decide +kernel⟩, gw_mem 1164 (by decide +kernel) (by decide +kernel)⟩
abbrev mX4_partOf : gM := (yX4_partOf, cX4_partOf, 5, some .long, 1, 40)
theorem gm_X4_partOf : (Cond.code mX4_partOf.1 mX4_partOf.2.1 mX4_partOf.2.2.1 mX4_partOf.2.2.2.1 ∈ gw ∧ Cond.initialized mX4_partOf.1.cls ∈ gw ∧ (mX4_partOf.1.cls ≠ "java/lang/invoke/MethodHandle" ∧ mX4_partOf.1.cls ≠ "java/lang/invoke/VarHandle" ∧ (parseMethodDescriptor mX4_partOf.1.desc).map (fun d => d.parameters.length) = some 3)) ∧ Cond.static mX4_partOf.1 ∈ gw := ⟨⟨gw_mem 1162 (by decide +kernel) (by decide +kernel), gw_mem 73 (by decide +kernel) (by decide +kernel), by decide +kernel, by decide +kernel, by decide +kernel⟩, gw_mem 1161 (by decide +kernel) (by decide +kernel)⟩
abbrev mX4_rains : gM := (yX4_rains, cX4_rains, 2, none, 1, 40)
theorem gm_X4_rains : (Cond.code mX4_rains.1 mX4_rains.2.1 mX4_rains.2.2.1 mX4_rains.2.2.2.1 ∈ gw ∧ Cond.initialized mX4_rains.1.cls ∈ gw ∧ (mX4_rains.1.cls ≠ "java/lang/invoke/MethodHandle" ∧ mX4_rains.1.cls ≠ "java/lang/invoke/VarHandle" ∧ (parseMethodDescriptor mX4_rains.1.desc).map (fun d => d.parameters.length) = some 0)) ∧ Cond.instanceMethod mX4_rains.1 ∈ gw ∧ Cond.selects mX4_rains.1.cls mX4_rains.1 mX4_rains.1 ∈ gw := ⟨⟨gw_mem 1159 (by decide +kernel) (by decide +kernel), gw_mem 73 (by decide +kernel) (by decide +kernel), by decide +kernel, by decide +kernel, by decide +kernel⟩, gw_mem 1158 (by decide +kernel) (by decide +kernel), gw_mem 64 (by decide +kernel) (by decide +kernel)⟩
abbrev mX4_rain : gM := (yX4_rain, cX4_rain, 15, some .long, 5, 200)
theorem gm_X4_rain : (Cond.code mX4_rain.1 mX4_rain.2.1 mX4_rain.2.2.1 mX4_rain.2.2.2.1 ∈ gw ∧ Cond.initialized mX4_rain.1.cls ∈ gw ∧ (mX4_rain.1.cls ≠ "java/lang/invoke/MethodHandle" ∧ mX4_rain.1.cls ≠ "java/lang/invoke/VarHandle" ∧ (parseMethodDescriptor mX4_rain.1.desc).map (fun d => d.parameters.length) = some 5)) ∧ Cond.instanceMethod mX4_rain.1 ∈ gw ∧ Cond.selects mX4_rain.1.cls mX4_rain.1 mX4_rain.1 ∈ gw := ⟨⟨gw_mem 1150 (by decide +kernel) (by decide +kernel), gw_mem 73 (by decide +kernel) (by decide +kernel), by decide +kernel, by decide +kernel, by decide +kernel⟩, gw_mem 1148 (by decide +kernel) (by decide +kernel), gw_mem 1149 (by decide +kernel) (by decide +kernel)⟩
abbrev mX4_mean : gM := (yX4_mean, cX4_mean, 5, some .long, 2, 80)
theorem gm_X4_mean : (Cond.code mX4_mean.1 mX4_mean.2.1 mX4_mean.2.2.1 mX4_mean.2.2.2.1 ∈ gw ∧ Cond.initialized mX4_mean.1.cls ∈ gw ∧ (mX4_mean.1.cls ≠ "java/lang/invoke/MethodHandle" ∧ mX4_mean.1.cls ≠ "java/lang/invoke/VarHandle" ∧ (parseMethodDescriptor mX4_mean.1.desc).map (fun d => d.parameters.length) = some 1)) ∧ Cond.instanceMethod mX4_mean.1 ∈ gw ∧ Cond.selects mX4_mean.1.cls mX4_mean.1 mX4_mean.1 ∈ gw := ⟨⟨gw_mem 1169 (by decide +kernel) (by decide +kernel), gw_mem 73 (by decide +kernel) (by decide +kernel), by decide +kernel, by decide +kernel, by decide +kernel⟩, gw_mem 1167 (by decide +kernel) (by decide +kernel), gw_mem 1168 (by decide +kernel) (by decide +kernel)⟩
abbrev mX4_isSo : gM := (yX4_isSo, cX4_isSo, 4, some .boolean, 5, 200)
theorem gm_X4_isSo : (Cond.code mX4_isSo.1 mX4_isSo.2.1 mX4_isSo.2.2.1 mX4_isSo.2.2.2.1 ∈ gw ∧ Cond.initialized mX4_isSo.1.cls ∈ gw ∧ (mX4_isSo.1.cls ≠ "java/lang/invoke/MethodHandle" ∧ mX4_isSo.1.cls ≠ "java/lang/invoke/VarHandle" ∧ (parseMethodDescriptor mX4_isSo.1.desc).map (fun d => d.parameters.length) = some 1)) ∧ Cond.instanceMethod mX4_isSo.1 ∈ gw ∧ Cond.selects mX4_isSo.1.cls mX4_isSo.1 mX4_isSo.1 ∈ gw := ⟨⟨gw_mem 1181 (by decide +kernel) (by decide +kernel), gw_mem 73 (by decide +kernel) (by decide +kernel), by decide +kernel, by decide +kernel, by decide +kernel⟩, gw_mem 1180 (by decide +kernel) (by decide +kernel), gw_mem 66 (by decide +kernel) (by decide +kernel)⟩
abbrev mX4_bitsFor : gM := (yX4_bitsFor, cX4_bitsFor, 8, some .int, 6, 240)
theorem gm_X4_bitsFor : (Cond.code mX4_bitsFor.1 mX4_bitsFor.2.1 mX4_bitsFor.2.2.1 mX4_bitsFor.2.2.2.1 ∈ gw ∧ Cond.initialized mX4_bitsFor.1.cls ∈ gw ∧ (mX4_bitsFor.1.cls ≠ "java/lang/invoke/MethodHandle" ∧ mX4_bitsFor.1.cls ≠ "java/lang/invoke/VarHandle" ∧ (parseMethodDescriptor mX4_bitsFor.1.desc).map (fun d => d.parameters.length) = some 4)) ∧ Cond.instanceMethod mX4_bitsFor.1 ∈ gw ∧ Cond.selects mX4_bitsFor.1.cls mX4_bitsFor.1 mX4_bitsFor.1 ∈ gw := ⟨⟨gw_mem 1177 (by decide +kernel) (by decide +kernel), gw_mem 73 (by decide +kernel) (by decide +kernel), by decide +kernel, by decide +kernel, by decide +kernel⟩, gw_mem 1176 (by decide +kernel) (by decide +kernel), gw_mem 65 (by decide +kernel) (by decide +kernel)⟩
abbrev mX4_whatIs : gM := (yX4_whatIs, cX4_whatIs, 5, some .int, 7, 280)
theorem gm_X4_whatIs : (Cond.code mX4_whatIs.1 mX4_whatIs.2.1 mX4_whatIs.2.2.1 mX4_whatIs.2.2.2.1 ∈ gw ∧ Cond.initialized mX4_whatIs.1.cls ∈ gw ∧ (mX4_whatIs.1.cls ≠ "java/lang/invoke/MethodHandle" ∧ mX4_whatIs.1.cls ≠ "java/lang/invoke/VarHandle" ∧ (parseMethodDescriptor mX4_whatIs.1.desc).map (fun d => d.parameters.length) = some 2)) ∧ Cond.instanceMethod mX4_whatIs.1 ∈ gw ∧ Cond.selects mX4_whatIs.1.cls mX4_whatIs.1 mX4_whatIs.1 ∈ gw := ⟨⟨gw_mem 1173 (by decide +kernel) (by decide +kernel), gw_mem 73 (by decide +kernel) (by decide +kernel), by decide +kernel, by decide +kernel, by decide +kernel⟩, gw_mem 1171 (by decide +kernel) (by decide +kernel), gw_mem 1172 (by decide +kernel) (by decide +kernel)⟩
abbrev mX4_row : gM := (yX4_row, cX4_row, 3, some .int, 1, 40)
theorem gm_X4_row : (Cond.code mX4_row.1 mX4_row.2.1 mX4_row.2.2.1 mX4_row.2.2.2.1 ∈ gw ∧ Cond.initialized mX4_row.1.cls ∈ gw ∧ (mX4_row.1.cls ≠ "java/lang/invoke/MethodHandle" ∧ mX4_row.1.cls ≠ "java/lang/invoke/VarHandle" ∧ (parseMethodDescriptor mX4_row.1.desc).map (fun d => d.parameters.length) = some 1)) ∧ Cond.instanceMethod mX4_row.1 ∈ gw ∧ Cond.selects mX4_row.1.cls mX4_row.1 mX4_row.1 ∈ gw := ⟨⟨gw_mem 1185 (by decide +kernel) (by decide +kernel), gw_mem 73 (by decide +kernel) (by decide +kernel), by decide +kernel, by decide +kernel, by decide +kernel⟩, gw_mem 1183 (by decide +kernel) (by decide +kernel), gw_mem 1184 (by decide +kernel) (by decide +kernel)⟩
abbrev mX4_judge : gM := (yX4_judge, cX4_judge, 3, some .int, 0, 0)
theorem gm_X4_judge : (Cond.code mX4_judge.1 mX4_judge.2.1 mX4_judge.2.2.1 mX4_judge.2.2.2.1 ∈ gw ∧ Cond.initialized mX4_judge.1.cls ∈ gw ∧ (mX4_judge.1.cls ≠ "java/lang/invoke/MethodHandle" ∧ mX4_judge.1.cls ≠ "java/lang/invoke/VarHandle" ∧ (parseMethodDescriptor mX4_judge.1.desc).map (fun d => d.parameters.length) = some 0)) ∧ Cond.instanceMethod mX4_judge.1 ∈ gw ∧ Cond.selects mX4_judge.1.cls mX4_judge.1 mX4_judge.1 ∈ gw := ⟨⟨gw_mem 1189 (by decide +kernel) (by decide +kernel), gw_mem 73 (by decide +kernel) (by decide +kernel), by decide +kernel, by decide +kernel, by decide +kernel⟩, gw_mem 1187 (by decide +kernel) (by decide +kernel), gw_mem 1188 (by decide +kernel) (by decide +kernel)⟩
abbrev mX4_clear : gM := (yX4_clear, cX4_clear, 2, some .int, 0, 0)
theorem gm_X4_clear : (Cond.code mX4_clear.1 mX4_clear.2.1 mX4_clear.2.2.1 mX4_clear.2.2.2.1 ∈ gw ∧ Cond.initialized mX4_clear.1.cls ∈ gw ∧ (mX4_clear.1.cls ≠ "java/lang/invoke/MethodHandle" ∧ mX4_clear.1.cls ≠ "java/lang/invoke/VarHandle" ∧ (parseMethodDescriptor mX4_clear.1.desc).map (fun d => d.parameters.length) = some 0)) ∧ Cond.instanceMethod mX4_clear.1 ∈ gw ∧ Cond.selects mX4_clear.1.cls mX4_clear.1 mX4_clear.1 ∈ gw := ⟨⟨gw_mem 1193 (by decide +kernel) (by decide +kernel), gw_mem 73 (by decide +kernel) (by decide +kernel), by decide +kernel, by decide +kernel, by decide +kernel⟩, gw_mem 1191 (by decide +kernel) (by decide +kernel), gw_mem 1192 (by decide +kernel) (by decide +kernel)⟩
abbrev mX4_draw : gM := (yX4_draw, cX4_draw, 2, some .int, 0, 0)
theorem gm_X4_draw : (Cond.code mX4_draw.1 mX4_draw.2.1 mX4_draw.2.2.1 mX4_draw.2.2.2.1 ∈ gw ∧ Cond.initialized mX4_draw.1.cls ∈ gw ∧ (mX4_draw.1.cls ≠ "java/lang/invoke/MethodHandle" ∧ mX4_draw.1.cls ≠ "java/lang/invoke/VarHandle" ∧ (parseMethodDescriptor mX4_draw.1.desc).map (fun d => d.parameters.length) = some 1)) ∧ Cond.instanceMethod mX4_draw.1 ∈ gw ∧ Cond.selects mX4_draw.1.cls mX4_draw.1 mX4_draw.1 ∈ gw := ⟨⟨gw_mem 1201 (by decide +kernel) (by decide +kernel), gw_mem 73 (by decide +kernel) (by decide +kernel), by decide +kernel, by decide +kernel, by decide +kernel⟩, gw_mem 1200 (by decide +kernel) (by decide +kernel), gw_mem 67 (by decide +kernel) (by decide +kernel)⟩
abbrev mX4_lots : gM := (yX4_lots, cX4_lots, 9, some .int, 6, 240)
theorem gm_X4_lots : (Cond.code mX4_lots.1 mX4_lots.2.1 mX4_lots.2.2.1 mX4_lots.2.2.2.1 ∈ gw ∧ Cond.initialized mX4_lots.1.cls ∈ gw ∧ (mX4_lots.1.cls ≠ "java/lang/invoke/MethodHandle" ∧ mX4_lots.1.cls ≠ "java/lang/invoke/VarHandle" ∧ (parseMethodDescriptor mX4_lots.1.desc).map (fun d => d.parameters.length) = some 3)) ∧ Cond.instanceMethod mX4_lots.1 ∈ gw ∧ Cond.selects mX4_lots.1.cls mX4_lots.1 mX4_lots.1 ∈ gw := ⟨⟨gw_mem 1197 (by decide +kernel) (by decide +kernel), gw_mem 73 (by decide +kernel) (by decide +kernel), by decide +kernel, by decide +kernel, by decide +kernel⟩, gw_mem 1195 (by decide +kernel) (by decide +kernel), gw_mem 1196 (by decide +kernel) (by decide +kernel)⟩
abbrev mX4_count : gM := (yX4_count, cX4_count, 2, some .int, 1, 40)
theorem gm_X4_count : (Cond.code mX4_count.1 mX4_count.2.1 mX4_count.2.2.1 mX4_count.2.2.2.1 ∈ gw ∧ Cond.initialized mX4_count.1.cls ∈ gw ∧ (mX4_count.1.cls ≠ "java/lang/invoke/MethodHandle" ∧ mX4_count.1.cls ≠ "java/lang/invoke/VarHandle" ∧ (parseMethodDescriptor mX4_count.1.desc).map (fun d => d.parameters.length) = some 1)) ∧ Cond.instanceMethod mX4_count.1 ∈ gw ∧ Cond.selects mX4_count.1.cls mX4_count.1 mX4_count.1 ∈ gw := ⟨⟨gw_mem 1208 (by decide +kernel) (by decide +kernel), gw_mem 73 (by decide +kernel) (by decide +kernel), by decide +kernel, by decide +kernel, by decide +kernel⟩, gw_mem 1206 (by decide +kernel) (by decide +kernel), gw_mem 1207 (by decide +kernel) (by decide +kernel)⟩
abbrev mJ0_length_8abf5 : gM := (yJ0_length_8abf5, cJ0_length_8abf5, 1, some .int, 1, 40)
theorem gm_J0_length_8abf5 : (Cond.code mJ0_length_8abf5.1 mJ0_length_8abf5.2.1 mJ0_length_8abf5.2.2.1 mJ0_length_8abf5.2.2.2.1 ∈ gw ∧ Cond.initialized mJ0_length_8abf5.1.cls ∈ gw ∧ (mJ0_length_8abf5.1.cls ≠ "java/lang/invoke/MethodHandle" ∧ mJ0_length_8abf5.1.cls ≠ "java/lang/invoke/VarHandle" ∧ (parseMethodDescriptor mJ0_length_8abf5.1.desc).map (fun d => d.parameters.length) = some 0)) ∧ Cond.instanceMethod mJ0_length_8abf5.1 ∈ gw ∧ Cond.selects mJ0_length_8abf5.1.cls mJ0_length_8abf5.1 mJ0_length_8abf5.1 ∈ gw := ⟨⟨gw_mem 262 (by decide +kernel) (by decide +kernel), gw_mem 74 (by decide +kernel) (by decide +kernel), by decide +kernel, by decide +kernel, by decide +kernel⟩, gw_mem 260 (by decide +kernel) (by decide +kernel), gw_mem 261 (by decide +kernel) (by decide +kernel)⟩
abbrev mJ0_indexOf_0f7a4 : gM := (yJ0_indexOf_0f7a4, cJ0_indexOf_0f7a4, 2, some .int, 3, 120)
theorem gm_J0_indexOf_0f7a4 : (Cond.code mJ0_indexOf_0f7a4.1 mJ0_indexOf_0f7a4.2.1 mJ0_indexOf_0f7a4.2.2.1 mJ0_indexOf_0f7a4.2.2.2.1 ∈ gw ∧ Cond.initialized mJ0_indexOf_0f7a4.1.cls ∈ gw ∧ (mJ0_indexOf_0f7a4.1.cls ≠ "java/lang/invoke/MethodHandle" ∧ mJ0_indexOf_0f7a4.1.cls ≠ "java/lang/invoke/VarHandle" ∧ (parseMethodDescriptor mJ0_indexOf_0f7a4.1.desc).map (fun d => d.parameters.length) = some 1)) ∧ Cond.instanceMethod mJ0_indexOf_0f7a4.1 ∈ gw ∧ Cond.selects mJ0_indexOf_0f7a4.1.cls mJ0_indexOf_0f7a4.1 mJ0_indexOf_0f7a4.1 ∈ gw := ⟨⟨gw_mem 248 (by decide +kernel) (by decide +kernel), gw_mem 74 (by decide +kernel) (by decide +kernel), by decide +kernel, by decide +kernel, by decide +kernel⟩, gw_mem 246 (by decide +kernel) (by decide +kernel), gw_mem 247 (by decide +kernel) (by decide +kernel)⟩
abbrev mJ0_indexOf_7cf53 : gM := (yJ0_indexOf_7cf53, cJ0_indexOf_7cf53, 3, some .int, 2, 80)
theorem gm_J0_indexOf_7cf53 : (Cond.code mJ0_indexOf_7cf53.1 mJ0_indexOf_7cf53.2.1 mJ0_indexOf_7cf53.2.2.1 mJ0_indexOf_7cf53.2.2.2.1 ∈ gw ∧ Cond.initialized mJ0_indexOf_7cf53.1.cls ∈ gw ∧ (mJ0_indexOf_7cf53.1.cls ≠ "java/lang/invoke/MethodHandle" ∧ mJ0_indexOf_7cf53.1.cls ≠ "java/lang/invoke/VarHandle" ∧ (parseMethodDescriptor mJ0_indexOf_7cf53.1.desc).map (fun d => d.parameters.length) = some 2)) ∧ Cond.instanceMethod mJ0_indexOf_7cf53.1 ∈ gw ∧ Cond.selects mJ0_indexOf_7cf53.1.cls mJ0_indexOf_7cf53.1 mJ0_indexOf_7cf53.1 ∈ gw := ⟨⟨gw_mem 252 (by decide +kernel) (by decide +kernel), gw_mem 74 (by decide +kernel) (by decide +kernel), by decide +kernel, by decide +kernel, by decide +kernel⟩, gw_mem 250 (by decide +kernel) (by decide +kernel), gw_mem 251 (by decide +kernel) (by decide +kernel)⟩
abbrev mJ0_coder_7d493 : gM := (yJ0_coder_7d493, cJ0_coder_7d493, 1, some .byte, 0, 0)
theorem gm_J0_coder_7d493 : (Cond.code mJ0_coder_7d493.1 mJ0_coder_7d493.2.1 mJ0_coder_7d493.2.2.1 mJ0_coder_7d493.2.2.2.1 ∈ gw ∧ Cond.initialized mJ0_coder_7d493.1.cls ∈ gw ∧ (mJ0_coder_7d493.1.cls ≠ "java/lang/invoke/MethodHandle" ∧ mJ0_coder_7d493.1.cls ≠ "java/lang/invoke/VarHandle" ∧ (parseMethodDescriptor mJ0_coder_7d493.1.desc).map (fun d => d.parameters.length) = some 0)) ∧ Cond.instanceMethod mJ0_coder_7d493.1 ∈ gw ∧ Cond.selects mJ0_coder_7d493.1.cls mJ0_coder_7d493.1 mJ0_coder_7d493.1 ∈ gw := ⟨⟨gw_mem 266 (by decide +kernel) (by decide +kernel), gw_mem 74 (by decide +kernel) (by decide +kernel), by decide +kernel, by decide +kernel, by decide +kernel⟩, gw_mem 264 (by decide +kernel) (by decide +kernel), gw_mem 265 (by decide +kernel) (by decide +kernel)⟩
abbrev mJ0_isLatin1_aae02 : gM := (yJ0_isLatin1_aae02, cJ0_isLatin1_aae02, 1, some .boolean, 0, 0)
theorem gm_J0_isLatin1_aae02 : (Cond.code mJ0_isLatin1_aae02.1 mJ0_isLatin1_aae02.2.1 mJ0_isLatin1_aae02.2.2.1 mJ0_isLatin1_aae02.2.2.2.1 ∈ gw ∧ Cond.initialized mJ0_isLatin1_aae02.1.cls ∈ gw ∧ (mJ0_isLatin1_aae02.1.cls ≠ "java/lang/invoke/MethodHandle" ∧ mJ0_isLatin1_aae02.1.cls ≠ "java/lang/invoke/VarHandle" ∧ (parseMethodDescriptor mJ0_isLatin1_aae02.1.desc).map (fun d => d.parameters.length) = some 0)) ∧ Cond.instanceMethod mJ0_isLatin1_aae02.1 ∈ gw ∧ Cond.selects mJ0_isLatin1_aae02.1.cls mJ0_isLatin1_aae02.1 mJ0_isLatin1_aae02.1 ∈ gw := ⟨⟨gw_mem 256 (by decide +kernel) (by decide +kernel), gw_mem 74 (by decide +kernel) (by decide +kernel), by decide +kernel, by decide +kernel, by decide +kernel⟩, gw_mem 254 (by decide +kernel) (by decide +kernel), gw_mem 255 (by decide +kernel) (by decide +kernel)⟩
abbrev mJ0_checkBoundsBeginEnd_23922 : gM := (yJ0_checkBoundsBeginEnd_23922, cJ0_checkBoundsBeginEnd_23922, 3, none, 1, 40)
theorem gm_J0_checkBoundsBeginEnd_23922 : (Cond.code mJ0_checkBoundsBeginEnd_23922.1 mJ0_checkBoundsBeginEnd_23922.2.1 mJ0_checkBoundsBeginEnd_23922.2.2.1 mJ0_checkBoundsBeginEnd_23922.2.2.2.1 ∈ gw ∧ Cond.initialized mJ0_checkBoundsBeginEnd_23922.1.cls ∈ gw ∧ (mJ0_checkBoundsBeginEnd_23922.1.cls ≠ "java/lang/invoke/MethodHandle" ∧ mJ0_checkBoundsBeginEnd_23922.1.cls ≠ "java/lang/invoke/VarHandle" ∧ (parseMethodDescriptor mJ0_checkBoundsBeginEnd_23922.1.desc).map (fun d => d.parameters.length) = some 3)) ∧ Cond.static mJ0_checkBoundsBeginEnd_23922.1 ∈ gw := ⟨⟨gw_mem 299 (by decide +kernel) (by decide +kernel), gw_mem 74 (by decide +kernel) (by decide +kernel), by decide +kernel, by decide +kernel, by decide +kernel⟩, gw_mem 298 (by decide +kernel) (by decide +kernel)⟩
abbrev mJ1_canEncode_9a6ad : gM := (yJ1_canEncode_9a6ad, cJ1_canEncode_9a6ad, 1, some .boolean, 0, 0)
theorem gm_J1_canEncode_9a6ad : (Cond.code mJ1_canEncode_9a6ad.1 mJ1_canEncode_9a6ad.2.1 mJ1_canEncode_9a6ad.2.2.1 mJ1_canEncode_9a6ad.2.2.2.1 ∈ gw ∧ Cond.initialized mJ1_canEncode_9a6ad.1.cls ∈ gw ∧ (mJ1_canEncode_9a6ad.1.cls ≠ "java/lang/invoke/MethodHandle" ∧ mJ1_canEncode_9a6ad.1.cls ≠ "java/lang/invoke/VarHandle" ∧ (parseMethodDescriptor mJ1_canEncode_9a6ad.1.desc).map (fun d => d.parameters.length) = some 1)) ∧ Cond.static mJ1_canEncode_9a6ad.1 ∈ gw := ⟨⟨gw_mem 272 (by decide +kernel) (by decide +kernel), gw_mem 75 (by decide +kernel) (by decide +kernel), by decide +kernel, by decide +kernel, by decide +kernel⟩, gw_mem 271 (by decide +kernel) (by decide +kernel)⟩
abbrev mJ1_indexOf_4cfef : gM := (yJ1_indexOf_4cfef, cJ1_indexOf_4cfef, 4, some .int, 1, 40)
theorem gm_J1_indexOf_4cfef : (Cond.code mJ1_indexOf_4cfef.1 mJ1_indexOf_4cfef.2.1 mJ1_indexOf_4cfef.2.2.1 mJ1_indexOf_4cfef.2.2.2.1 ∈ gw ∧ Cond.initialized mJ1_indexOf_4cfef.1.cls ∈ gw ∧ (mJ1_indexOf_4cfef.1.cls ≠ "java/lang/invoke/MethodHandle" ∧ mJ1_indexOf_4cfef.1.cls ≠ "java/lang/invoke/VarHandle" ∧ (parseMethodDescriptor mJ1_indexOf_4cfef.1.desc).map (fun d => d.parameters.length) = some 4)) ∧ Cond.static mJ1_indexOf_4cfef.1 ∈ gw := ⟨⟨gw_mem 269 (by decide +kernel) (by decide +kernel), gw_mem 75 (by decide +kernel) (by decide +kernel), by decide +kernel, by decide +kernel, by decide +kernel⟩, gw_mem 268 (by decide +kernel) (by decide +kernel)⟩
abbrev mJ1_indexOfChar_4cfef : gM := (yJ1_indexOfChar_4cfef, cJ1_indexOfChar_4cfef, 6, some .int, 0, 0)
theorem gm_J1_indexOfChar_4cfef : (Cond.code mJ1_indexOfChar_4cfef.1 mJ1_indexOfChar_4cfef.2.1 mJ1_indexOfChar_4cfef.2.2.1 mJ1_indexOfChar_4cfef.2.2.2.1 ∈ gw ∧ Cond.initialized mJ1_indexOfChar_4cfef.1.cls ∈ gw ∧ (mJ1_indexOfChar_4cfef.1.cls ≠ "java/lang/invoke/MethodHandle" ∧ mJ1_indexOfChar_4cfef.1.cls ≠ "java/lang/invoke/VarHandle" ∧ (parseMethodDescriptor mJ1_indexOfChar_4cfef.1.desc).map (fun d => d.parameters.length) = some 4)) ∧ Cond.static mJ1_indexOfChar_4cfef.1 ∈ gw := ⟨⟨gw_mem 281 (by decide +kernel) (by decide +kernel), gw_mem 75 (by decide +kernel) (by decide +kernel), by decide +kernel, by decide +kernel, by decide +kernel⟩, gw_mem 280 (by decide +kernel) (by decide +kernel)⟩
theorem k_J0_335 : gclV RJ0 335 mJ0_coder_7d493 0 := ⟨⟨gw_mem 263 (by decide +kernel) (by decide +kernel), gm_J0_coder_7d493.1⟩, gm_J0_coder_7d493.2⟩
theorem k_J0_492 : gclV RJ0 492 mJ0_isLatin1_aae02 0 := ⟨⟨gw_mem 253 (by decide +kernel) (by decide +kernel), gm_J0_isLatin1_aae02.1⟩, gm_J0_isLatin1_aae02.2⟩
theorem k_J0_505 : gclV RJ0 505 mJ0_length_8abf5 0 := ⟨⟨gw_mem 259 (by decide +kernel) (by decide +kernel), gm_J0_length_8abf5.1⟩, gm_J0_length_8abf5.2⟩
theorem k_J0_633 : gclV RJ0 633 mJ0_indexOf_7cf53 2 := ⟨⟨gw_mem 249 (by decide +kernel) (by decide +kernel), gm_J0_indexOf_7cf53.1⟩, gm_J0_indexOf_7cf53.2⟩
theorem k_J0_637 : gclS RJ0 637 mJ1_indexOf_4cfef 4 := ⟨⟨gw_mem 267 (by decide +kernel) (by decide +kernel), gm_J1_indexOf_4cfef.1⟩, gm_J1_indexOf_4cfef.2⟩
theorem k_J1_38 : gmath RJ1 38 Lib.Math.min.name Lib.Math.min.code := ⟨gw_mem 276 (by decide +kernel) (by decide +kernel), gw_mem 277 (by decide +kernel) (by decide +kernel), gw_mem 76 (by decide +kernel) (by decide +kernel), gw_mem 278 (by decide +kernel) (by decide +kernel)⟩
theorem k_J1_88 : gclS RJ1 88 mJ1_canEncode_9a6ad 1 := ⟨⟨gw_mem 270 (by decide +kernel) (by decide +kernel), gm_J1_canEncode_9a6ad.1⟩, gm_J1_canEncode_9a6ad.2⟩
theorem k_J1_92 : gmath RJ1 92 Lib.Math.max.name Lib.Math.max.code := ⟨gw_mem 273 (by decide +kernel) (by decide +kernel), gw_mem 274 (by decide +kernel) (by decide +kernel), gw_mem 76 (by decide +kernel) (by decide +kernel), gw_mem 275 (by decide +kernel) (by decide +kernel)⟩
theorem k_J1_95 : gclS RJ1 95 mJ1_indexOfChar_4cfef 4 := ⟨⟨gw_mem 279 (by decide +kernel) (by decide +kernel), gm_J1_indexOfChar_4cfef.1⟩, gm_J1_indexOfChar_4cfef.2⟩
theorem k_L_13 : gclV RL 13 mX3_letter 1 := ⟨⟨gw_mem 214 (by decide +kernel) (by decide +kernel), gm_X3_letter.1⟩, gm_X3_letter.2⟩
theorem k_L_17 : gclV RL 17 mX4_letter 1 := ⟨⟨gw_mem 814 (by decide +kernel) (by decide +kernel), gm_X4_letter.1⟩, gm_X4_letter.2⟩
theorem k_L_18 : gclV RL 18 mX3_city 0 := ⟨⟨gw_mem 229 (by decide +kernel) (by decide +kernel), gm_X3_city.1⟩, gm_X3_city.2⟩
theorem k_L_22 : gclV RL 22 mX4_city 0 := ⟨⟨gw_mem 825 (by decide +kernel) (by decide +kernel), gm_X4_city.1⟩, gm_X4_city.2⟩
theorem k_L_23 : gclV RL 23 mX3_suit 2 := ⟨⟨gw_mem 433 (by decide +kernel) (by decide +kernel), gm_X3_suit.1⟩, gm_X3_suit.2⟩
theorem k_L_27 : gclV RL 27 mX4_suit 2 := ⟨⟨gw_mem 950 (by decide +kernel) (by decide +kernel), gm_X4_suit.1⟩, gm_X4_suit.2⟩
theorem k_L_28 : gclV RL 28 mX3_caller 2 := ⟨⟨gw_mem 454 (by decide +kernel) (by decide +kernel), gm_X3_caller.1⟩, gm_X3_caller.2⟩
theorem k_L_31 : gclV RL 31 mX4_caller 2 := ⟨⟨gw_mem 954 (by decide +kernel) (by decide +kernel), gm_X4_caller.1⟩, gm_X4_caller.2⟩
theorem k_L_32 : gclV RL 32 mX3_courage 1 := ⟨⟨gw_mem 467 (by decide +kernel) (by decide +kernel), gm_X3_courage.1⟩, gm_X3_courage.2⟩
theorem k_L_35 : gclV RL 35 mX4_courage 1 := ⟨⟨gw_mem 966 (by decide +kernel) (by decide +kernel), gm_X4_courage.1⟩, gm_X4_courage.2⟩
theorem k_L_36 : gclV RL 36 mX3_wears 2 := ⟨⟨gw_mem 473 (by decide +kernel) (by decide +kernel), gm_X3_wears.1⟩, gm_X3_wears.2⟩
theorem k_L_39 : gclV RL 39 mX4_wears 2 := ⟨⟨gw_mem 975 (by decide +kernel) (by decide +kernel), gm_X4_wears.1⟩, gm_X4_wears.2⟩
theorem k_L_40 : gclV RL 40 mX3_takesOff 1 := ⟨⟨gw_mem 478 (by decide +kernel) (by decide +kernel), gm_X3_takesOff.1⟩, gm_X3_takesOff.2⟩
theorem k_L_43 : gclV RL 43 mX4_takesOff 1 := ⟨⟨gw_mem 982 (by decide +kernel) (by decide +kernel), gm_X4_takesOff.1⟩, gm_X4_takesOff.2⟩
theorem k_L_44 : gclV RL 44 mX3_fears 2 := ⟨⟨gw_mem 486 (by decide +kernel) (by decide +kernel), gm_X3_fears.1⟩, gm_X3_fears.2⟩
theorem k_L_47 : gclV RL 47 mX4_fears 2 := ⟨⟨gw_mem 986 (by decide +kernel) (by decide +kernel), gm_X4_fears.1⟩, gm_X4_fears.2⟩
theorem k_L_48 : gclV RL 48 mX3_rusts 2 := ⟨⟨gw_mem 490 (by decide +kernel) (by decide +kernel), gm_X3_rusts.1⟩, gm_X3_rusts.2⟩
theorem k_L_51 : gclV RL 51 mX4_rusts 2 := ⟨⟨gw_mem 990 (by decide +kernel) (by decide +kernel), gm_X4_rusts.1⟩, gm_X4_rusts.2⟩
theorem k_L_52 : gclV RL 52 mX3_soothes 2 := ⟨⟨gw_mem 494 (by decide +kernel) (by decide +kernel), gm_X3_soothes.1⟩, gm_X3_soothes.2⟩
theorem k_L_55 : gclV RL 55 mX4_soothes 2 := ⟨⟨gw_mem 994 (by decide +kernel) (by decide +kernel), gm_X4_soothes.1⟩, gm_X4_soothes.2⟩
theorem k_L_56 : gclV RL 56 mX3_turn 3 := ⟨⟨gw_mem 498 (by decide +kernel) (by decide +kernel), gm_X3_turn.1⟩, gm_X3_turn.2⟩
theorem k_L_60 : gclV RL 60 mX4_turn 3 := ⟨⟨gw_mem 998 (by decide +kernel) (by decide +kernel), gm_X4_turn.1⟩, gm_X4_turn.2⟩
theorem k_L_61 : gclV RL 61 mX3_days 1 := ⟨⟨gw_mem 502 (by decide +kernel) (by decide +kernel), gm_X3_days.1⟩, gm_X3_days.2⟩
theorem k_L_64 : gclV RL 64 mX4_days 1 := ⟨⟨gw_mem 1002 (by decide +kernel) (by decide +kernel), gm_X4_days.1⟩, gm_X4_days.2⟩
theorem k_L_65 : gclV RL 65 mX3_callerThen 3 := ⟨⟨gw_mem 511 (by decide +kernel) (by decide +kernel), gm_X3_callerThen.1⟩, gm_X3_callerThen.2⟩
theorem k_L_68 : gclV RL 68 mX4_callerThen 3 := ⟨⟨gw_mem 1010 (by decide +kernel) (by decide +kernel), gm_X4_callerThen.1⟩, gm_X4_callerThen.2⟩
theorem k_L_69 : gclV RL 69 mX3_suitThen 2 := ⟨⟨gw_mem 515 (by decide +kernel) (by decide +kernel), gm_X3_suitThen.1⟩, gm_X3_suitThen.2⟩
theorem k_L_72 : gclV RL 72 mX4_suitThen 2 := ⟨⟨gw_mem 1025 (by decide +kernel) (by decide +kernel), gm_X4_suitThen.1⟩, gm_X4_suitThen.2⟩
theorem k_L_73 : gclV RL 73 mX3_cost 1 := ⟨⟨gw_mem 519 (by decide +kernel) (by decide +kernel), gm_X3_cost.1⟩, gm_X3_cost.2⟩
theorem k_L_76 : gclV RL 76 mX4_cost 1 := ⟨⟨gw_mem 1029 (by decide +kernel) (by decide +kernel), gm_X4_cost.1⟩, gm_X4_cost.2⟩
theorem k_L_77 : gclV RL 77 mX3_proposes 1 := ⟨⟨gw_mem 523 (by decide +kernel) (by decide +kernel), gm_X3_proposes.1⟩, gm_X3_proposes.2⟩
theorem k_L_80 : gclV RL 80 mX4_proposes 1 := ⟨⟨gw_mem 1033 (by decide +kernel) (by decide +kernel), gm_X4_proposes.1⟩, gm_X4_proposes.2⟩
theorem k_L_81 : gclV RL 81 mX3_out 1 := ⟨⟨gw_mem 531 (by decide +kernel) (by decide +kernel), gm_X3_out.1⟩, gm_X3_out.2⟩
theorem k_L_84 : gclV RL 84 mX4_out 1 := ⟨⟨gw_mem 1045 (by decide +kernel) (by decide +kernel), gm_X4_out.1⟩, gm_X4_out.2⟩
theorem k_L_85 : gclV RL 85 mX3_still 0 := ⟨⟨gw_mem 535 (by decide +kernel) (by decide +kernel), gm_X3_still.1⟩, gm_X3_still.2⟩
theorem k_L_88 : gclV RL 88 mX4_still 0 := ⟨⟨gw_mem 1049 (by decide +kernel) (by decide +kernel), gm_X4_still.1⟩, gm_X4_still.2⟩
theorem k_L_89 : gclV RL 89 mX3_dress 1 := ⟨⟨gw_mem 543 (by decide +kernel) (by decide +kernel), gm_X3_dress.1⟩, gm_X3_dress.2⟩
theorem k_L_92 : gclV RL 92 mX4_dress 1 := ⟨⟨gw_mem 1057 (by decide +kernel) (by decide +kernel), gm_X4_dress.1⟩, gm_X4_dress.2⟩
theorem k_L_93 : gclV RL 93 mX3_suitBest 3 := ⟨⟨gw_mem 577 (by decide +kernel) (by decide +kernel), gm_X3_suitBest.1⟩, gm_X3_suitBest.2⟩
theorem k_L_96 : gclV RL 96 mX4_suitBest 3 := ⟨⟨gw_mem 1076 (by decide +kernel) (by decide +kernel), gm_X4_suitBest.1⟩, gm_X4_suitBest.2⟩
theorem k_L_97 : gclV RL 97 mX3_change 1 := ⟨⟨gw_mem 581 (by decide +kernel) (by decide +kernel), gm_X3_change.1⟩, gm_X3_change.2⟩
theorem k_L_100 : gclV RL 100 mX4_change 1 := ⟨⟨gw_mem 1084 (by decide +kernel) (by decide +kernel), gm_X4_change.1⟩, gm_X4_change.2⟩
theorem k_L_101 : gclV RL 101 mX3_fewest 1 := ⟨⟨gw_mem 585 (by decide +kernel) (by decide +kernel), gm_X3_fewest.1⟩, gm_X3_fewest.2⟩
theorem k_L_104 : gclV RL 104 mX4_fewest 1 := ⟨⟨gw_mem 1088 (by decide +kernel) (by decide +kernel), gm_X4_fewest.1⟩, gm_X4_fewest.2⟩
theorem k_L_105 : gclV RL 105 mX3_spare 2 := ⟨⟨gw_mem 589 (by decide +kernel) (by decide +kernel), gm_X3_spare.1⟩, gm_X3_spare.2⟩
theorem k_L_108 : gclV RL 108 mX4_spare 2 := ⟨⟨gw_mem 1103 (by decide +kernel) (by decide +kernel), gm_X4_spare.1⟩, gm_X4_spare.2⟩
theorem k_L_109 : gclV RL 109 mX3_cheer 1 := ⟨⟨gw_mem 593 (by decide +kernel) (by decide +kernel), gm_X3_cheer.1⟩, gm_X3_cheer.2⟩
theorem k_L_112 : gclV RL 112 mX4_cheer 1 := ⟨⟨gw_mem 1111 (by decide +kernel) (by decide +kernel), gm_X4_cheer.1⟩, gm_X4_cheer.2⟩
theorem k_L_113 : gclV RL 113 mX3_boldest 1 := ⟨⟨gw_mem 598 (by decide +kernel) (by decide +kernel), gm_X3_boldest.1⟩, gm_X3_boldest.2⟩
theorem k_L_116 : gclV RL 116 mX4_boldest 1 := ⟨⟨gw_mem 1115 (by decide +kernel) (by decide +kernel), gm_X4_boldest.1⟩, gm_X4_boldest.2⟩
theorem k_L_117 : gclV RL 117 mX3_left 0 := ⟨⟨gw_mem 602 (by decide +kernel) (by decide +kernel), gm_X3_left.1⟩, gm_X3_left.2⟩
theorem k_L_120 : gclV RL 120 mX4_left 0 := ⟨⟨gw_mem 1119 (by decide +kernel) (by decide +kernel), gm_X4_left.1⟩, gm_X4_left.2⟩
theorem k_L_121 : gclV RL 121 mX3_order 1 := ⟨⟨gw_mem 606 (by decide +kernel) (by decide +kernel), gm_X3_order.1⟩, gm_X3_order.2⟩
theorem k_L_124 : gclV RL 124 mX4_order 1 := ⟨⟨gw_mem 1123 (by decide +kernel) (by decide +kernel), gm_X4_order.1⟩, gm_X4_order.2⟩
theorem k_L_125 : gclV RL 125 mX3_heard 1 := ⟨⟨gw_mem 614 (by decide +kernel) (by decide +kernel), gm_X3_heard.1⟩, gm_X3_heard.2⟩
theorem k_L_128 : gclV RL 128 mX4_heard 1 := ⟨⟨gw_mem 1131 (by decide +kernel) (by decide +kernel), gm_X4_heard.1⟩, gm_X4_heard.2⟩
theorem k_L_129 : gclV RL 129 mX3_rusted 1 := ⟨⟨gw_mem 618 (by decide +kernel) (by decide +kernel), gm_X3_rusted.1⟩, gm_X3_rusted.2⟩
theorem k_L_132 : gclV RL 132 mX4_rusted 1 := ⟨⟨gw_mem 1135 (by decide +kernel) (by decide +kernel), gm_X4_rusted.1⟩, gm_X4_rusted.2⟩
theorem k_L_133 : gclV RL 133 mX3_two 3 := ⟨⟨gw_mem 624 (by decide +kernel) (by decide +kernel), gm_X3_two.1⟩, gm_X3_two.2⟩
theorem k_L_136 : gclV RL 136 mX4_two 3 := ⟨⟨gw_mem 1139 (by decide +kernel) (by decide +kernel), gm_X4_two.1⟩, gm_X4_two.2⟩
theorem k_L_137 : gclV RL 137 mX3_rain 5 := ⟨⟨gw_mem 636 (by decide +kernel) (by decide +kernel), gm_X3_rain.1⟩, gm_X3_rain.2⟩
theorem k_L_141 : gclV RL 141 mX4_rain 5 := ⟨⟨gw_mem 1147 (by decide +kernel) (by decide +kernel), gm_X4_rain.1⟩, gm_X4_rain.2⟩
theorem k_L_142 : gclV RL 142 mX3_mean 1 := ⟨⟨gw_mem 662 (by decide +kernel) (by decide +kernel), gm_X3_mean.1⟩, gm_X3_mean.2⟩
theorem k_L_146 : gclV RL 146 mX4_mean 1 := ⟨⟨gw_mem 1166 (by decide +kernel) (by decide +kernel), gm_X4_mean.1⟩, gm_X4_mean.2⟩
theorem k_L_147 : gclV RL 147 mX3_whatIs 2 := ⟨⟨gw_mem 666 (by decide +kernel) (by decide +kernel), gm_X3_whatIs.1⟩, gm_X3_whatIs.2⟩
theorem k_L_150 : gclV RL 150 mX4_whatIs 2 := ⟨⟨gw_mem 1170 (by decide +kernel) (by decide +kernel), gm_X4_whatIs.1⟩, gm_X4_whatIs.2⟩
theorem k_L_151 : gclV RL 151 mX3_row 1 := ⟨⟨gw_mem 674 (by decide +kernel) (by decide +kernel), gm_X3_row.1⟩, gm_X3_row.2⟩
theorem k_L_154 : gclV RL 154 mX4_row 1 := ⟨⟨gw_mem 1182 (by decide +kernel) (by decide +kernel), gm_X4_row.1⟩, gm_X4_row.2⟩
theorem k_L_155 : gclV RL 155 mX3_judge 0 := ⟨⟨gw_mem 678 (by decide +kernel) (by decide +kernel), gm_X3_judge.1⟩, gm_X3_judge.2⟩
theorem k_L_158 : gclV RL 158 mX4_judge 0 := ⟨⟨gw_mem 1186 (by decide +kernel) (by decide +kernel), gm_X4_judge.1⟩, gm_X4_judge.2⟩
theorem k_L_159 : gclV RL 159 mX3_clear 0 := ⟨⟨gw_mem 682 (by decide +kernel) (by decide +kernel), gm_X3_clear.1⟩, gm_X3_clear.2⟩
theorem k_L_162 : gclV RL 162 mX4_clear 0 := ⟨⟨gw_mem 1190 (by decide +kernel) (by decide +kernel), gm_X4_clear.1⟩, gm_X4_clear.2⟩
theorem k_L_163 : gclV RL 163 mX3_lots 3 := ⟨⟨gw_mem 686 (by decide +kernel) (by decide +kernel), gm_X3_lots.1⟩, gm_X3_lots.2⟩
theorem k_L_166 : gclV RL 166 mX4_lots 3 := ⟨⟨gw_mem 1194 (by decide +kernel) (by decide +kernel), gm_X4_lots.1⟩, gm_X4_lots.2⟩
theorem k_L_167 : gclV RL 167 mX3_image 0 := ⟨⟨gw_mem 693 (by decide +kernel) (by decide +kernel), gm_X3_image.1⟩, gm_X3_image.2⟩
theorem k_L_170 : gclV RL 170 mX4_image 0 := ⟨⟨gw_mem 942 (by decide +kernel) (by decide +kernel), gm_X4_image.1⟩, gm_X4_image.2⟩
theorem k_L_171 : gclV RL 171 mX3_on 0 := ⟨⟨gw_mem 697 (by decide +kernel) (by decide +kernel), gm_X3_on.1⟩, gm_X3_on.2⟩
theorem k_L_174 : gclV RL 174 mX4_on 0 := ⟨⟨gw_mem 946 (by decide +kernel) (by decide +kernel), gm_X4_on.1⟩, gm_X4_on.2⟩
theorem k_L_175 : gclV RL 175 mX3_count 1 := ⟨⟨gw_mem 701 (by decide +kernel) (by decide +kernel), gm_X3_count.1⟩, gm_X3_count.2⟩
theorem k_L_178 : gclV RL 178 mX4_count 1 := ⟨⟨gw_mem 1205 (by decide +kernel) (by decide +kernel), gm_X4_count.1⟩, gm_X4_count.2⟩
theorem k_X0_46 : Cond.methodLink RX0 46 arraycopyName ∈ gw := gw_mem 339 (by decide +kernel) (by decide +kernel)
theorem k_X0_52 : gclV RX0 52 mX0_wearer 1 := ⟨⟨gw_mem 369 (by decide +kernel) (by decide +kernel), gm_X0_wearer.1⟩, gm_X0_wearer.2⟩
theorem k_X0_56 : gclV RX0 56 mX0_coversWith 2 := ⟨⟨gw_mem 402 (by decide +kernel) (by decide +kernel), gm_X0_coversWith.1⟩, gm_X0_coversWith.2⟩
theorem k_X0_69 : gclV RX0 69 mX0_braveryCovered 2 := ⟨⟨gw_mem 410 (by decide +kernel) (by decide +kernel), gm_X0_braveryCovered.1⟩, gm_X0_braveryCovered.2⟩
theorem k_X0_72 : gclV RX0 72 mX0_bravery 1 := ⟨⟨gw_mem 398 (by decide +kernel) (by decide +kernel), gm_X0_bravery.1⟩, gm_X0_bravery.2⟩
theorem k_X0_75 : gclV RX0 75 mX0_needs 1 := ⟨⟨gw_mem 414 (by decide +kernel) (by decide +kernel), gm_X0_needs.1⟩, gm_X0_needs.2⟩
theorem k_X0_78 : gmath RX0 78 Lib.Math.max.name Lib.Math.max.code := ⟨gw_mem 390 (by decide +kernel) (by decide +kernel), gw_mem 274 (by decide +kernel) (by decide +kernel), gw_mem 76 (by decide +kernel) (by decide +kernel), gw_mem 275 (by decide +kernel) (by decide +kernel)⟩
theorem k_X0_83 : gclV RX0 83 mX0_liveDay 1 := ⟨⟨gw_mem 386 (by decide +kernel) (by decide +kernel), gm_X0_liveDay.1⟩, gm_X0_liveDay.2⟩
theorem k_X0_87 : gclV RX0 87 mX0_rustUnworn 0 := ⟨⟨gw_mem 424 (by decide +kernel) (by decide +kernel), gm_X0_rustUnworn.1⟩, gm_X0_rustUnworn.2⟩
theorem k_X0_93 : gmath RX0 93 Lib.Math.min.name Lib.Math.min.code := ⟨gw_mem 393 (by decide +kernel) (by decide +kernel), gw_mem 277 (by decide +kernel) (by decide +kernel), gw_mem 76 (by decide +kernel) (by decide +kernel), gw_mem 278 (by decide +kernel) (by decide +kernel)⟩
theorem k_X0_96 : gclV RX0 96 mX0_can 1 := ⟨⟨gw_mem 394 (by decide +kernel) (by decide +kernel), gm_X0_can.1⟩, gm_X0_can.2⟩
theorem k_X0_100 : gclV RX0 100 mX0_chafe 2 := ⟨⟨gw_mem 418 (by decide +kernel) (by decide +kernel), gm_X0_chafe.1⟩, gm_X0_chafe.2⟩
theorem k_X1_27 : gclS RX1 27 mX1_bitsOfCan 2 := ⟨⟨gw_mem 551 (by decide +kernel) (by decide +kernel), gm_X1_bitsOfCan.1⟩, gm_X1_bitsOfCan.2⟩
theorem k_X1_31 : gclV RX1 31 mX1_mostOn 3 := ⟨⟨gw_mem 559 (by decide +kernel) (by decide +kernel), gm_X1_mostOn.1⟩, gm_X1_mostOn.2⟩
theorem k_X1_35 : gclV RX1 35 mX1_most 1 := ⟨⟨gw_mem 572 (by decide +kernel) (by decide +kernel), gm_X1_most.1⟩, gm_X1_most.2⟩
theorem k_X1_39 : gclV RX1 39 mX1_firstBest 3 := ⟨⟨gw_mem 573 (by decide +kernel) (by decide +kernel), gm_X1_firstBest.1⟩, gm_X1_firstBest.2⟩
theorem k_X1_42 : gclV RX1 42 mX0_canCovered 2 := ⟨⟨gw_mem 554 (by decide +kernel) (by decide +kernel), gm_X0_canCovered.1⟩, gm_X0_canCovered.2⟩
theorem k_X1_46 : gclV RX1 46 mX0_covers 1 := ⟨⟨gw_mem 558 (by decide +kernel) (by decide +kernel), gm_X0_covers.1⟩, gm_X0_covers.2⟩
theorem k_X1_50 : gclV RX1 50 mX1_mostWith 3 := ⟨⟨gw_mem 563 (by decide +kernel) (by decide +kernel), gm_X1_mostWith.1⟩, gm_X1_mostWith.2⟩
theorem k_X1_54 : gmath RX1 54 Lib.Math.max.name Lib.Math.max.code := ⟨gw_mem 567 (by decide +kernel) (by decide +kernel), gw_mem 274 (by decide +kernel) (by decide +kernel), gw_mem 76 (by decide +kernel) (by decide +kernel), gw_mem 275 (by decide +kernel) (by decide +kernel)⟩
theorem k_X2_19 : gclV RX2 19 mX2_fits 2 := ⟨⟨gw_mem 237 (by decide +kernel) (by decide +kernel), gm_X2_fits.1⟩, gm_X2_fits.2⟩
theorem k_X2_23 : gclS RX2 23 mX2_signsBehind 1 := ⟨⟨gw_mem 241 (by decide +kernel) (by decide +kernel), gm_X2_signsBehind.1⟩, gm_X2_signsBehind.2⟩
theorem k_X2_29 : gclV RX2 29 mJ0_indexOf_0f7a4 1 := ⟨⟨gw_mem 245 (by decide +kernel) (by decide +kernel), gm_J0_indexOf_0f7a4.1⟩, gm_J0_indexOf_0f7a4.2⟩
theorem k_X2_34 : gclV RX2 34 mX2_digit 1 := ⟨⟨gw_mem 346 (by decide +kernel) (by decide +kernel), gm_X2_digit.1⟩, gm_X2_digit.2⟩
theorem k_X2_37 : gclV RX2 37 mX0_addSuit 2 := ⟨⟨gw_mem 350 (by decide +kernel) (by decide +kernel), gm_X0_addSuit.1⟩, gm_X0_addSuit.2⟩
theorem k_X2_42 : gclV RX2 42 mX2_number 1 := ⟨⟨gw_mem 354 (by decide +kernel) (by decide +kernel), gm_X2_number.1⟩, gm_X2_number.2⟩
theorem k_X2_45 : gclV RX2 45 mX0_addCaller 1 := ⟨⟨gw_mem 358 (by decide +kernel) (by decide +kernel), gm_X0_addCaller.1⟩, gm_X0_addCaller.2⟩
theorem k_X2_49 : gclS RX2 49 mX2_takesWearing 3 := ⟨⟨gw_mem 362 (by decide +kernel) (by decide +kernel), gm_X2_takesWearing.1⟩, gm_X2_takesWearing.2⟩
theorem k_X2_53 : gclS RX2 53 mX2_takesUndressing 2 := ⟨⟨gw_mem 373 (by decide +kernel) (by decide +kernel), gm_X2_takesUndressing.1⟩, gm_X2_takesUndressing.2⟩
theorem k_X2_57 : gclS RX2 57 mX2_takesFear 3 := ⟨⟨gw_mem 376 (by decide +kernel) (by decide +kernel), gm_X2_takesFear.1⟩, gm_X2_takesFear.2⟩
theorem k_X2_60 : gclS RX2 60 mX2_takesRust 3 := ⟨⟨gw_mem 379 (by decide +kernel) (by decide +kernel), gm_X2_takesRust.1⟩, gm_X2_takesRust.2⟩
theorem k_X2_66 : gclV RX2 66 mX0_passDays 1 := ⟨⟨gw_mem 382 (by decide +kernel) (by decide +kernel), gm_X0_passDays.1⟩, gm_X0_passDays.2⟩
theorem k_X2_76 : gclV RX2 76 mX0_putIn 2 := ⟨⟨gw_mem 365 (by decide +kernel) (by decide +kernel), gm_X0_putIn.1⟩, gm_X0_putIn.2⟩
theorem k_X3_60 : gclS RX3 60 mX3_range 3 := ⟨⟨gw_mem 218 (by decide +kernel) (by decide +kernel), gm_X3_range.1⟩, gm_X3_range.2⟩
theorem k_X3_67 : gclV RX3 67 mX3_refuse 1 := ⟨⟨gw_mem 221 (by decide +kernel) (by decide +kernel), gm_X3_refuse.1⟩, gm_X3_refuse.2⟩
theorem k_X3_71 : gclV RX3 71 mX2_add 1 := ⟨⟨gw_mem 225 (by decide +kernel) (by decide +kernel), gm_X2_add.1⟩, gm_X2_add.2⟩
theorem k_X3_74 : gclV RX3 74 mX2_wrongPlace 0 := ⟨⟨gw_mem 233 (by decide +kernel) (by decide +kernel), gm_X2_wrongPlace.1⟩, gm_X2_wrongPlace.2⟩
theorem k_X3_78 : gclV RX3 78 mX3_think 0 := ⟨⟨gw_mem 331 (by decide +kernel) (by decide +kernel), gm_X3_think.1⟩, gm_X3_think.2⟩
theorem k_X3_81 : gclV RX3 81 mX2_takes 2 := ⟨⟨gw_mem 342 (by decide +kernel) (by decide +kernel), gm_X2_takes.1⟩, gm_X2_takes.2⟩
theorem k_X3_85 : gclV RX3 85 mX2_lengthAt 1 := ⟨⟨gw_mem 428 (by decide +kernel) (by decide +kernel), gm_X2_lengthAt.1⟩, gm_X2_lengthAt.2⟩
theorem k_X3_88 : gclV RX3 88 mX0_copyFrom 1 := ⟨⟨gw_mem 335 (by decide +kernel) (by decide +kernel), gm_X0_copyFrom.1⟩, gm_X0_copyFrom.2⟩
theorem k_X3_92 : gclV RX3 92 mX3_anySuit 1 := ⟨⟨gw_mem 437 (by decide +kernel) (by decide +kernel), gm_X3_anySuit.1⟩, gm_X3_anySuit.2⟩
theorem k_X3_95 : gclS RX3 95 mX3_anyOf 2 := ⟨⟨gw_mem 441 (by decide +kernel) (by decide +kernel), gm_X3_anyOf.1⟩, gm_X3_anyOf.2⟩
theorem k_X3_99 : gclS RX3 99 mX3_firstOf 3 := ⟨⟨gw_mem 444 (by decide +kernel) (by decide +kernel), gm_X3_firstOf.1⟩, gm_X3_firstOf.2⟩
theorem k_X3_111 : gclV RX3 111 mX0_covers 1 := ⟨⟨gw_mem 447 (by decide +kernel) (by decide +kernel), gm_X0_covers.1⟩, gm_X0_covers.2⟩
theorem k_X3_117 : gclV RX3 117 mX0_chafe 2 := ⟨⟨gw_mem 451 (by decide +kernel) (by decide +kernel), gm_X0_chafe.1⟩, gm_X0_chafe.2⟩
theorem k_X3_123 : gclV RX3 123 mX0_wearer 1 := ⟨⟨gw_mem 453 (by decide +kernel) (by decide +kernel), gm_X0_wearer.1⟩, gm_X0_wearer.2⟩
theorem k_X3_126 : gclV RX3 126 mX3_anyCaller 1 := ⟨⟨gw_mem 458 (by decide +kernel) (by decide +kernel), gm_X3_anyCaller.1⟩, gm_X3_anyCaller.2⟩
theorem k_X3_141 : gclV RX3 141 mX0_can 1 := ⟨⟨gw_mem 462 (by decide +kernel) (by decide +kernel), gm_X0_can.1⟩, gm_X0_can.2⟩
theorem k_X3_145 : gclV RX3 145 mX0_lacks 1 := ⟨⟨gw_mem 463 (by decide +kernel) (by decide +kernel), gm_X0_lacks.1⟩, gm_X0_lacks.2⟩
theorem k_X3_149 : gclV RX3 149 mX0_bravery 1 := ⟨⟨gw_mem 472 (by decide +kernel) (by decide +kernel), gm_X0_bravery.1⟩, gm_X0_bravery.2⟩
theorem k_X3_152 : gclV RX3 152 mX0_putIn 2 := ⟨⟨gw_mem 477 (by decide +kernel) (by decide +kernel), gm_X0_putIn.1⟩, gm_X0_putIn.2⟩
theorem k_X3_156 : gclV RX3 156 mX3_inSuit 1 := ⟨⟨gw_mem 482 (by decide +kernel) (by decide +kernel), gm_X3_inSuit.1⟩, gm_X3_inSuit.2⟩
theorem k_X3_159 : gclV RX3 159 mX0_passDays 1 := ⟨⟨gw_mem 506 (by decide +kernel) (by decide +kernel), gm_X0_passDays.1⟩, gm_X0_passDays.2⟩
theorem k_X3_163 : gclV RX3 163 mX0_allSaid 0 := ⟨⟨gw_mem 507 (by decide +kernel) (by decide +kernel), gm_X0_allSaid.1⟩, gm_X0_allSaid.2⟩
theorem k_X3_169 : gclV RX3 169 mX3_firstToPropose 0 := ⟨⟨gw_mem 527 (by decide +kernel) (by decide +kernel), gm_X3_firstToPropose.1⟩, gm_X3_firstToPropose.2⟩
theorem k_X3_172 : gclV RX3 172 mX3_allSaidBehind 1 := ⟨⟨gw_mem 539 (by decide +kernel) (by decide +kernel), gm_X3_allSaidBehind.1⟩, gm_X3_allSaidBehind.2⟩
theorem k_X3_175 : gclV RX3 175 mX1_most 1 := ⟨⟨gw_mem 547 (by decide +kernel) (by decide +kernel), gm_X1_most.1⟩, gm_X1_most.2⟩
theorem k_X3_179 : gclV RX3 179 mX1_suitFor 2 := ⟨⟨gw_mem 568 (by decide +kernel) (by decide +kernel), gm_X1_suitFor.1⟩, gm_X1_suitFor.2⟩
theorem k_X3_189 : gmath RX3 189 Lib.Math.max.name Lib.Math.max.code := ⟨gw_mem 597 (by decide +kernel) (by decide +kernel), gw_mem 274 (by decide +kernel) (by decide +kernel), gw_mem 76 (by decide +kernel) (by decide +kernel), gw_mem 275 (by decide +kernel) (by decide +kernel)⟩
theorem k_X3_194 : gclV RX3 194 mX3_suitsAhead 1 := ⟨⟨gw_mem 610 (by decide +kernel) (by decide +kernel), gm_X3_suitsAhead.1⟩, gm_X3_suitsAhead.2⟩
theorem k_X3_197 : gclV RX3 197 mX0_coversWith 2 := ⟨⟨gw_mem 622 (by decide +kernel) (by decide +kernel), gm_X0_coversWith.1⟩, gm_X0_coversWith.2⟩
theorem k_X3_200 : gclV RX3 200 mX0_canCovered 2 := ⟨⟨gw_mem 623 (by decide +kernel) (by decide +kernel), gm_X0_canCovered.1⟩, gm_X0_canCovered.2⟩
theorem k_X3_204 : gclV RX3 204 mX3_thinkPair 4 := ⟨⟨gw_mem 628 (by decide +kernel) (by decide +kernel), gm_X3_thinkPair.1⟩, gm_X3_thinkPair.2⟩
theorem k_X3_208 : gclV RX3 208 mX3_wish 2 := ⟨⟨gw_mem 632 (by decide +kernel) (by decide +kernel), gm_X3_wish.1⟩, gm_X3_wish.2⟩
theorem k_X3_211 : gclS RX3 211 mX3_rainRange 3 := ⟨⟨gw_mem 640 (by decide +kernel) (by decide +kernel), gm_X3_rainRange.1⟩, gm_X3_rainRange.2⟩
theorem k_X3_216 : gclV RX3 216 mX3_saidInRain 3 := ⟨⟨gw_mem 644 (by decide +kernel) (by decide +kernel), gm_X3_saidInRain.1⟩, gm_X3_saidInRain.2⟩
theorem k_X3_219 : gclS RX3 219 mX3_waysOfRain 3 := ⟨⟨gw_mem 656 (by decide +kernel) (by decide +kernel), gm_X3_waysOfRain.1⟩, gm_X3_waysOfRain.2⟩
theorem k_X3_223 : gclS RX3 223 mX3_partOf 3 := ⟨⟨gw_mem 659 (by decide +kernel) (by decide +kernel), gm_X3_partOf.1⟩, gm_X3_partOf.2⟩
theorem k_X3_227 : gclV RX3 227 mX3_saysTheRow 1 := ⟨⟨gw_mem 670 (by decide +kernel) (by decide +kernel), gm_X3_saysTheRow.1⟩, gm_X3_saysTheRow.2⟩
theorem k_X3_233 : gclV RX3 233 mX0_allFear 0 := ⟨⟨gw_mem 705 (by decide +kernel) (by decide +kernel), gm_X0_allFear.1⟩, gm_X0_allFear.2⟩
theorem k_X3_236 : gclV RX3 236 mX0_rainOnAll 0 := ⟨⟨gw_mem 648 (by decide +kernel) (by decide +kernel), gm_X0_rainOnAll.1⟩, gm_X0_rainOnAll.2⟩
theorem k_X3_239 : gclV RX3 239 mX0_passDayOf 1 := ⟨⟨gw_mem 652 (by decide +kernel) (by decide +kernel), gm_X0_passDayOf.1⟩, gm_X0_passDayOf.2⟩
theorem k_X4_70 : gclS RX4 70 mX4_bound 3 := ⟨⟨gw_mem 818 (by decide +kernel) (by decide +kernel), gm_X4_bound.1⟩, gm_X4_bound.2⟩
theorem k_X4_77 : gclV RX4 77 mX4_no 1 := ⟨⟨gw_mem 821 (by decide +kernel) (by decide +kernel), gm_X4_no.1⟩, gm_X4_no.2⟩
theorem k_X4_84 : gclV RX4 84 mX4_letterNow 0 := ⟨⟨gw_mem 833 (by decide +kernel) (by decide +kernel), gm_X4_letterNow.1⟩, gm_X4_letterNow.2⟩
theorem k_X4_88 : gclS RX4 88 mX4_isIn 3 := ⟨⟨gw_mem 852 (by decide +kernel) (by decide +kernel), gm_X4_isIn.1⟩, gm_X4_isIn.2⟩
theorem k_X4_92 : gclS RX4 92 mX4_kindOf 1 := ⟨⟨gw_mem 845 (by decide +kernel) (by decide +kernel), gm_X4_kindOf.1⟩, gm_X4_kindOf.2⟩
theorem k_X4_95 : gclV RX4 95 mX4_readsDigits 2 := ⟨⟨gw_mem 848 (by decide +kernel) (by decide +kernel), gm_X4_readsDigits.1⟩, gm_X4_readsDigits.2⟩
theorem k_X4_99 : gclV RX4 99 mX4_readsSuit 1 := ⟨⟨gw_mem 841 (by decide +kernel) (by decide +kernel), gm_X4_readsSuit.1⟩, gm_X4_readsSuit.2⟩
theorem k_X4_106 : gclV RX4 106 mX4_readsAll 2 := ⟨⟨gw_mem 837 (by decide +kernel) (by decide +kernel), gm_X4_readsAll.1⟩, gm_X4_readsAll.2⟩
theorem k_X4_109 : gclV RX4 109 mX4_isSuit 1 := ⟨⟨gw_mem 930 (by decide +kernel) (by decide +kernel), gm_X4_isSuit.1⟩, gm_X4_isSuit.2⟩
theorem k_X4_112 : gclV RX4 112 mX4_isCaller 1 := ⟨⟨gw_mem 934 (by decide +kernel) (by decide +kernel), gm_X4_isCaller.1⟩, gm_X4_isCaller.2⟩
theorem k_X4_115 : gclV RX4 115 mX4_putsOn 2 := ⟨⟨gw_mem 938 (by decide +kernel) (by decide +kernel), gm_X4_putsOn.1⟩, gm_X4_putsOn.2⟩
theorem k_X4_122 : gclV RX4 122 mX4_goes 1 := ⟨⟨gw_mem 883 (by decide +kernel) (by decide +kernel), gm_X4_goes.1⟩, gm_X4_goes.2⟩
theorem k_X4_126 : gclV RX4 126 mX4_comesSuit 2 := ⟨⟨gw_mem 871 (by decide +kernel) (by decide +kernel), gm_X4_comesSuit.1⟩, gm_X4_comesSuit.2⟩
theorem k_X4_129 : gclV RX4 129 mX4_comesCaller 1 := ⟨⟨gw_mem 875 (by decide +kernel) (by decide +kernel), gm_X4_comesCaller.1⟩, gm_X4_comesCaller.2⟩
theorem k_X4_132 : gclV RX4 132 mX4_comesDays 1 := ⟨⟨gw_mem 879 (by decide +kernel) (by decide +kernel), gm_X4_comesDays.1⟩, gm_X4_comesDays.2⟩
theorem k_X4_135 : gclV RX4 135 mX4_comesOf 3 := ⟨⟨gw_mem 926 (by decide +kernel) (by decide +kernel), gm_X4_comesOf.1⟩, gm_X4_comesOf.2⟩
theorem k_X4_138 : gclV RX4 138 mX4_statement 0 := ⟨⟨gw_mem 829 (by decide +kernel) (by decide +kernel), gm_X4_statement.1⟩, gm_X4_statement.2⟩
theorem k_X4_142 : gclV RX4 142 mX4_passesAll 2 := ⟨⟨gw_mem 855 (by decide +kernel) (by decide +kernel), gm_X4_passesAll.1⟩, gm_X4_passesAll.2⟩
theorem k_X4_146 : gclV RX4 146 mX4_comes 1 := ⟨⟨gw_mem 867 (by decide +kernel) (by decide +kernel), gm_X4_comes.1⟩, gm_X4_comes.2⟩
theorem k_X4_156 : gclV RX4 156 mX4_passes 1 := ⟨⟨gw_mem 859 (by decide +kernel) (by decide +kernel), gm_X4_passes.1⟩, gm_X4_passes.2⟩
theorem k_X4_160 : gclV RX4 160 mX4_passOne 1 := ⟨⟨gw_mem 863 (by decide +kernel) (by decide +kernel), gm_X4_passOne.1⟩, gm_X4_passOne.2⟩
theorem k_X4_169 : gclV RX4 169 mX4_wearerOf 1 := ⟨⟨gw_mem 922 (by decide +kernel) (by decide +kernel), gm_X4_wearerOf.1⟩, gm_X4_wearerOf.2⟩
theorem k_X4_172 : gclV RX4 172 mX4_covers 1 := ⟨⟨gw_mem 906 (by decide +kernel) (by decide +kernel), gm_X4_covers.1⟩, gm_X4_covers.2⟩
theorem k_X4_175 : gclV RX4 175 mX4_courageIn 2 := ⟨⟨gw_mem 914 (by decide +kernel) (by decide +kernel), gm_X4_courageIn.1⟩, gm_X4_courageIn.2⟩
theorem k_X4_179 : gclV RX4 179 mX4_isEnough 2 := ⟨⟨gw_mem 910 (by decide +kernel) (by decide +kernel), gm_X4_isEnough.1⟩, gm_X4_isEnough.2⟩
theorem k_X4_182 : gclV RX4 182 mX4_canSay 1 := ⟨⟨gw_mem 902 (by decide +kernel) (by decide +kernel), gm_X4_canSay.1⟩, gm_X4_canSay.2⟩
theorem k_X4_185 : gclV RX4 185 mX4_courageOf 1 := ⟨⟨gw_mem 962 (by decide +kernel) (by decide +kernel), gm_X4_courageOf.1⟩, gm_X4_courageOf.2⟩
theorem k_X4_188 : gclS RX4 188 mX4_held 2 := ⟨⟨gw_mem 895 (by decide +kernel) (by decide +kernel), gm_X4_held.1⟩, gm_X4_held.2⟩
theorem k_X4_191 : gclV RX4 191 mX4_costs 1 := ⟨⟨gw_mem 898 (by decide +kernel) (by decide +kernel), gm_X4_costs.1⟩, gm_X4_costs.2⟩
theorem k_X4_194 : gclV RX4 194 mX4_chafes 2 := ⟨⟨gw_mem 918 (by decide +kernel) (by decide +kernel), gm_X4_chafes.1⟩, gm_X4_chafes.2⟩
theorem k_X4_197 : gclV RX4 197 mX4_goesCaller 1 := ⟨⟨gw_mem 891 (by decide +kernel) (by decide +kernel), gm_X4_goesCaller.1⟩, gm_X4_goesCaller.2⟩
theorem k_X4_200 : gclV RX4 200 mX4_goesDay 0 := ⟨⟨gw_mem 887 (by decide +kernel) (by decide +kernel), gm_X4_goesDay.1⟩, gm_X4_goesDay.2⟩
theorem k_X4_203 : gclV RX4 203 mX4_lacks 1 := ⟨⟨gw_mem 958 (by decide +kernel) (by decide +kernel), gm_X4_lacks.1⟩, gm_X4_lacks.2⟩
theorem k_X4_206 : gclV RX4 206 mX4_lower 1 := ⟨⟨gw_mem 970 (by decide +kernel) (by decide +kernel), gm_X4_lower.1⟩, gm_X4_lower.2⟩
theorem k_X4_209 : gclS RX4 209 mX4_suitOf 1 := ⟨⟨gw_mem 979 (by decide +kernel) (by decide +kernel), gm_X4_suitOf.1⟩, gm_X4_suitOf.2⟩
theorem k_X4_212 : gclV RX4 212 mX4_allOf 1 := ⟨⟨gw_mem 1006 (by decide +kernel) (by decide +kernel), gm_X4_allOf.1⟩, gm_X4_allOf.2⟩
theorem k_X4_216 : gclS RX4 216 mX4_notDays 1 := ⟨⟨gw_mem 1014 (by decide +kernel) (by decide +kernel), gm_X4_notDays.1⟩, gm_X4_notDays.2⟩
theorem k_X4_219 : gclV RX4 219 mX4_thinks 0 := ⟨⟨gw_mem 1017 (by decide +kernel) (by decide +kernel), gm_X4_thinks.1⟩, gm_X4_thinks.2⟩
theorem k_X4_222 : gclV RX4 222 mX4_forgets 0 := ⟨⟨gw_mem 1021 (by decide +kernel) (by decide +kernel), gm_X4_forgets.1⟩, gm_X4_forgets.2⟩
theorem k_X4_225 : gclV RX4 225 mX4_proposesWhen 1 := ⟨⟨gw_mem 1041 (by decide +kernel) (by decide +kernel), gm_X4_proposesWhen.1⟩, gm_X4_proposesWhen.2⟩
theorem k_X4_228 : gclV RX4 228 mX4_firstToPropose 0 := ⟨⟨gw_mem 1037 (by decide +kernel) (by decide +kernel), gm_X4_firstToPropose.1⟩, gm_X4_firstToPropose.2⟩
theorem k_X4_231 : gclV RX4 231 mX4_saidIn 1 := ⟨⟨gw_mem 1053 (by decide +kernel) (by decide +kernel), gm_X4_saidIn.1⟩, gm_X4_saidIn.2⟩
theorem k_X4_234 : gclV RX4 234 mX4_worthIn 2 := ⟨⟨gw_mem 1065 (by decide +kernel) (by decide +kernel), gm_X4_worthIn.1⟩, gm_X4_worthIn.2⟩
theorem k_X4_237 : gclS RX4 237 mX4_has 2 := ⟨⟨gw_mem 1069 (by decide +kernel) (by decide +kernel), gm_X4_has.1⟩, gm_X4_has.2⟩
theorem k_X4_240 : gclV RX4 240 mX4_findDressed 0 := ⟨⟨gw_mem 1061 (by decide +kernel) (by decide +kernel), gm_X4_findDressed.1⟩, gm_X4_findDressed.2⟩
theorem k_X4_243 : gclV RX4 243 mX4_dressedIn 2 := ⟨⟨gw_mem 1072 (by decide +kernel) (by decide +kernel), gm_X4_dressedIn.1⟩, gm_X4_dressedIn.2⟩
theorem k_X4_252 : gclV RX4 252 mX4_findSuit 2 := ⟨⟨gw_mem 1080 (by decide +kernel) (by decide +kernel), gm_X4_findSuit.1⟩, gm_X4_findSuit.2⟩
theorem k_X4_255 : gclV RX4 255 mX4_dressedOnes 0 := ⟨⟨gw_mem 1092 (by decide +kernel) (by decide +kernel), gm_X4_dressedOnes.1⟩, gm_X4_dressedOnes.2⟩
theorem k_X4_258 : gclV RX4 258 mX4_proposedBy 2 := ⟨⟨gw_mem 1096 (by decide +kernel) (by decide +kernel), gm_X4_proposedBy.1⟩, gm_X4_proposedBy.2⟩
theorem k_X4_261 : gclS RX4 261 mX4_bits 1 := ⟨⟨gw_mem 1100 (by decide +kernel) (by decide +kernel), gm_X4_bits.1⟩, gm_X4_bits.2⟩
theorem k_X4_270 : gclV RX4 270 mX4_findSpare 1 := ⟨⟨gw_mem 1107 (by decide +kernel) (by decide +kernel), gm_X4_findSpare.1⟩, gm_X4_findSpare.2⟩
theorem k_X4_273 : gclV RX4 273 mX4_aheadOf 1 := ⟨⟨gw_mem 1127 (by decide +kernel) (by decide +kernel), gm_X4_aheadOf.1⟩, gm_X4_aheadOf.2⟩
theorem k_X4_276 : gclV RX4 276 mX4_findGets 3 := ⟨⟨gw_mem 1143 (by decide +kernel) (by decide +kernel), gm_X4_findGets.1⟩, gm_X4_findGets.2⟩
theorem k_X4_280 : gclS RX4 280 mX4_divisor 2 := ⟨⟨gw_mem 1163 (by decide +kernel) (by decide +kernel), gm_X4_divisor.1⟩, gm_X4_divisor.2⟩
theorem k_X4_284 : gclV RX4 284 mX4_lowestOf 1 := ⟨⟨gw_mem 1151 (by decide +kernel) (by decide +kernel), gm_X4_lowestOf.1⟩, gm_X4_lowestOf.2⟩
theorem k_X4_288 : gclV RX4 288 mX4_rains 0 := ⟨⟨gw_mem 1156 (by decide +kernel) (by decide +kernel), gm_X4_rains.1⟩, gm_X4_rains.2⟩
theorem k_X4_291 : gclS RX4 291 mX4_partOf 3 := ⟨⟨gw_mem 1160 (by decide +kernel) (by decide +kernel), gm_X4_partOf.1⟩, gm_X4_partOf.2⟩
theorem k_X4_298 : gclV RX4 298 mX4_isSo 1 := ⟨⟨gw_mem 1178 (by decide +kernel) (by decide +kernel), gm_X4_isSo.1⟩, gm_X4_isSo.2⟩
theorem k_X4_301 : gclV RX4 301 mX4_bitsFor 4 := ⟨⟨gw_mem 1174 (by decide +kernel) (by decide +kernel), gm_X4_bitsFor.1⟩, gm_X4_bitsFor.2⟩
theorem k_X4_311 : gclV RX4 311 mX4_draw 1 := ⟨⟨gw_mem 1198 (by decide +kernel) (by decide +kernel), gm_X4_draw.1⟩, gm_X4_draw.2⟩
theorem f_X0_9 : gfld RX0 9 0 0 := ⟨_, rfl, by decide, gw_mem 95 (by decide +kernel) (by decide +kernel)⟩
theorem f_X0_15 : gfld RX0 15 0 1 := ⟨_, rfl, by decide, gw_mem 97 (by decide +kernel) (by decide +kernel)⟩
theorem f_X0_18 : gfld RX0 18 0 2 := ⟨_, rfl, by decide, gw_mem 99 (by decide +kernel) (by decide +kernel)⟩
theorem f_X0_21 : gfld RX0 21 0 3 := ⟨_, rfl, by decide, gw_mem 102 (by decide +kernel) (by decide +kernel)⟩
theorem f_X0_24 : gfld RX0 24 0 4 := ⟨_, rfl, by decide, gw_mem 105 (by decide +kernel) (by decide +kernel)⟩
theorem f_X0_27 : gfld RX0 27 0 5 := ⟨_, rfl, by decide, gw_mem 107 (by decide +kernel) (by decide +kernel)⟩
theorem f_X0_30 : gfld RX0 30 0 6 := ⟨_, rfl, by decide, gw_mem 109 (by decide +kernel) (by decide +kernel)⟩
theorem f_X0_33 : gfld RX0 33 0 7 := ⟨_, rfl, by decide, gw_mem 112 (by decide +kernel) (by decide +kernel)⟩
theorem fw_X0_33 : gfldW RX0 33 0 7 .int := ⟨_, rfl, by decide, gw_mem 112 (by decide +kernel) (by decide +kernel), rfl, by decide +kernel⟩
theorem f_X0_37 : gfld RX0 37 0 8 := ⟨_, rfl, by decide, gw_mem 116 (by decide +kernel) (by decide +kernel)⟩
theorem fw_X0_37 : gfldW RX0 37 0 8 .int := ⟨_, rfl, by decide, gw_mem 116 (by decide +kernel) (by decide +kernel), rfl, by decide +kernel⟩
theorem f_X0_40 : gfld RX0 40 0 9 := ⟨_, rfl, by decide, gw_mem 120 (by decide +kernel) (by decide +kernel)⟩
theorem fw_X0_40 : gfldW RX0 40 0 9 .int := ⟨_, rfl, by decide, gw_mem 120 (by decide +kernel) (by decide +kernel), rfl, by decide +kernel⟩
theorem f_X0_43 : gfld RX0 43 0 10 := ⟨_, rfl, by decide, gw_mem 122 (by decide +kernel) (by decide +kernel)⟩
theorem fw_X0_43 : gfldW RX0 43 0 10 .int := ⟨_, rfl, by decide, gw_mem 122 (by decide +kernel) (by decide +kernel), rfl, by decide +kernel⟩
theorem f_X1_11 : gfld RX1 11 1 0 := ⟨_, rfl, by decide, gw_mem 170 (by decide +kernel) (by decide +kernel)⟩
theorem f_X1_15 : gfld RX1 15 1 1 := ⟨_, rfl, by decide, gw_mem 171 (by decide +kernel) (by decide +kernel)⟩
theorem f_X1_18 : gfld RX1 18 0 7 := ⟨_, rfl, by decide, gw_mem 113 (by decide +kernel) (by decide +kernel)⟩
theorem fw_X1_18 : gfldW RX1 18 0 7 .int := ⟨_, rfl, by decide, gw_mem 113 (by decide +kernel) (by decide +kernel), rfl, by decide +kernel⟩
theorem f_X1_24 : gfld RX1 24 0 8 := ⟨_, rfl, by decide, gw_mem 117 (by decide +kernel) (by decide +kernel)⟩
theorem fw_X1_24 : gfldW RX1 24 0 8 .int := ⟨_, rfl, by decide, gw_mem 117 (by decide +kernel) (by decide +kernel), rfl, by decide +kernel⟩
theorem f_X2_9 : gfld RX2 9 2 0 := ⟨_, rfl, by decide, gw_mem 155 (by decide +kernel) (by decide +kernel)⟩
theorem f_X2_15 : gfld RX2 15 2 1 := ⟨_, rfl, by decide, gw_mem 156 (by decide +kernel) (by decide +kernel)⟩
theorem fw_X2_15 : gfldW RX2 15 2 1 .int := ⟨_, rfl, by decide, gw_mem 156 (by decide +kernel) (by decide +kernel), rfl, by decide +kernel⟩
theorem f_X2_63 : gfld RX2 63 0 10 := ⟨_, rfl, by decide, gw_mem 124 (by decide +kernel) (by decide +kernel)⟩
theorem fw_X2_63 : gfldW RX2 63 0 10 .int := ⟨_, rfl, by decide, gw_mem 124 (by decide +kernel) (by decide +kernel), rfl, by decide +kernel⟩
theorem f_X2_70 : gfld RX2 70 0 8 := ⟨_, rfl, by decide, gw_mem 118 (by decide +kernel) (by decide +kernel)⟩
theorem fw_X2_70 : gfldW RX2 70 0 8 .int := ⟨_, rfl, by decide, gw_mem 118 (by decide +kernel) (by decide +kernel), rfl, by decide +kernel⟩
theorem f_X2_73 : gfld RX2 73 0 7 := ⟨_, rfl, by decide, gw_mem 114 (by decide +kernel) (by decide +kernel)⟩
theorem fw_X2_73 : gfldW RX2 73 0 7 .int := ⟨_, rfl, by decide, gw_mem 114 (by decide +kernel) (by decide +kernel), rfl, by decide +kernel⟩
theorem f_X2_80 : gfld RX2 80 0 6 := ⟨_, rfl, by decide, gw_mem 111 (by decide +kernel) (by decide +kernel)⟩
theorem f_X2_84 : gfld RX2 84 0 3 := ⟨_, rfl, by decide, gw_mem 104 (by decide +kernel) (by decide +kernel)⟩
theorem f_X2_87 : gfld RX2 87 0 2 := ⟨_, rfl, by decide, gw_mem 101 (by decide +kernel) (by decide +kernel)⟩
theorem f_X3_10 : gfld RX3 10 3 0 := ⟨_, rfl, by decide, gw_mem 177 (by decide +kernel) (by decide +kernel)⟩
theorem f_X3_16 : gfld RX3 16 3 1 := ⟨_, rfl, by decide, gw_mem 178 (by decide +kernel) (by decide +kernel)⟩
theorem f_X3_19 : gfld RX3 19 3 2 := ⟨_, rfl, by decide, gw_mem 179 (by decide +kernel) (by decide +kernel)⟩
theorem f_X3_22 : gfld RX3 22 3 3 := ⟨_, rfl, by decide, gw_mem 180 (by decide +kernel) (by decide +kernel)⟩
theorem fw_X3_22 : gfldW RX3 22 3 3 .boolean := ⟨_, rfl, by decide, gw_mem 180 (by decide +kernel) (by decide +kernel), rfl, by decide +kernel⟩
theorem f_X3_29 : gfld RX3 29 3 4 := ⟨_, rfl, by decide, gw_mem 181 (by decide +kernel) (by decide +kernel)⟩
theorem f_X3_36 : gfld RX3 36 3 5 := ⟨_, rfl, by decide, gw_mem 182 (by decide +kernel) (by decide +kernel)⟩
theorem f_X3_40 : gfld RX3 40 3 6 := ⟨_, rfl, by decide, gw_mem 183 (by decide +kernel) (by decide +kernel)⟩
theorem f_X3_44 : gfld RX3 44 3 7 := ⟨_, rfl, by decide, gw_mem 184 (by decide +kernel) (by decide +kernel)⟩
theorem fw_X3_44 : gfldW RX3 44 3 7 .int := ⟨_, rfl, by decide, gw_mem 184 (by decide +kernel) (by decide +kernel), rfl, by decide +kernel⟩
theorem f_X3_48 : gfld RX3 48 3 8 := ⟨_, rfl, by decide, gw_mem 185 (by decide +kernel) (by decide +kernel)⟩
theorem f_X3_51 : gfld RX3 51 3 9 := ⟨_, rfl, by decide, gw_mem 186 (by decide +kernel) (by decide +kernel)⟩
theorem f_X3_54 : gfld RX3 54 3 10 := ⟨_, rfl, by decide, gw_mem 187 (by decide +kernel) (by decide +kernel)⟩
theorem f_X3_57 : gfld RX3 57 3 11 := ⟨_, rfl, by decide, gw_mem 188 (by decide +kernel) (by decide +kernel)⟩
theorem f_X3_64 : gfld RX3 64 2 1 := ⟨_, rfl, by decide, gw_mem 157 (by decide +kernel) (by decide +kernel)⟩
theorem fw_X3_64 : gfldW RX3 64 2 1 .int := ⟨_, rfl, by decide, gw_mem 157 (by decide +kernel) (by decide +kernel), rfl, by decide +kernel⟩
theorem f_X3_102 : gfld RX3 102 0 0 := ⟨_, rfl, by decide, gw_mem 96 (by decide +kernel) (by decide +kernel)⟩
theorem f_X3_105 : gfld RX3 105 0 1 := ⟨_, rfl, by decide, gw_mem 98 (by decide +kernel) (by decide +kernel)⟩
theorem f_X3_108 : gfld RX3 108 0 2 := ⟨_, rfl, by decide, gw_mem 100 (by decide +kernel) (by decide +kernel)⟩
theorem f_X3_114 : gfld RX3 114 0 10 := ⟨_, rfl, by decide, gw_mem 123 (by decide +kernel) (by decide +kernel)⟩
theorem fw_X3_114 : gfldW RX3 114 0 10 .int := ⟨_, rfl, by decide, gw_mem 123 (by decide +kernel) (by decide +kernel), rfl, by decide +kernel⟩
theorem f_X3_129 : gfld RX3 129 0 3 := ⟨_, rfl, by decide, gw_mem 103 (by decide +kernel) (by decide +kernel)⟩
theorem f_X3_132 : gfld RX3 132 0 4 := ⟨_, rfl, by decide, gw_mem 106 (by decide +kernel) (by decide +kernel)⟩
theorem f_X3_135 : gfld RX3 135 0 5 := ⟨_, rfl, by decide, gw_mem 108 (by decide +kernel) (by decide +kernel)⟩
theorem f_X3_138 : gfld RX3 138 0 6 := ⟨_, rfl, by decide, gw_mem 110 (by decide +kernel) (by decide +kernel)⟩
theorem f_X3_166 : gfld RX3 166 0 9 := ⟨_, rfl, by decide, gw_mem 121 (by decide +kernel) (by decide +kernel)⟩
theorem fw_X3_166 : gfldW RX3 166 0 9 .int := ⟨_, rfl, by decide, gw_mem 121 (by decide +kernel) (by decide +kernel), rfl, by decide +kernel⟩
theorem f_X3_183 : gfld RX3 183 0 7 := ⟨_, rfl, by decide, gw_mem 115 (by decide +kernel) (by decide +kernel)⟩
theorem fw_X3_183 : gfldW RX3 183 0 7 .int := ⟨_, rfl, by decide, gw_mem 115 (by decide +kernel) (by decide +kernel), rfl, by decide +kernel⟩
theorem f_X3_186 : gfld RX3 186 0 8 := ⟨_, rfl, by decide, gw_mem 119 (by decide +kernel) (by decide +kernel)⟩
theorem fw_X3_186 : gfldW RX3 186 0 8 .int := ⟨_, rfl, by decide, gw_mem 119 (by decide +kernel) (by decide +kernel), rfl, by decide +kernel⟩
theorem f_X4_7 : gfld RX4 7 4 0 := ⟨_, rfl, by decide, gw_mem 717 (by decide +kernel) (by decide +kernel)⟩
theorem f_X4_13 : gfld RX4 13 4 1 := ⟨_, rfl, by decide, gw_mem 718 (by decide +kernel) (by decide +kernel)⟩
theorem f_X4_16 : gfld RX4 16 4 2 := ⟨_, rfl, by decide, gw_mem 719 (by decide +kernel) (by decide +kernel)⟩
theorem f_X4_19 : gfld RX4 19 4 3 := ⟨_, rfl, by decide, gw_mem 720 (by decide +kernel) (by decide +kernel)⟩
theorem f_X4_22 : gfld RX4 22 4 4 := ⟨_, rfl, by decide, gw_mem 721 (by decide +kernel) (by decide +kernel)⟩
theorem f_X4_25 : gfld RX4 25 4 5 := ⟨_, rfl, by decide, gw_mem 722 (by decide +kernel) (by decide +kernel)⟩
theorem f_X4_28 : gfld RX4 28 4 6 := ⟨_, rfl, by decide, gw_mem 723 (by decide +kernel) (by decide +kernel)⟩
theorem f_X4_31 : gfld RX4 31 4 7 := ⟨_, rfl, by decide, gw_mem 724 (by decide +kernel) (by decide +kernel)⟩
theorem f_X4_34 : gfld RX4 34 4 12 := ⟨_, rfl, by decide, gw_mem 729 (by decide +kernel) (by decide +kernel)⟩
theorem f_X4_37 : gfld RX4 37 4 13 := ⟨_, rfl, by decide, gw_mem 730 (by decide +kernel) (by decide +kernel)⟩
theorem f_X4_40 : gfld RX4 40 4 14 := ⟨_, rfl, by decide, gw_mem 731 (by decide +kernel) (by decide +kernel)⟩
theorem f_X4_43 : gfld RX4 43 4 15 := ⟨_, rfl, by decide, gw_mem 732 (by decide +kernel) (by decide +kernel)⟩
theorem f_X4_46 : gfld RX4 46 4 19 := ⟨_, rfl, by decide, gw_mem 736 (by decide +kernel) (by decide +kernel)⟩
theorem f_X4_51 : gfld RX4 51 4 23 := ⟨_, rfl, by decide, gw_mem 740 (by decide +kernel) (by decide +kernel)⟩
theorem f_X4_54 : gfld RX4 54 4 28 := ⟨_, rfl, by decide, gw_mem 745 (by decide +kernel) (by decide +kernel)⟩
theorem f_X4_57 : gfld RX4 57 4 29 := ⟨_, rfl, by decide, gw_mem 746 (by decide +kernel) (by decide +kernel)⟩
theorem f_X4_60 : gfld RX4 60 4 8 := ⟨_, rfl, by decide, gw_mem 725 (by decide +kernel) (by decide +kernel)⟩
theorem fw_X4_60 : gfldW RX4 60 4 8 .int := ⟨_, rfl, by decide, gw_mem 725 (by decide +kernel) (by decide +kernel), rfl, by decide +kernel⟩
theorem f_X4_67 : gfld RX4 67 4 9 := ⟨_, rfl, by decide, gw_mem 726 (by decide +kernel) (by decide +kernel)⟩
theorem fw_X4_67 : gfldW RX4 67 4 9 .int := ⟨_, rfl, by decide, gw_mem 726 (by decide +kernel) (by decide +kernel), rfl, by decide +kernel⟩
theorem f_X4_74 : gfld RX4 74 4 16 := ⟨_, rfl, by decide, gw_mem 733 (by decide +kernel) (by decide +kernel)⟩
theorem fw_X4_74 : gfldW RX4 74 4 16 .int := ⟨_, rfl, by decide, gw_mem 733 (by decide +kernel) (by decide +kernel), rfl, by decide +kernel⟩
theorem f_X4_81 : gfld RX4 81 4 17 := ⟨_, rfl, by decide, gw_mem 734 (by decide +kernel) (by decide +kernel)⟩
theorem fw_X4_81 : gfldW RX4 81 4 17 .int := ⟨_, rfl, by decide, gw_mem 734 (by decide +kernel) (by decide +kernel), rfl, by decide +kernel⟩
theorem f_X4_103 : gfld RX4 103 4 18 := ⟨_, rfl, by decide, gw_mem 735 (by decide +kernel) (by decide +kernel)⟩
theorem fw_X4_103 : gfldW RX4 103 4 18 .int := ⟨_, rfl, by decide, gw_mem 735 (by decide +kernel) (by decide +kernel), rfl, by decide +kernel⟩
theorem f_X4_119 : gfld RX4 119 4 11 := ⟨_, rfl, by decide, gw_mem 728 (by decide +kernel) (by decide +kernel)⟩
theorem fw_X4_119 : gfldW RX4 119 4 11 .int := ⟨_, rfl, by decide, gw_mem 728 (by decide +kernel) (by decide +kernel), rfl, by decide +kernel⟩
theorem f_X4_149 : gfld RX4 149 4 21 := ⟨_, rfl, by decide, gw_mem 738 (by decide +kernel) (by decide +kernel)⟩
theorem fw_X4_149 : gfldW RX4 149 4 21 .boolean := ⟨_, rfl, by decide, gw_mem 738 (by decide +kernel) (by decide +kernel), rfl, by decide +kernel⟩
theorem f_X4_153 : gfld RX4 153 4 22 := ⟨_, rfl, by decide, gw_mem 739 (by decide +kernel) (by decide +kernel)⟩
theorem fw_X4_153 : gfldW RX4 153 4 22 .int := ⟨_, rfl, by decide, gw_mem 739 (by decide +kernel) (by decide +kernel), rfl, by decide +kernel⟩
theorem f_X4_163 : gfld RX4 163 4 10 := ⟨_, rfl, by decide, gw_mem 727 (by decide +kernel) (by decide +kernel)⟩
theorem fw_X4_163 : gfldW RX4 163 4 10 .int := ⟨_, rfl, by decide, gw_mem 727 (by decide +kernel) (by decide +kernel), rfl, by decide +kernel⟩
theorem f_X4_166 : gfld RX4 166 4 20 := ⟨_, rfl, by decide, gw_mem 737 (by decide +kernel) (by decide +kernel)⟩
theorem fw_X4_166 : gfldW RX4 166 4 20 .boolean := ⟨_, rfl, by decide, gw_mem 737 (by decide +kernel) (by decide +kernel), rfl, by decide +kernel⟩
theorem f_X4_246 : gfld RX4 246 4 24 := ⟨_, rfl, by decide, gw_mem 741 (by decide +kernel) (by decide +kernel)⟩
theorem fw_X4_246 : gfldW RX4 246 4 24 .int := ⟨_, rfl, by decide, gw_mem 741 (by decide +kernel) (by decide +kernel), rfl, by decide +kernel⟩
theorem f_X4_249 : gfld RX4 249 4 25 := ⟨_, rfl, by decide, gw_mem 742 (by decide +kernel) (by decide +kernel)⟩
theorem fw_X4_249 : gfldW RX4 249 4 25 .int := ⟨_, rfl, by decide, gw_mem 742 (by decide +kernel) (by decide +kernel), rfl, by decide +kernel⟩
theorem f_X4_264 : gfld RX4 264 4 26 := ⟨_, rfl, by decide, gw_mem 743 (by decide +kernel) (by decide +kernel)⟩
theorem fw_X4_264 : gfldW RX4 264 4 26 .int := ⟨_, rfl, by decide, gw_mem 743 (by decide +kernel) (by decide +kernel), rfl, by decide +kernel⟩
theorem f_X4_267 : gfld RX4 267 4 27 := ⟨_, rfl, by decide, gw_mem 744 (by decide +kernel) (by decide +kernel)⟩
theorem fw_X4_267 : gfldW RX4 267 4 27 .int := ⟨_, rfl, by decide, gw_mem 744 (by decide +kernel) (by decide +kernel), rfl, by decide +kernel⟩
theorem f_X4_295 : gfld RX4 295 4 30 := ⟨_, rfl, by decide, gw_mem 747 (by decide +kernel) (by decide +kernel)⟩
theorem fw_X4_295 : gfldW RX4 295 4 30 .int := ⟨_, rfl, by decide, gw_mem 747 (by decide +kernel) (by decide +kernel), rfl, by decide +kernel⟩
theorem f_X4_305 : gfld RX4 305 4 31 := ⟨_, rfl, by decide, gw_mem 748 (by decide +kernel) (by decide +kernel)⟩
theorem fw_X4_305 : gfldW RX4 305 4 31 .int := ⟨_, rfl, by decide, gw_mem 748 (by decide +kernel) (by decide +kernel), rfl, by decide +kernel⟩
theorem kc_X3_148 : Cond.constant RX3 148 1000000000 ∈ gw := gw_mem 471 (by decide +kernel) (by decide +kernel)
theorem kc_X3_214 : Cond.constantLong RX3 214 4000000000000000000 ∈ gw := gw_mem 643 (by decide +kernel) (by decide +kernel)
theorem kc_X3_230 : Cond.constant RX3 230 1664525 ∈ gw := gw_mem 690 (by decide +kernel) (by decide +kernel)
theorem kc_X3_231 : Cond.constant RX3 231 1013904223 ∈ gw := gw_mem 691 (by decide +kernel) (by decide +kernel)
theorem kc_X3_232 : Cond.constant RX3 232 2147483647 ∈ gw := gw_mem 692 (by decide +kernel) (by decide +kernel)
theorem kc_X4_64 : Cond.constant RX4 64 1000000000 ∈ gw := gw_mem 974 (by decide +kernel) (by decide +kernel)
theorem kc_X4_65 : Cond.constantLong RX4 65 4000000000000000000 ∈ gw := gw_mem 1155 (by decide +kernel) (by decide +kernel)
theorem kc_X4_308 : Cond.constant RX4 308 1664525 ∈ gw := gw_mem 1202 (by decide +kernel) (by decide +kernel)
theorem kc_X4_309 : Cond.constant RX4 309 1013904223 ∈ gw := gw_mem 1203 (by decide +kernel) (by decide +kernel)
theorem kc_X4_310 : Cond.constant RX4 310 2147483647 ∈ gw := gw_mem 1204 (by decide +kernel) (by decide +kernel)
theorem fs_J0_9 : Cond.fieldLink RJ0 9 "java/lang/String" "value" "[B" ∈ gw := gw_mem 1210 (by decide +kernel) (by decide +kernel)
theorem fs_J0_15 : Cond.fieldLink RJ0 15 "java/lang/String" "coder" "B" ∈ gw := gw_mem 1209 (by decide +kernel) (by decide +kernel)
theorem fs_J0_38 : Cond.fieldLink RJ0 38 "java/lang/String" "COMPACT_STRINGS" "Z" ∈ gw := gw_mem 257 (by decide +kernel) (by decide +kernel)
theorem fs_X3_120 : Cond.fieldLink RX3 120 "ArmourOfTheShy" (gsn 100) "[I" ∈ gw := gw_mem 452 (by decide +kernel) (by decide +kernel)
theorem gc_0 : gcls 0 RX3 := Or.inl ⟨3, _, _, sh_0, rfl, rfl⟩
theorem gc_1 : gcls 1 RX0 := Or.inl ⟨0, _, _, sh_1, rfl, rfl⟩
theorem gc_9 : gcls 9 RX0 := Or.inl ⟨0, _, _, sh_9, rfl, rfl⟩
theorem gc_17 : gcls 17 RX0 := Or.inl ⟨0, _, _, sh_17, rfl, rfl⟩
theorem gc_25 : gcls 25 RX2 := Or.inl ⟨2, _, _, sh_25, rfl, rfl⟩
theorem gc_27 : gcls 27 RX1 := Or.inl ⟨1, _, _, sh_27, rfl, rfl⟩
theorem gc_35 : gcls 35 RX4 := Or.inl ⟨4, _, _, sh_35, rfl, rfl⟩
theorem gc_104 : gcls 104 RJ0 := Or.inr ⟨rfl, rfl⟩
end
section
section GU2
variable {own : String} {cc : ByteArray} {fr lo : Nat} {G : gJ}
theorem r_top (h : gR own cc fr lo G) {pc : Nat} {ls st : List Value} {g : gG} {x y : Int32} (e : x = y) (k : G pc ls (.int y :: st) g) : G pc ls (.int x :: st) g := by rw [e]; exact k
theorem r_topl (h : gR own cc fr lo G) {pc : Nat} {ls st : List Value} {g : gG} {x y : Int64} (e : x = y) (k : G pc ls (.long y :: st) g) : G pc ls (.long x :: st) g := by rw [e]; exact k
theorem r_getE (h : gR own cc fr lo G) {pc : Nat} {ls st : List Value} {g : gG} {idx : Nat} {ci : Nat} {j : Nat} {kk : Nat} {fl : List (Option Nat)} {v : Int32} (hd : decode cc pc = .ok (.getfield idx, 3)) (hf : gfld own idx ci j) (hk : gshL[kk]? = some (.inl (ci, fl))) (hj : fl[j]? = some none) (hv : g kk j = v) (k : G (pc + 3) ls (.int v :: st) g) : G pc ls (.ref kk :: st) g := r_getI h hd hf hk hj (by rw [hv]; exact k)
theorem r_ialoadE (h : gR own cc fr lo G) {pc : Nat} {ls st : List Value} {g : gG} {kk : Nat} {n : Nat} {i v : Int32} (hd : decode cc pc = .ok (.iaload, 1)) (hk : gshL[kk]? = some (.inr (0, n))) (hi : vp_in i n ∧ g kk i.toNatClampNeg = v) (k : G (pc + 1) ls (.int v :: st) g) : G pc ls (.int i :: .ref kk :: st) g := r_iaload h hd hk hi.1 (by rw [hi.2]; exact k)
theorem r_caloadE (h : gR own cc fr lo G) {pc : Nat} {ls st : List Value} {g : gG} {kk : Nat} {n : Nat} {i v : Int32} (hd : decode cc pc = .ok (.caload, 1)) (hk : gshL[kk]? = some (.inr (1, n))) (hi : vp_in i n ∧ g kk i.toNatClampNeg = v) (k : G (pc + 1) ls (.int v :: st) g) : G pc ls (.int i :: .ref kk :: st) g := r_caload h hd hk hi.1 (by rw [hi.2]; exact k)
theorem r_tabldE (h : gR own cc fr lo G) {pc : Nat} {ls st : List Value} {g : gG} {q : Nat} {i v : Int32} (hd : decode cc pc = .ok (.iaload, 1)) (hq : 100 ≤ q ∧ q < 104) (hi : vp_in i 6 ∧ gtab q i.toNatClampNeg = v) (k : G (pc + 1) ls (.int v :: st) g) : G pc ls (.int i :: .ref q :: st) g := r_tabld h hd hq hi.1 (by rw [hi.2]; exact k)
def gCi (M : gM) (av : List Value) (g : gG) (Q : Int32 → gG → Prop) : Prop := gC M av g (fun r g1 => ∃ x, r = some (.int x) ∧ Q x g1)
def gCl (M : gM) (av : List Value) (g : gG) (Q : Int64 → gG → Prop) : Prop := gC M av g (fun r g1 => ∃ x, r = some (.long x) ∧ Q x g1)
def gCv (M : gM) (av : List Value) (g : gG) (Q : gG → Prop) : Prop := gC M av g (fun r g1 => r = none ∧ Q g1)

theorem r_callVi (h : gR own cc fr lo G) {pc : Nat} {ls st : List Value} {g : gG} {idx : Nat} {M : gM} {kk : Nat} {As st2 : List Value} {Q : Int32 → gG → Prop} (hd : decode cc pc = .ok (.invokevirtual idx, 3)) (hM : gclV own idx M As.length) (hk : gcls kk M.1.cls) (hs : As.reverse ++ .ref kk :: st = st2) (hr : M.2.2.2.2.1 + 1 ≤ fr ∧ 8 + (M.2.2.1 + 11) + M.2.2.2.2.2 ≤ lo ∧ (st.map fun v => v.category).sum ≤ 8) (hc : gCi M (.ref kk :: As) g Q) (k : ∀ (x : Int32) (g1 : gG), Q x g1 → G (pc + 3) ls (.int x :: st) g1) : G pc ls st2 g := r_callV h hd hM hk hs hr hc (fun r g1 hq => by obtain ⟨x, rfl, hq⟩ := hq; exact k x g1 hq)
theorem r_callVl (h : gR own cc fr lo G) {pc : Nat} {ls st : List Value} {g : gG} {idx : Nat} {M : gM} {kk : Nat} {As st2 : List Value} {Q : Int64 → gG → Prop} (hd : decode cc pc = .ok (.invokevirtual idx, 3)) (hM : gclV own idx M As.length) (hk : gcls kk M.1.cls) (hs : As.reverse ++ .ref kk :: st = st2) (hr : M.2.2.2.2.1 + 1 ≤ fr ∧ 8 + (M.2.2.1 + 11) + M.2.2.2.2.2 ≤ lo ∧ (st.map fun v => v.category).sum ≤ 8) (hc : gCl M (.ref kk :: As) g Q) (k : ∀ (x : Int64) (g1 : gG), Q x g1 → G (pc + 3) ls (.long x :: st) g1) : G pc ls st2 g := r_callV h hd hM hk hs hr hc (fun r g1 hq => by obtain ⟨x, rfl, hq⟩ := hq; exact k x g1 hq)
theorem r_callVv (h : gR own cc fr lo G) {pc : Nat} {ls st : List Value} {g : gG} {idx : Nat} {M : gM} {kk : Nat} {As st2 : List Value} {Q : gG → Prop} (hd : decode cc pc = .ok (.invokevirtual idx, 3)) (hM : gclV own idx M As.length) (hk : gcls kk M.1.cls) (hs : As.reverse ++ .ref kk :: st = st2) (hr : M.2.2.2.2.1 + 1 ≤ fr ∧ 8 + (M.2.2.1 + 11) + M.2.2.2.2.2 ≤ lo ∧ (st.map fun v => v.category).sum ≤ 8) (hc : gCv M (.ref kk :: As) g Q) (k : ∀ (g1 : gG), Q g1 → G (pc + 3) ls st g1) : G pc ls st2 g := r_callV h hd hM hk hs hr hc (fun r g1 hq => by obtain ⟨rfl, hq⟩ := hq; exact k g1 hq)
theorem r_callSi (h : gR own cc fr lo G) {pc : Nat} {ls st : List Value} {g : gG} {idx : Nat} {M : gM} {As st2 : List Value} {Q : Int32 → gG → Prop} (hd : decode cc pc = .ok (.invokestatic idx, 3)) (hM : gclS own idx M As.length) (hs : As.reverse ++ st = st2) (hr : M.2.2.2.2.1 + 1 ≤ fr ∧ 8 + (M.2.2.1 + 11) + M.2.2.2.2.2 ≤ lo ∧ (st.map fun v => v.category).sum ≤ 8) (hc : gCi M As g Q) (k : ∀ (x : Int32) (g1 : gG), Q x g1 → G (pc + 3) ls (.int x :: st) g1) : G pc ls st2 g := r_callS h hd hM hs hr hc (fun r g1 hq => by obtain ⟨x, rfl, hq⟩ := hq; exact k x g1 hq)
theorem r_callSl (h : gR own cc fr lo G) {pc : Nat} {ls st : List Value} {g : gG} {idx : Nat} {M : gM} {As st2 : List Value} {Q : Int64 → gG → Prop} (hd : decode cc pc = .ok (.invokestatic idx, 3)) (hM : gclS own idx M As.length) (hs : As.reverse ++ st = st2) (hr : M.2.2.2.2.1 + 1 ≤ fr ∧ 8 + (M.2.2.1 + 11) + M.2.2.2.2.2 ≤ lo ∧ (st.map fun v => v.category).sum ≤ 8) (hc : gCl M As g Q) (k : ∀ (x : Int64) (g1 : gG), Q x g1 → G (pc + 3) ls (.long x :: st) g1) : G pc ls st2 g := r_callS h hd hM hs hr hc (fun r g1 hq => by obtain ⟨x, rfl, hq⟩ := hq; exact k x g1 hq)
theorem r_callSv (h : gR own cc fr lo G) {pc : Nat} {ls st : List Value} {g : gG} {idx : Nat} {M : gM} {As st2 : List Value} {Q : gG → Prop} (hd : decode cc pc = .ok (.invokestatic idx, 3)) (hM : gclS own idx M As.length) (hs : As.reverse ++ st = st2) (hr : M.2.2.2.2.1 + 1 ≤ fr ∧ 8 + (M.2.2.1 + 11) + M.2.2.2.2.2 ≤ lo ∧ (st.map fun v => v.category).sum ≤ 8) (hc : gCv M As g Q) (k : ∀ (g1 : gG), Q g1 → G (pc + 3) ls st g1) : G pc ls st2 g := r_callS h hd hM hs hr hc (fun r g1 hq => by obtain ⟨rfl, hq⟩ := hq; exact k g1 hq)
end GU2
section GT2
variable {cc : ByteArray} {G : gJ} {pc : Nat} {ls : List Value} {g : gG} {Q : Option Value → gG → Prop}
def gTi (cc : ByteArray) (ty : FieldType) (Q : Int32 → gG → Prop) (G : gJ) : Prop := ∀ (pc : Nat) (ls : List Value) (g : gG) (x : Int32), decode cc pc = .ok (.ireturn, 1) → narrow ty (.int x) = .int x → Q x g → G pc ls [.int x] g
def gTl (cc : ByteArray) (Q : Int64 → gG → Prop) (G : gJ) : Prop := ∀ (pc : Nat) (ls : List Value) (g : gG) (x : Int64), decode cc pc = .ok (.lreturn, 1) → Q x g → G pc ls [.long x] g
def gTv (cc : ByteArray) (Q : gG → Prop) (G : gJ) : Prop := ∀ (pc : Nat) (ls : List Value) (g : gG), decode cc pc = .ok (.return_, 1) → Q g → G pc ls [] g
theorem r_ri {ty : FieldType} {Q : Int32 → gG → Prop} (t : gTi cc ty Q G) {x : Int32} (hd : decode cc pc = .ok (.ireturn, 1)) (hn : narrow ty (.int x) = .int x) (k : Q x g) : G pc ls [.int x] g := t pc ls g x hd hn k
theorem r_rl {Q : Int64 → gG → Prop} (t : gTl cc Q G) {x : Int64} (hd : decode cc pc = .ok (.lreturn, 1)) (k : Q x g) : G pc ls [.long x] g := t pc ls g x hd k
theorem r_rv {Q : gG → Prop} (t : gTv cc Q G) (hd : decode cc pc = .ok (.return_, 1)) (k : Q g) : G pc ls [] g := t pc ls g hd k
end GT2
theorem gCi_of {y : MethodName} {cc : ByteArray} {n fr lo : Nat} {ty : FieldType} {own : String} {av ls0 : List Value} {g : gG} {Q : Int32 → gG → Prop} (hy : y.cls = own ∧ plainName own = true) (hls : gent av n = ls0) (hn : (gargs av).length ≤ n) (body : ∀ G : gJ, gR own cc fr lo G → gTi cc ty Q G → G 0 ls0 [] g) : gCi (y, cc, n, some ty, fr, lo) av g Q := by
  obtain ⟨rfl, hy⟩ := hy
  exact gC_of hy hls hn (fun G h t => body G h (fun pc ls g x hd hnr k => r_iret t hd rfl hnr ⟨x, rfl, k⟩))
theorem gCl_of {y : MethodName} {cc : ByteArray} {n fr lo : Nat} {own : String} {av ls0 : List Value} {g : gG} {Q : Int64 → gG → Prop} (hy : y.cls = own ∧ plainName own = true) (hls : gent av n = ls0) (hn : (gargs av).length ≤ n) (body : ∀ G : gJ, gR own cc fr lo G → gTl cc Q G → G 0 ls0 [] g) : gCl (y, cc, n, some .long, fr, lo) av g Q := by
  obtain ⟨rfl, hy⟩ := hy
  exact gC_of hy hls hn (fun G h t => body G h (fun pc ls g x hd k => r_lret t hd rfl ⟨x, rfl, k⟩))
theorem gCv_of {y : MethodName} {cc : ByteArray} {n fr lo : Nat} {own : String} {av ls0 : List Value} {g : gG} {Q : gG → Prop} (hy : y.cls = own ∧ plainName own = true) (hls : gent av n = ls0) (hn : (gargs av).length ≤ n) (body : ∀ G : gJ, gR own cc fr lo G → gTv cc Q G → G 0 ls0 [] g) : gCv (y, cc, n, none, fr, lo) av g Q := by
  obtain ⟨rfl, hy⟩ := hy
  exact gC_of hy hls hn (fun G h t => body G h (fun pc ls g hd k => r_vret t hd rfl ⟨rfl, k⟩))
theorem ic1 (i : Nat) : nI i + Int32.ofInt 1 = nI (i + 1) := nI_1 i
theorem icm (i : Nat) : nI (i + 1) + Int32.ofInt (-1) = nI i := pk_m1 i
def bI (b : Bool) : Int32 := if b then nI 1 else nI 0
theorem bI_nar (b : Bool) : narrow .boolean (.int (bI b)) = .int (bI b) := by cases b <;> decide
theorem bI_0 (b : Bool) : bI b = 0 ↔ b = false := by cases b <;> decide
theorem bI_t : bI true = nI 1 := rfl
theorem bI_f : bI false = nI 0 := rfl
theorem pl_X0 : plainName RX0 = true := by decide +kernel
theorem pl_X1 : plainName RX1 = true := by decide +kernel
theorem pl_X2 : plainName RX2 = true := by decide +kernel
theorem pl_X3 : plainName RX3 = true := by decide +kernel
theorem pl_X4 : plainName RX4 = true := by decide +kernel
theorem pl_J0 : plainName RJ0 = true := by decide +kernel
theorem pl_J1 : plainName RJ1 = true := by decide +kernel
theorem cb_m9 : (Int8.ofInt (-9)).toInt32 = (-9) := by decide
theorem cb_m6 : (Int8.ofInt (-6)).toInt32 = (-6) := by decide
theorem cb_m4 : (Int8.ofInt (-4)).toInt32 = (-4) := by decide
theorem cb_m3 : (Int8.ofInt (-3)).toInt32 = (-3) := by decide
theorem cb_m2 : (Int8.ofInt (-2)).toInt32 = (-2) := by decide
theorem cb_6 : (Int8.ofInt 6).toInt32 = nI 6 := by decide
theorem cb_7 : (Int8.ofInt 7).toInt32 = nI 7 := by decide
theorem cb_8 : (Int8.ofInt 8).toInt32 = nI 8 := by decide
theorem cb_9 : (Int8.ofInt 9).toInt32 = nI 9 := by decide
theorem cb_10 : (Int8.ofInt 10).toInt32 = nI 10 := by decide
theorem cb_11 : (Int8.ofInt 11).toInt32 = nI 11 := by decide
theorem cb_15 : (Int8.ofInt 15).toInt32 = nI 15 := by decide
theorem cb_16 : (Int8.ofInt 16).toInt32 = nI 16 := by decide
theorem cb_20 : (Int8.ofInt 20).toInt32 = nI 20 := by decide
theorem cb_21 : (Int8.ofInt 21).toInt32 = nI 21 := by decide
theorem cb_30 : (Int8.ofInt 30).toInt32 = nI 30 := by decide
theorem cb_31 : (Int8.ofInt 31).toInt32 = nI 31 := by decide
theorem cb_42 : (Int8.ofInt 42).toInt32 = nI 42 := by decide
theorem cb_48 : (Int8.ofInt 48).toInt32 = nI 48 := by decide
theorem cb_50 : (Int8.ofInt 50).toInt32 = nI 50 := by decide
theorem cb_57 : (Int8.ofInt 57).toInt32 = nI 57 := by decide
theorem cb_59 : (Int8.ofInt 59).toInt32 = nI 59 := by decide
theorem cb_60 : (Int8.ofInt 60).toInt32 = nI 60 := by decide
theorem cb_61 : (Int8.ofInt 61).toInt32 = nI 61 := by decide
theorem cb_63 : (Int8.ofInt 63).toInt32 = nI 63 := by decide
theorem cb_64 : (Int8.ofInt 64).toInt32 = nI 64 := by decide
theorem cb_68 : (Int8.ofInt 68).toInt32 = nI 68 := by decide
theorem cb_69 : (Int8.ofInt 69).toInt32 = nI 69 := by decide
theorem cb_96 : (Int8.ofInt 96).toInt32 = nI 96 := by decide
theorem cb_98 : (Int8.ofInt 98).toInt32 = nI 98 := by decide
theorem cb_99 : (Int8.ofInt 99).toInt32 = nI 99 := by decide
theorem cb_100 : (Int8.ofInt 100).toInt32 = nI 100 := by decide
theorem cb_102 : (Int8.ofInt 102).toInt32 = nI 102 := by decide
theorem cb_103 : (Int8.ofInt 103).toInt32 = nI 103 := by decide
theorem cb_109 : (Int8.ofInt 109).toInt32 = nI 109 := by decide
theorem cb_111 : (Int8.ofInt 111).toInt32 = nI 111 := by decide
theorem cb_112 : (Int8.ofInt 112).toInt32 = nI 112 := by decide
theorem cb_114 : (Int8.ofInt 114).toInt32 = nI 114 := by decide
theorem cb_115 : (Int8.ofInt 115).toInt32 = nI 115 := by decide
theorem cb_119 : (Int8.ofInt 119).toInt32 = nI 119 := by decide
theorem cb_126 : (Int8.ofInt 126).toInt32 = nI 126 := by decide
theorem ci_m1 : Int32.ofInt (-1) = (-1) := by decide
theorem ci_0 : Int32.ofInt 0 = nI 0 := by decide
theorem ci_1 : Int32.ofInt 1 = nI 1 := by decide
theorem ci_2 : Int32.ofInt 2 = nI 2 := by decide
theorem ci_3 : Int32.ofInt 3 = nI 3 := by decide
theorem ci_4 : Int32.ofInt 4 = nI 4 := by decide
theorem ci_5 : Int32.ofInt 5 = nI 5 := by decide
theorem cs_m2000 : (Int16.ofInt (-2000)).toInt32 = (-2000) := by decide
theorem cs_m1000 : (Int16.ofInt (-1000)).toInt32 = (-1000) := by decide
theorem cs_200 : (Int16.ofInt 200).toInt32 = nI 200 := by decide
theorem cs_255 : (Int16.ofInt 255).toInt32 = nI 255 := by decide
theorem cs_256 : (Int16.ofInt 256).toInt32 = nI 256 := by decide
theorem cs_384 : (Int16.ofInt 384).toInt32 = nI 384 := by decide
theorem cs_999 : (Int16.ofInt 999).toInt32 = nI 999 := by decide
theorem cs_9999 : (Int16.ofInt 9999).toInt32 = nI 9999 := by decide
end
section
/-! ===== numbers ===== -/
def zI (z : Int) : Int32 := Int32.ofInt z
theorem nI_z (n : Nat) : nI n = zI n := Int32.ofInt_eq_ofNat.symm
theorem zI_add (a b : Int) : zI a + zI b = zI (a + b) := (Int32.ofInt_add a b).symm
theorem zI_sub (a b : Int) : zI a - zI b = zI (a - b) := (Int32.ofInt_sub a b).symm
theorem zI_mul (a b : Int) : zI a * zI b = zI (a * b) := (Int32.ofInt_mul a b).symm
theorem zI_toInt {z : Int} (h1 : -2147483648 ≤ z) (h2 : z < 2147483648) : (zI z).toInt = z := Int32.toInt_ofInt_of_le h1 h2
theorem zI_le {a b : Int} (h1 : -2147483648 ≤ a ∧ a < 2147483648) (h2 : -2147483648 ≤ b ∧ b < 2147483648) : zI a ≤ zI b ↔ a ≤ b := by
  rw [Int32.le_iff_toInt_le, zI_toInt h1.1 h1.2, zI_toInt h2.1 h2.2]
theorem zI_lt {a b : Int} (h1 : -2147483648 ≤ a ∧ a < 2147483648) (h2 : -2147483648 ≤ b ∧ b < 2147483648) : zI a < zI b ↔ a < b := by
  rw [Int32.lt_iff_toInt_lt, zI_toInt h1.1 h1.2, zI_toInt h2.1 h2.2]
theorem zI_eq {a b : Int} (h1 : -2147483648 ≤ a ∧ a < 2147483648) (h2 : -2147483648 ≤ b ∧ b < 2147483648) : zI a = zI b ↔ a = b := by
  rw [← Int32.toInt_inj, zI_toInt h1.1 h1.2, zI_toInt h2.1 h2.2]
theorem nI_eq0 {a : Nat} (h : a < 2147483648) : nI a = 0 ↔ a = 0 := by rw [← nI_0]; exact nI_eq h (by decide)
theorem nI_sub {a b : Nat} (h : b ≤ a) : nI a - nI b = nI (a - b) := pk_sub h
def cap (a b : Nat) : Nat := if a ≤ b then a else b
theorem cap_le (a b : Nat) : cap a b ≤ b := by unfold cap; split <;> omega
/-- min with a bound, max with 0 -/
theorem nI_cap {a b : Nat} (ha : a < 2147483648) (hb : b < 2147483648) : (if nI b < nI a then nI b else nI a) = nI (cap a b) := by
  unfold cap
  by_cases h : b < a
  · rw [if_pos (nI_lt h ha), if_neg (by omega)]
  · rw [if_neg (fun q => h ((nI_ltI hb ha).mp q)), if_pos (by omega)]
theorem nI_low {a b : Nat} (ha : a < 1073741824) (hb : b < 1073741824) : (if nI a - nI b < nI 0 then nI 0 else nI a - nI b) = nI (a - b) := by
  by_cases h : a < b
  · rw [if_pos, show a - b = 0 by omega]
    rw [nI_0]; exact pk_sneg hb h
  · rw [nI_sub (by omega), if_neg]
    exact nI_nlt (by omega) (by omega)
/-! ===== loops ===== -/
/-- the first of n places from i on -/
def gfind (p : Nat → Bool) : Nat → Nat → Option Nat
  | 0, _ => none
  | n + 1, i => if p i then some i else gfind p n (i + 1)
/-- what n steps from i on make of a value -/
def gfold {σ : Type} (F : Nat → σ → σ) : Nat → Nat → σ → σ
  | 0, _, s => s
  | n + 1, i, s => gfold F n (i + 1) (F i s)
def oI (o : Option Nat) : Int32 := match o with
  | none => -9
  | some i => nI i
theorem gfind_some {p : Nat → Bool} : ∀ {n i k : Nat}, gfind p n i = some k → i ≤ k ∧ k < i + n ∧ p k = true
  | 0, _, _, h => by cases h
  | n + 1, i, k, h => by
    unfold gfind at h
    split at h
    · cases h; rename_i hp; exact ⟨by omega, by omega, hp⟩
    · have := gfind_some h; exact ⟨by omega, by omega, this.2.2⟩
theorem gfind_none {p : Nat → Bool} : ∀ {n i : Nat}, gfind p n i = none → ∀ k, i ≤ k → k < i + n → p k = false
  | 0, _, _ => fun k h1 h2 => by omega
  | n + 1, i, h => by
    unfold gfind at h
    split at h
    · cases h
    · rename_i hp
      intro k h1 h2
      by_cases e : k = i
      · subst e; simpa using hp
      · exact gfind_none h k (by omega) (by omega)
/-! ===== the city: kinds, figures, rust by suits; fear, sore, said, worn (0 none) by callers; how many suits, callers, paid, day ===== -/
abbrev gCt : Type := Nat → Nat → Nat
def cup (c : gCt) (k i v : Nat) : gCt := fun a b => if a = k ∧ b = i then v else c a b
def wz (n : Nat) : Int32 := if n = 0 then -9 else nI (n - 1)
theorem wz_0 : wz 0 = -9 := rfl
theorem wz_s (n : Nat) : wz (n + 1) = nI n := by simp [wz]
theorem wz_none {n : Nat} (h : n < 2147483648) : wz n = -9 ↔ n = 0 := by
  unfold wz
  by_cases e : n = 0
  · simp [e]
  · rw [if_neg e, nI_z, show (-9 : Int32) = zI (-9) by decide, zI_eq (by omega) (by omega)]
    omega
theorem wz_eq {n s : Nat} (h : n < 2147483648) (hs : s < 2147483648) : wz n = nI s ↔ n = s + 1 := by
  unfold wz
  by_cases e : n = 0
  · simp only [e, if_true]
    rw [nI_z, show (-9 : Int32) = zI (-9) by decide, zI_eq (by omega) (by omega)]
    omega
  · rw [if_neg e, nI_eq (by omega) hs]
    omega
/-- the city's numbers are in range -/
def gok (c : gCt) : Prop := c 7 2 ≤ 9999 ∧ c 7 3 ≤ 2000 ∧ (∀ i, i < c 7 0 → c 0 i < 6 ∧ c 1 i ≤ 9 ∧ c 2 i ≤ 9) ∧ ∀ i, i < c 7 1 → c 3 i ≤ 20 ∧ c 4 i ≤ 20 ∧ c 5 i ≤ 6 ∧ c 6 i ≤ c 7 0
/-- all cells but lo .. hi are as they were -/
def frm (lo hi : Nat) (g g1 : gG) : Prop := ∀ k, k < lo ∨ hi ≤ k → g1 k = g k
theorem frm.rf {lo hi : Nat} {g : gG} : frm lo hi g g := fun _ _ => rfl
theorem frm.up {lo hi : Nat} {g g1 : gG} (h : frm lo hi g g1) {k j : Nat} {x : Int32} (hk : lo ≤ k ∧ k < hi) : frm lo hi g (gup g1 k j x) := fun a ha => by
  rw [gup_ne (by omega)]
  exact h a ha
theorem frm.tr {lo hi : Nat} {g g1 g2 : gG} (h : frm lo hi g g1) (h2 : frm lo hi g1 g2) : frm lo hi g g2 := fun a ha => (h2 a ha).trans (h a ha)
theorem frm.wide {lo hi lo2 hi2 : Nat} {g g1 : gG} (h : frm lo hi g g1) (h1 : lo2 ≤ lo) (h2 : hi ≤ hi2) : frm lo2 hi2 g g1 := fun a ha => h a (by omega)
def Rx1 (g : gG) (c : gCt) : Prop := (g 1 7 = nI (c 7 0) ∧ g 1 8 = nI (c 7 1) ∧ g 1 9 = nI (c 7 2) ∧ g 1 10 = nI (c 7 3)) ∧ (c 7 0 ≤ 6 ∧ c 7 1 ≤ 5) ∧ (∀ i, i < c 7 0 → g 2 i = nI (c 0 i) ∧ g 3 i = nI (c 1 i) ∧ g 4 i = nI (c 2 i)) ∧ ∀ i, i < c 7 1 → g 5 i = nI (c 3 i) ∧ g 6 i = nI (c 4 i) ∧ g 7 i = nI (c 5 i) ∧ g 8 i = wz (c 6 i)
section
variable {g : gG} {c : gCt} {i : Nat}
theorem Rx1.ns (h : Rx1 g c) : g 1 7 = nI (c 7 0) := h.1.1
theorem Rx1.nc (h : Rx1 g c) : g 1 8 = nI (c 7 1) := h.1.2.1
theorem Rx1.pd (h : Rx1 g c) : g 1 9 = nI (c 7 2) := h.1.2.2.1
theorem Rx1.dy (h : Rx1 g c) : g 1 10 = nI (c 7 3) := h.1.2.2.2
theorem Rx1.n6 (h : Rx1 g c) : c 7 0 ≤ 6 := h.2.1.1
theorem Rx1.n5 (h : Rx1 g c) : c 7 1 ≤ 5 := h.2.1.2
theorem Rx1.si (h : Rx1 g c) (hi : i < c 7 0) : vp_in (nI i) 6 := vp_in_nI (by have := h.n6; omega) (by decide)
theorem Rx1.ci (h : Rx1 g c) (hi : i < c 7 1) : vp_in (nI i) 5 := vp_in_nI (by have := h.n5; omega) (by decide)
theorem Rx1.kd (h : Rx1 g c) (hi : i < c 7 0) : vp_in (nI i) 6 ∧ g 2 (nI i).toNatClampNeg = nI (c 0 i) := ⟨h.si hi, by rw [nI_clamp (by have := h.n6; omega)]; exact (h.2.2.1 i hi).1⟩
theorem Rx1.fg (h : Rx1 g c) (hi : i < c 7 0) : vp_in (nI i) 6 ∧ g 3 (nI i).toNatClampNeg = nI (c 1 i) := ⟨h.si hi, by rw [nI_clamp (by have := h.n6; omega)]; exact (h.2.2.1 i hi).2.1⟩
theorem Rx1.ru (h : Rx1 g c) (hi : i < c 7 0) : vp_in (nI i) 6 ∧ g 4 (nI i).toNatClampNeg = nI (c 2 i) := ⟨h.si hi, by rw [nI_clamp (by have := h.n6; omega)]; exact (h.2.2.1 i hi).2.2⟩
theorem Rx1.fe (h : Rx1 g c) (hi : i < c 7 1) : vp_in (nI i) 5 ∧ g 5 (nI i).toNatClampNeg = nI (c 3 i) := ⟨h.ci hi, by rw [nI_clamp (by have := h.n5; omega)]; exact (h.2.2.2 i hi).1⟩
theorem Rx1.so (h : Rx1 g c) (hi : i < c 7 1) : vp_in (nI i) 5 ∧ g 6 (nI i).toNatClampNeg = nI (c 4 i) := ⟨h.ci hi, by rw [nI_clamp (by have := h.n5; omega)]; exact (h.2.2.2 i hi).2.1⟩
theorem Rx1.sa (h : Rx1 g c) (hi : i < c 7 1) : vp_in (nI i) 5 ∧ g 7 (nI i).toNatClampNeg = nI (c 5 i) := ⟨h.ci hi, by rw [nI_clamp (by have := h.n5; omega)]; exact (h.2.2.2 i hi).2.2.1⟩
theorem Rx1.wo (h : Rx1 g c) (hi : i < c 7 1) : vp_in (nI i) 5 ∧ g 8 (nI i).toNatClampNeg = wz (c 6 i) := ⟨h.ci hi, by rw [nI_clamp (by have := h.n5; omega)]; exact (h.2.2.2 i hi).2.2.2⟩
theorem Rx1.u_kd (h : Rx1 g c) (hi : i < c 7 0) (v : Nat) : Rx1 (gup g 2 (nI i).toNatClampNeg (nI v)) (cup c 0 i v) := by
  rw [nI_clamp (by have := h.n6; omega)]
  obtain ⟨⟨h1, h2, h3, h4⟩, h5, h6, h7⟩ := h
  refine ⟨⟨by simp [gup, cup, h1], by simp [gup, cup, h2], by simp [gup, cup, h3], by simp [gup, cup, h4]⟩, by simpa [cup] using h5, fun j hj => ?_, fun j hj => ?_⟩
  · obtain ⟨a, b, d⟩ := h6 j (by simpa [cup] using hj)
    by_cases e : j = i
    · subst e; simp [gup, cup, a, b, d]
    · simp [gup, cup, a, b, d, e]
  · obtain ⟨a, b, d, f⟩ := h7 j (by simpa [cup] using hj)
    by_cases e : j = i
    · subst e; simp [gup, cup, a, b, d, f]
    · simp [gup, cup, a, b, d, f, e]
theorem Rx1.u_fg (h : Rx1 g c) (hi : i < c 7 0) (v : Nat) : Rx1 (gup g 3 (nI i).toNatClampNeg (nI v)) (cup c 1 i v) := by
  rw [nI_clamp (by have := h.n6; omega)]
  obtain ⟨⟨h1, h2, h3, h4⟩, h5, h6, h7⟩ := h
  refine ⟨⟨by simp [gup, cup, h1], by simp [gup, cup, h2], by simp [gup, cup, h3], by simp [gup, cup, h4]⟩, by simpa [cup] using h5, fun j hj => ?_, fun j hj => ?_⟩
  · obtain ⟨a, b, d⟩ := h6 j (by simpa [cup] using hj)
    by_cases e : j = i
    · subst e; simp [gup, cup, a, b, d]
    · simp [gup, cup, a, b, d, e]
  · obtain ⟨a, b, d, f⟩ := h7 j (by simpa [cup] using hj)
    by_cases e : j = i
    · subst e; simp [gup, cup, a, b, d, f]
    · simp [gup, cup, a, b, d, f, e]
theorem Rx1.u_ru (h : Rx1 g c) (hi : i < c 7 0) (v : Nat) : Rx1 (gup g 4 (nI i).toNatClampNeg (nI v)) (cup c 2 i v) := by
  rw [nI_clamp (by have := h.n6; omega)]
  obtain ⟨⟨h1, h2, h3, h4⟩, h5, h6, h7⟩ := h
  refine ⟨⟨by simp [gup, cup, h1], by simp [gup, cup, h2], by simp [gup, cup, h3], by simp [gup, cup, h4]⟩, by simpa [cup] using h5, fun j hj => ?_, fun j hj => ?_⟩
  · obtain ⟨a, b, d⟩ := h6 j (by simpa [cup] using hj)
    by_cases e : j = i
    · subst e; simp [gup, cup, a, b, d]
    · simp [gup, cup, a, b, d, e]
  · obtain ⟨a, b, d, f⟩ := h7 j (by simpa [cup] using hj)
    by_cases e : j = i
    · subst e; simp [gup, cup, a, b, d, f]
    · simp [gup, cup, a, b, d, f, e]
theorem Rx1.u_fe (h : Rx1 g c) (hi : i < c 7 1) (v : Nat) : Rx1 (gup g 5 (nI i).toNatClampNeg (nI v)) (cup c 3 i v) := by
  rw [nI_clamp (by have := h.n5; omega)]
  obtain ⟨⟨h1, h2, h3, h4⟩, h5, h6, h7⟩ := h
  refine ⟨⟨by simp [gup, cup, h1], by simp [gup, cup, h2], by simp [gup, cup, h3], by simp [gup, cup, h4]⟩, by simpa [cup] using h5, fun j hj => ?_, fun j hj => ?_⟩
  · obtain ⟨a, b, d⟩ := h6 j (by simpa [cup] using hj)
    by_cases e : j = i
    · subst e; simp [gup, cup, a, b, d]
    · simp [gup, cup, a, b, d, e]
  · obtain ⟨a, b, d, f⟩ := h7 j (by simpa [cup] using hj)
    by_cases e : j = i
    · subst e; simp [gup, cup, a, b, d, f]
    · simp [gup, cup, a, b, d, f, e]
theorem Rx1.u_so (h : Rx1 g c) (hi : i < c 7 1) (v : Nat) : Rx1 (gup g 6 (nI i).toNatClampNeg (nI v)) (cup c 4 i v) := by
  rw [nI_clamp (by have := h.n5; omega)]
  obtain ⟨⟨h1, h2, h3, h4⟩, h5, h6, h7⟩ := h
  refine ⟨⟨by simp [gup, cup, h1], by simp [gup, cup, h2], by simp [gup, cup, h3], by simp [gup, cup, h4]⟩, by simpa [cup] using h5, fun j hj => ?_, fun j hj => ?_⟩
  · obtain ⟨a, b, d⟩ := h6 j (by simpa [cup] using hj)
    by_cases e : j = i
    · subst e; simp [gup, cup, a, b, d]
    · simp [gup, cup, a, b, d, e]
  · obtain ⟨a, b, d, f⟩ := h7 j (by simpa [cup] using hj)
    by_cases e : j = i
    · subst e; simp [gup, cup, a, b, d, f]
    · simp [gup, cup, a, b, d, f, e]
theorem Rx1.u_sa (h : Rx1 g c) (hi : i < c 7 1) (v : Nat) : Rx1 (gup g 7 (nI i).toNatClampNeg (nI v)) (cup c 5 i v) := by
  rw [nI_clamp (by have := h.n5; omega)]
  obtain ⟨⟨h1, h2, h3, h4⟩, h5, h6, h7⟩ := h
  refine ⟨⟨by simp [gup, cup, h1], by simp [gup, cup, h2], by simp [gup, cup, h3], by simp [gup, cup, h4]⟩, by simpa [cup] using h5, fun j hj => ?_, fun j hj => ?_⟩
  · obtain ⟨a, b, d⟩ := h6 j (by simpa [cup] using hj)
    by_cases e : j = i
    · subst e; simp [gup, cup, a, b, d]
    · simp [gup, cup, a, b, d, e]
  · obtain ⟨a, b, d, f⟩ := h7 j (by simpa [cup] using hj)
    by_cases e : j = i
    · subst e; simp [gup, cup, a, b, d, f]
    · simp [gup, cup, a, b, d, f, e]
theorem Rx1.u_wo (h : Rx1 g c) (hi : i < c 7 1) (v : Nat) : Rx1 (gup g 8 (nI i).toNatClampNeg (wz v)) (cup c 6 i v) := by
  rw [nI_clamp (by have := h.n5; omega)]
  obtain ⟨⟨h1, h2, h3, h4⟩, h5, h6, h7⟩ := h
  refine ⟨⟨by simp [gup, cup, h1], by simp [gup, cup, h2], by simp [gup, cup, h3], by simp [gup, cup, h4]⟩, by simpa [cup] using h5, fun j hj => ?_, fun j hj => ?_⟩
  · obtain ⟨a, b, d⟩ := h6 j (by simpa [cup] using hj)
    by_cases e : j = i
    · subst e; simp [gup, cup, a, b, d]
    · simp [gup, cup, a, b, d, e]
  · obtain ⟨a, b, d, f⟩ := h7 j (by simpa [cup] using hj)
    by_cases e : j = i
    · subst e; simp [gup, cup, a, b, d, f]
    · simp [gup, cup, a, b, d, f, e]
theorem Rx1.u_pd (h : Rx1 g c) (v : Nat) : Rx1 (gup g 1 9 (nI v)) (cup c 7 2 v) := by
  obtain ⟨⟨h1, h2, h3, h4⟩, h5, h6, h7⟩ := h
  refine ⟨⟨by simp [gup, cup, h1], by simp [gup, cup, h2], by simp [gup, cup, h3], by simp [gup, cup, h4]⟩, by simpa [cup] using h5, fun j hj => ?_, fun j hj => ?_⟩
  · obtain ⟨a, b, d⟩ := h6 j (by simpa [cup] using hj)
    simp [gup, cup, a, b, d]
  · obtain ⟨a, b, d, f⟩ := h7 j (by simpa [cup] using hj)
    simp [gup, cup, a, b, d, f]
theorem Rx1.u_dy (h : Rx1 g c) (v : Nat) : Rx1 (gup g 1 10 (nI v)) (cup c 7 3 v) := by
  obtain ⟨⟨h1, h2, h3, h4⟩, h5, h6, h7⟩ := h
  refine ⟨⟨by simp [gup, cup, h1], by simp [gup, cup, h2], by simp [gup, cup, h3], by simp [gup, cup, h4]⟩, by simpa [cup] using h5, fun j hj => ?_, fun j hj => ?_⟩
  · obtain ⟨a, b, d⟩ := h6 j (by simpa [cup] using hj)
    simp [gup, cup, a, b, d]
  · obtain ⟨a, b, d, f⟩ := h7 j (by simpa [cup] using hj)
    simp [gup, cup, a, b, d, f]
theorem Rx1.fr (h : Rx1 g c) {g1 : gG} (h0 : g1 1 7 = g 1 7 ∧ g1 1 8 = g 1 8 ∧ g1 1 9 = g 1 9 ∧ g1 1 10 = g 1 10) (ha : ∀ k, 2 ≤ k → k ≤ 8 → g1 k = g k) : Rx1 g1 c := by
  obtain ⟨⟨h1, h2, h3, h4⟩, h5, h6, h7⟩ := h
  refine ⟨⟨h0.1.trans h1, h0.2.1.trans h2, h0.2.2.1.trans h3, h0.2.2.2.trans h4⟩, h5, fun j hj => ?_, fun j hj => ?_⟩
  · rw [ha 2 (by decide) (by decide), ha 3 (by decide) (by decide), ha 4 (by decide) (by decide)]; exact h6 j hj
  · rw [ha 5 (by decide) (by decide), ha 6 (by decide) (by decide), ha 7 (by decide) (by decide), ha 8 (by decide) (by decide)]; exact h7 j hj
end
def Rx9 (g : gG) (c : gCt) : Prop := (g 9 7 = nI (c 7 0) ∧ g 9 8 = nI (c 7 1) ∧ g 9 9 = nI (c 7 2) ∧ g 9 10 = nI (c 7 3)) ∧ (c 7 0 ≤ 6 ∧ c 7 1 ≤ 5) ∧ (∀ i, i < c 7 0 → g 10 i = nI (c 0 i) ∧ g 11 i = nI (c 1 i) ∧ g 12 i = nI (c 2 i)) ∧ ∀ i, i < c 7 1 → g 13 i = nI (c 3 i) ∧ g 14 i = nI (c 4 i) ∧ g 15 i = nI (c 5 i) ∧ g 16 i = wz (c 6 i)
section
variable {g : gG} {c : gCt} {i : Nat}
theorem Rx9.ns (h : Rx9 g c) : g 9 7 = nI (c 7 0) := h.1.1
theorem Rx9.nc (h : Rx9 g c) : g 9 8 = nI (c 7 1) := h.1.2.1
theorem Rx9.pd (h : Rx9 g c) : g 9 9 = nI (c 7 2) := h.1.2.2.1
theorem Rx9.dy (h : Rx9 g c) : g 9 10 = nI (c 7 3) := h.1.2.2.2
theorem Rx9.n6 (h : Rx9 g c) : c 7 0 ≤ 6 := h.2.1.1
theorem Rx9.n5 (h : Rx9 g c) : c 7 1 ≤ 5 := h.2.1.2
theorem Rx9.si (h : Rx9 g c) (hi : i < c 7 0) : vp_in (nI i) 6 := vp_in_nI (by have := h.n6; omega) (by decide)
theorem Rx9.ci (h : Rx9 g c) (hi : i < c 7 1) : vp_in (nI i) 5 := vp_in_nI (by have := h.n5; omega) (by decide)
theorem Rx9.kd (h : Rx9 g c) (hi : i < c 7 0) : vp_in (nI i) 6 ∧ g 10 (nI i).toNatClampNeg = nI (c 0 i) := ⟨h.si hi, by rw [nI_clamp (by have := h.n6; omega)]; exact (h.2.2.1 i hi).1⟩
theorem Rx9.fg (h : Rx9 g c) (hi : i < c 7 0) : vp_in (nI i) 6 ∧ g 11 (nI i).toNatClampNeg = nI (c 1 i) := ⟨h.si hi, by rw [nI_clamp (by have := h.n6; omega)]; exact (h.2.2.1 i hi).2.1⟩
theorem Rx9.ru (h : Rx9 g c) (hi : i < c 7 0) : vp_in (nI i) 6 ∧ g 12 (nI i).toNatClampNeg = nI (c 2 i) := ⟨h.si hi, by rw [nI_clamp (by have := h.n6; omega)]; exact (h.2.2.1 i hi).2.2⟩
theorem Rx9.fe (h : Rx9 g c) (hi : i < c 7 1) : vp_in (nI i) 5 ∧ g 13 (nI i).toNatClampNeg = nI (c 3 i) := ⟨h.ci hi, by rw [nI_clamp (by have := h.n5; omega)]; exact (h.2.2.2 i hi).1⟩
theorem Rx9.so (h : Rx9 g c) (hi : i < c 7 1) : vp_in (nI i) 5 ∧ g 14 (nI i).toNatClampNeg = nI (c 4 i) := ⟨h.ci hi, by rw [nI_clamp (by have := h.n5; omega)]; exact (h.2.2.2 i hi).2.1⟩
theorem Rx9.sa (h : Rx9 g c) (hi : i < c 7 1) : vp_in (nI i) 5 ∧ g 15 (nI i).toNatClampNeg = nI (c 5 i) := ⟨h.ci hi, by rw [nI_clamp (by have := h.n5; omega)]; exact (h.2.2.2 i hi).2.2.1⟩
theorem Rx9.wo (h : Rx9 g c) (hi : i < c 7 1) : vp_in (nI i) 5 ∧ g 16 (nI i).toNatClampNeg = wz (c 6 i) := ⟨h.ci hi, by rw [nI_clamp (by have := h.n5; omega)]; exact (h.2.2.2 i hi).2.2.2⟩
theorem Rx9.u_kd (h : Rx9 g c) (hi : i < c 7 0) (v : Nat) : Rx9 (gup g 10 (nI i).toNatClampNeg (nI v)) (cup c 0 i v) := by
  rw [nI_clamp (by have := h.n6; omega)]
  obtain ⟨⟨h1, h2, h3, h4⟩, h5, h6, h7⟩ := h
  refine ⟨⟨by simp [gup, cup, h1], by simp [gup, cup, h2], by simp [gup, cup, h3], by simp [gup, cup, h4]⟩, by simpa [cup] using h5, fun j hj => ?_, fun j hj => ?_⟩
  · obtain ⟨a, b, d⟩ := h6 j (by simpa [cup] using hj)
    by_cases e : j = i
    · subst e; simp [gup, cup, a, b, d]
    · simp [gup, cup, a, b, d, e]
  · obtain ⟨a, b, d, f⟩ := h7 j (by simpa [cup] using hj)
    by_cases e : j = i
    · subst e; simp [gup, cup, a, b, d, f]
    · simp [gup, cup, a, b, d, f, e]
theorem Rx9.u_fg (h : Rx9 g c) (hi : i < c 7 0) (v : Nat) : Rx9 (gup g 11 (nI i).toNatClampNeg (nI v)) (cup c 1 i v) := by
  rw [nI_clamp (by have := h.n6; omega)]
  obtain ⟨⟨h1, h2, h3, h4⟩, h5, h6, h7⟩ := h
  refine ⟨⟨by simp [gup, cup, h1], by simp [gup, cup, h2], by simp [gup, cup, h3], by simp [gup, cup, h4]⟩, by simpa [cup] using h5, fun j hj => ?_, fun j hj => ?_⟩
  · obtain ⟨a, b, d⟩ := h6 j (by simpa [cup] using hj)
    by_cases e : j = i
    · subst e; simp [gup, cup, a, b, d]
    · simp [gup, cup, a, b, d, e]
  · obtain ⟨a, b, d, f⟩ := h7 j (by simpa [cup] using hj)
    by_cases e : j = i
    · subst e; simp [gup, cup, a, b, d, f]
    · simp [gup, cup, a, b, d, f, e]
theorem Rx9.u_ru (h : Rx9 g c) (hi : i < c 7 0) (v : Nat) : Rx9 (gup g 12 (nI i).toNatClampNeg (nI v)) (cup c 2 i v) := by
  rw [nI_clamp (by have := h.n6; omega)]
  obtain ⟨⟨h1, h2, h3, h4⟩, h5, h6, h7⟩ := h
  refine ⟨⟨by simp [gup, cup, h1], by simp [gup, cup, h2], by simp [gup, cup, h3], by simp [gup, cup, h4]⟩, by simpa [cup] using h5, fun j hj => ?_, fun j hj => ?_⟩
  · obtain ⟨a, b, d⟩ := h6 j (by simpa [cup] using hj)
    by_cases e : j = i
    · subst e; simp [gup, cup, a, b, d]
    · simp [gup, cup, a, b, d, e]
  · obtain ⟨a, b, d, f⟩ := h7 j (by simpa [cup] using hj)
    by_cases e : j = i
    · subst e; simp [gup, cup, a, b, d, f]
    · simp [gup, cup, a, b, d, f, e]
theorem Rx9.u_fe (h : Rx9 g c) (hi : i < c 7 1) (v : Nat) : Rx9 (gup g 13 (nI i).toNatClampNeg (nI v)) (cup c 3 i v) := by
  rw [nI_clamp (by have := h.n5; omega)]
  obtain ⟨⟨h1, h2, h3, h4⟩, h5, h6, h7⟩ := h
  refine ⟨⟨by simp [gup, cup, h1], by simp [gup, cup, h2], by simp [gup, cup, h3], by simp [gup, cup, h4]⟩, by simpa [cup] using h5, fun j hj => ?_, fun j hj => ?_⟩
  · obtain ⟨a, b, d⟩ := h6 j (by simpa [cup] using hj)
    by_cases e : j = i
    · subst e; simp [gup, cup, a, b, d]
    · simp [gup, cup, a, b, d, e]
  · obtain ⟨a, b, d, f⟩ := h7 j (by simpa [cup] using hj)
    by_cases e : j = i
    · subst e; simp [gup, cup, a, b, d, f]
    · simp [gup, cup, a, b, d, f, e]
theorem Rx9.u_so (h : Rx9 g c) (hi : i < c 7 1) (v : Nat) : Rx9 (gup g 14 (nI i).toNatClampNeg (nI v)) (cup c 4 i v) := by
  rw [nI_clamp (by have := h.n5; omega)]
  obtain ⟨⟨h1, h2, h3, h4⟩, h5, h6, h7⟩ := h
  refine ⟨⟨by simp [gup, cup, h1], by simp [gup, cup, h2], by simp [gup, cup, h3], by simp [gup, cup, h4]⟩, by simpa [cup] using h5, fun j hj => ?_, fun j hj => ?_⟩
  · obtain ⟨a, b, d⟩ := h6 j (by simpa [cup] using hj)
    by_cases e : j = i
    · subst e; simp [gup, cup, a, b, d]
    · simp [gup, cup, a, b, d, e]
  · obtain ⟨a, b, d, f⟩ := h7 j (by simpa [cup] using hj)
    by_cases e : j = i
    · subst e; simp [gup, cup, a, b, d, f]
    · simp [gup, cup, a, b, d, f, e]
theorem Rx9.u_sa (h : Rx9 g c) (hi : i < c 7 1) (v : Nat) : Rx9 (gup g 15 (nI i).toNatClampNeg (nI v)) (cup c 5 i v) := by
  rw [nI_clamp (by have := h.n5; omega)]
  obtain ⟨⟨h1, h2, h3, h4⟩, h5, h6, h7⟩ := h
  refine ⟨⟨by simp [gup, cup, h1], by simp [gup, cup, h2], by simp [gup, cup, h3], by simp [gup, cup, h4]⟩, by simpa [cup] using h5, fun j hj => ?_, fun j hj => ?_⟩
  · obtain ⟨a, b, d⟩ := h6 j (by simpa [cup] using hj)
    by_cases e : j = i
    · subst e; simp [gup, cup, a, b, d]
    · simp [gup, cup, a, b, d, e]
  · obtain ⟨a, b, d, f⟩ := h7 j (by simpa [cup] using hj)
    by_cases e : j = i
    · subst e; simp [gup, cup, a, b, d, f]
    · simp [gup, cup, a, b, d, f, e]
theorem Rx9.u_wo (h : Rx9 g c) (hi : i < c 7 1) (v : Nat) : Rx9 (gup g 16 (nI i).toNatClampNeg (wz v)) (cup c 6 i v) := by
  rw [nI_clamp (by have := h.n5; omega)]
  obtain ⟨⟨h1, h2, h3, h4⟩, h5, h6, h7⟩ := h
  refine ⟨⟨by simp [gup, cup, h1], by simp [gup, cup, h2], by simp [gup, cup, h3], by simp [gup, cup, h4]⟩, by simpa [cup] using h5, fun j hj => ?_, fun j hj => ?_⟩
  · obtain ⟨a, b, d⟩ := h6 j (by simpa [cup] using hj)
    by_cases e : j = i
    · subst e; simp [gup, cup, a, b, d]
    · simp [gup, cup, a, b, d, e]
  · obtain ⟨a, b, d, f⟩ := h7 j (by simpa [cup] using hj)
    by_cases e : j = i
    · subst e; simp [gup, cup, a, b, d, f]
    · simp [gup, cup, a, b, d, f, e]
theorem Rx9.u_pd (h : Rx9 g c) (v : Nat) : Rx9 (gup g 9 9 (nI v)) (cup c 7 2 v) := by
  obtain ⟨⟨h1, h2, h3, h4⟩, h5, h6, h7⟩ := h
  refine ⟨⟨by simp [gup, cup, h1], by simp [gup, cup, h2], by simp [gup, cup, h3], by simp [gup, cup, h4]⟩, by simpa [cup] using h5, fun j hj => ?_, fun j hj => ?_⟩
  · obtain ⟨a, b, d⟩ := h6 j (by simpa [cup] using hj)
    simp [gup, cup, a, b, d]
  · obtain ⟨a, b, d, f⟩ := h7 j (by simpa [cup] using hj)
    simp [gup, cup, a, b, d, f]
theorem Rx9.u_dy (h : Rx9 g c) (v : Nat) : Rx9 (gup g 9 10 (nI v)) (cup c 7 3 v) := by
  obtain ⟨⟨h1, h2, h3, h4⟩, h5, h6, h7⟩ := h
  refine ⟨⟨by simp [gup, cup, h1], by simp [gup, cup, h2], by simp [gup, cup, h3], by simp [gup, cup, h4]⟩, by simpa [cup] using h5, fun j hj => ?_, fun j hj => ?_⟩
  · obtain ⟨a, b, d⟩ := h6 j (by simpa [cup] using hj)
    simp [gup, cup, a, b, d]
  · obtain ⟨a, b, d, f⟩ := h7 j (by simpa [cup] using hj)
    simp [gup, cup, a, b, d, f]
theorem Rx9.fr (h : Rx9 g c) {g1 : gG} (h0 : g1 9 7 = g 9 7 ∧ g1 9 8 = g 9 8 ∧ g1 9 9 = g 9 9 ∧ g1 9 10 = g 9 10) (ha : ∀ k, 10 ≤ k → k ≤ 16 → g1 k = g k) : Rx9 g1 c := by
  obtain ⟨⟨h1, h2, h3, h4⟩, h5, h6, h7⟩ := h
  refine ⟨⟨h0.1.trans h1, h0.2.1.trans h2, h0.2.2.1.trans h3, h0.2.2.2.trans h4⟩, h5, fun j hj => ?_, fun j hj => ?_⟩
  · rw [ha 10 (by decide) (by decide), ha 11 (by decide) (by decide), ha 12 (by decide) (by decide)]; exact h6 j hj
  · rw [ha 13 (by decide) (by decide), ha 14 (by decide) (by decide), ha 15 (by decide) (by decide), ha 16 (by decide) (by decide)]; exact h7 j hj
end
def Rx17 (g : gG) (c : gCt) : Prop := (g 17 7 = nI (c 7 0) ∧ g 17 8 = nI (c 7 1) ∧ g 17 9 = nI (c 7 2) ∧ g 17 10 = nI (c 7 3)) ∧ (c 7 0 ≤ 6 ∧ c 7 1 ≤ 5) ∧ (∀ i, i < c 7 0 → g 18 i = nI (c 0 i) ∧ g 19 i = nI (c 1 i) ∧ g 20 i = nI (c 2 i)) ∧ ∀ i, i < c 7 1 → g 21 i = nI (c 3 i) ∧ g 22 i = nI (c 4 i) ∧ g 23 i = nI (c 5 i) ∧ g 24 i = wz (c 6 i)
section
variable {g : gG} {c : gCt} {i : Nat}
theorem Rx17.ns (h : Rx17 g c) : g 17 7 = nI (c 7 0) := h.1.1
theorem Rx17.nc (h : Rx17 g c) : g 17 8 = nI (c 7 1) := h.1.2.1
theorem Rx17.pd (h : Rx17 g c) : g 17 9 = nI (c 7 2) := h.1.2.2.1
theorem Rx17.dy (h : Rx17 g c) : g 17 10 = nI (c 7 3) := h.1.2.2.2
theorem Rx17.n6 (h : Rx17 g c) : c 7 0 ≤ 6 := h.2.1.1
theorem Rx17.n5 (h : Rx17 g c) : c 7 1 ≤ 5 := h.2.1.2
theorem Rx17.si (h : Rx17 g c) (hi : i < c 7 0) : vp_in (nI i) 6 := vp_in_nI (by have := h.n6; omega) (by decide)
theorem Rx17.ci (h : Rx17 g c) (hi : i < c 7 1) : vp_in (nI i) 5 := vp_in_nI (by have := h.n5; omega) (by decide)
theorem Rx17.kd (h : Rx17 g c) (hi : i < c 7 0) : vp_in (nI i) 6 ∧ g 18 (nI i).toNatClampNeg = nI (c 0 i) := ⟨h.si hi, by rw [nI_clamp (by have := h.n6; omega)]; exact (h.2.2.1 i hi).1⟩
theorem Rx17.fg (h : Rx17 g c) (hi : i < c 7 0) : vp_in (nI i) 6 ∧ g 19 (nI i).toNatClampNeg = nI (c 1 i) := ⟨h.si hi, by rw [nI_clamp (by have := h.n6; omega)]; exact (h.2.2.1 i hi).2.1⟩
theorem Rx17.ru (h : Rx17 g c) (hi : i < c 7 0) : vp_in (nI i) 6 ∧ g 20 (nI i).toNatClampNeg = nI (c 2 i) := ⟨h.si hi, by rw [nI_clamp (by have := h.n6; omega)]; exact (h.2.2.1 i hi).2.2⟩
theorem Rx17.fe (h : Rx17 g c) (hi : i < c 7 1) : vp_in (nI i) 5 ∧ g 21 (nI i).toNatClampNeg = nI (c 3 i) := ⟨h.ci hi, by rw [nI_clamp (by have := h.n5; omega)]; exact (h.2.2.2 i hi).1⟩
theorem Rx17.so (h : Rx17 g c) (hi : i < c 7 1) : vp_in (nI i) 5 ∧ g 22 (nI i).toNatClampNeg = nI (c 4 i) := ⟨h.ci hi, by rw [nI_clamp (by have := h.n5; omega)]; exact (h.2.2.2 i hi).2.1⟩
theorem Rx17.sa (h : Rx17 g c) (hi : i < c 7 1) : vp_in (nI i) 5 ∧ g 23 (nI i).toNatClampNeg = nI (c 5 i) := ⟨h.ci hi, by rw [nI_clamp (by have := h.n5; omega)]; exact (h.2.2.2 i hi).2.2.1⟩
theorem Rx17.wo (h : Rx17 g c) (hi : i < c 7 1) : vp_in (nI i) 5 ∧ g 24 (nI i).toNatClampNeg = wz (c 6 i) := ⟨h.ci hi, by rw [nI_clamp (by have := h.n5; omega)]; exact (h.2.2.2 i hi).2.2.2⟩
theorem Rx17.u_kd (h : Rx17 g c) (hi : i < c 7 0) (v : Nat) : Rx17 (gup g 18 (nI i).toNatClampNeg (nI v)) (cup c 0 i v) := by
  rw [nI_clamp (by have := h.n6; omega)]
  obtain ⟨⟨h1, h2, h3, h4⟩, h5, h6, h7⟩ := h
  refine ⟨⟨by simp [gup, cup, h1], by simp [gup, cup, h2], by simp [gup, cup, h3], by simp [gup, cup, h4]⟩, by simpa [cup] using h5, fun j hj => ?_, fun j hj => ?_⟩
  · obtain ⟨a, b, d⟩ := h6 j (by simpa [cup] using hj)
    by_cases e : j = i
    · subst e; simp [gup, cup, a, b, d]
    · simp [gup, cup, a, b, d, e]
  · obtain ⟨a, b, d, f⟩ := h7 j (by simpa [cup] using hj)
    by_cases e : j = i
    · subst e; simp [gup, cup, a, b, d, f]
    · simp [gup, cup, a, b, d, f, e]
theorem Rx17.u_fg (h : Rx17 g c) (hi : i < c 7 0) (v : Nat) : Rx17 (gup g 19 (nI i).toNatClampNeg (nI v)) (cup c 1 i v) := by
  rw [nI_clamp (by have := h.n6; omega)]
  obtain ⟨⟨h1, h2, h3, h4⟩, h5, h6, h7⟩ := h
  refine ⟨⟨by simp [gup, cup, h1], by simp [gup, cup, h2], by simp [gup, cup, h3], by simp [gup, cup, h4]⟩, by simpa [cup] using h5, fun j hj => ?_, fun j hj => ?_⟩
  · obtain ⟨a, b, d⟩ := h6 j (by simpa [cup] using hj)
    by_cases e : j = i
    · subst e; simp [gup, cup, a, b, d]
    · simp [gup, cup, a, b, d, e]
  · obtain ⟨a, b, d, f⟩ := h7 j (by simpa [cup] using hj)
    by_cases e : j = i
    · subst e; simp [gup, cup, a, b, d, f]
    · simp [gup, cup, a, b, d, f, e]
theorem Rx17.u_ru (h : Rx17 g c) (hi : i < c 7 0) (v : Nat) : Rx17 (gup g 20 (nI i).toNatClampNeg (nI v)) (cup c 2 i v) := by
  rw [nI_clamp (by have := h.n6; omega)]
  obtain ⟨⟨h1, h2, h3, h4⟩, h5, h6, h7⟩ := h
  refine ⟨⟨by simp [gup, cup, h1], by simp [gup, cup, h2], by simp [gup, cup, h3], by simp [gup, cup, h4]⟩, by simpa [cup] using h5, fun j hj => ?_, fun j hj => ?_⟩
  · obtain ⟨a, b, d⟩ := h6 j (by simpa [cup] using hj)
    by_cases e : j = i
    · subst e; simp [gup, cup, a, b, d]
    · simp [gup, cup, a, b, d, e]
  · obtain ⟨a, b, d, f⟩ := h7 j (by simpa [cup] using hj)
    by_cases e : j = i
    · subst e; simp [gup, cup, a, b, d, f]
    · simp [gup, cup, a, b, d, f, e]
theorem Rx17.u_fe (h : Rx17 g c) (hi : i < c 7 1) (v : Nat) : Rx17 (gup g 21 (nI i).toNatClampNeg (nI v)) (cup c 3 i v) := by
  rw [nI_clamp (by have := h.n5; omega)]
  obtain ⟨⟨h1, h2, h3, h4⟩, h5, h6, h7⟩ := h
  refine ⟨⟨by simp [gup, cup, h1], by simp [gup, cup, h2], by simp [gup, cup, h3], by simp [gup, cup, h4]⟩, by simpa [cup] using h5, fun j hj => ?_, fun j hj => ?_⟩
  · obtain ⟨a, b, d⟩ := h6 j (by simpa [cup] using hj)
    by_cases e : j = i
    · subst e; simp [gup, cup, a, b, d]
    · simp [gup, cup, a, b, d, e]
  · obtain ⟨a, b, d, f⟩ := h7 j (by simpa [cup] using hj)
    by_cases e : j = i
    · subst e; simp [gup, cup, a, b, d, f]
    · simp [gup, cup, a, b, d, f, e]
theorem Rx17.u_so (h : Rx17 g c) (hi : i < c 7 1) (v : Nat) : Rx17 (gup g 22 (nI i).toNatClampNeg (nI v)) (cup c 4 i v) := by
  rw [nI_clamp (by have := h.n5; omega)]
  obtain ⟨⟨h1, h2, h3, h4⟩, h5, h6, h7⟩ := h
  refine ⟨⟨by simp [gup, cup, h1], by simp [gup, cup, h2], by simp [gup, cup, h3], by simp [gup, cup, h4]⟩, by simpa [cup] using h5, fun j hj => ?_, fun j hj => ?_⟩
  · obtain ⟨a, b, d⟩ := h6 j (by simpa [cup] using hj)
    by_cases e : j = i
    · subst e; simp [gup, cup, a, b, d]
    · simp [gup, cup, a, b, d, e]
  · obtain ⟨a, b, d, f⟩ := h7 j (by simpa [cup] using hj)
    by_cases e : j = i
    · subst e; simp [gup, cup, a, b, d, f]
    · simp [gup, cup, a, b, d, f, e]
theorem Rx17.u_sa (h : Rx17 g c) (hi : i < c 7 1) (v : Nat) : Rx17 (gup g 23 (nI i).toNatClampNeg (nI v)) (cup c 5 i v) := by
  rw [nI_clamp (by have := h.n5; omega)]
  obtain ⟨⟨h1, h2, h3, h4⟩, h5, h6, h7⟩ := h
  refine ⟨⟨by simp [gup, cup, h1], by simp [gup, cup, h2], by simp [gup, cup, h3], by simp [gup, cup, h4]⟩, by simpa [cup] using h5, fun j hj => ?_, fun j hj => ?_⟩
  · obtain ⟨a, b, d⟩ := h6 j (by simpa [cup] using hj)
    by_cases e : j = i
    · subst e; simp [gup, cup, a, b, d]
    · simp [gup, cup, a, b, d, e]
  · obtain ⟨a, b, d, f⟩ := h7 j (by simpa [cup] using hj)
    by_cases e : j = i
    · subst e; simp [gup, cup, a, b, d, f]
    · simp [gup, cup, a, b, d, f, e]
theorem Rx17.u_wo (h : Rx17 g c) (hi : i < c 7 1) (v : Nat) : Rx17 (gup g 24 (nI i).toNatClampNeg (wz v)) (cup c 6 i v) := by
  rw [nI_clamp (by have := h.n5; omega)]
  obtain ⟨⟨h1, h2, h3, h4⟩, h5, h6, h7⟩ := h
  refine ⟨⟨by simp [gup, cup, h1], by simp [gup, cup, h2], by simp [gup, cup, h3], by simp [gup, cup, h4]⟩, by simpa [cup] using h5, fun j hj => ?_, fun j hj => ?_⟩
  · obtain ⟨a, b, d⟩ := h6 j (by simpa [cup] using hj)
    by_cases e : j = i
    · subst e; simp [gup, cup, a, b, d]
    · simp [gup, cup, a, b, d, e]
  · obtain ⟨a, b, d, f⟩ := h7 j (by simpa [cup] using hj)
    by_cases e : j = i
    · subst e; simp [gup, cup, a, b, d, f]
    · simp [gup, cup, a, b, d, f, e]
theorem Rx17.u_pd (h : Rx17 g c) (v : Nat) : Rx17 (gup g 17 9 (nI v)) (cup c 7 2 v) := by
  obtain ⟨⟨h1, h2, h3, h4⟩, h5, h6, h7⟩ := h
  refine ⟨⟨by simp [gup, cup, h1], by simp [gup, cup, h2], by simp [gup, cup, h3], by simp [gup, cup, h4]⟩, by simpa [cup] using h5, fun j hj => ?_, fun j hj => ?_⟩
  · obtain ⟨a, b, d⟩ := h6 j (by simpa [cup] using hj)
    simp [gup, cup, a, b, d]
  · obtain ⟨a, b, d, f⟩ := h7 j (by simpa [cup] using hj)
    simp [gup, cup, a, b, d, f]
theorem Rx17.u_dy (h : Rx17 g c) (v : Nat) : Rx17 (gup g 17 10 (nI v)) (cup c 7 3 v) := by
  obtain ⟨⟨h1, h2, h3, h4⟩, h5, h6, h7⟩ := h
  refine ⟨⟨by simp [gup, cup, h1], by simp [gup, cup, h2], by simp [gup, cup, h3], by simp [gup, cup, h4]⟩, by simpa [cup] using h5, fun j hj => ?_, fun j hj => ?_⟩
  · obtain ⟨a, b, d⟩ := h6 j (by simpa [cup] using hj)
    simp [gup, cup, a, b, d]
  · obtain ⟨a, b, d, f⟩ := h7 j (by simpa [cup] using hj)
    simp [gup, cup, a, b, d, f]
theorem Rx17.fr (h : Rx17 g c) {g1 : gG} (h0 : g1 17 7 = g 17 7 ∧ g1 17 8 = g 17 8 ∧ g1 17 9 = g 17 9 ∧ g1 17 10 = g 17 10) (ha : ∀ k, 18 ≤ k → k ≤ 24 → g1 k = g k) : Rx17 g1 c := by
  obtain ⟨⟨h1, h2, h3, h4⟩, h5, h6, h7⟩ := h
  refine ⟨⟨h0.1.trans h1, h0.2.1.trans h2, h0.2.2.1.trans h3, h0.2.2.2.trans h4⟩, h5, fun j hj => ?_, fun j hj => ?_⟩
  · rw [ha 18 (by decide) (by decide), ha 19 (by decide) (by decide), ha 20 (by decide) (by decide)]; exact h6 j hj
  · rw [ha 21 (by decide) (by decide), ha 22 (by decide) (by decide), ha 23 (by decide) (by decide), ha 24 (by decide) (by decide)]; exact h7 j hj
end
def Rm (g : gG) (c : gCt) : Prop := (g 35 8 = nI (c 7 0) ∧ g 35 9 = nI (c 7 1) ∧ g 35 10 = nI (c 7 2) ∧ g 35 11 = nI (c 7 3)) ∧ (c 7 0 ≤ 6 ∧ c 7 1 ≤ 5) ∧ (∀ i, i < c 7 0 → g 37 i = nI (c 0 i) ∧ g 38 i = nI (c 1 i) ∧ g 39 i = nI (c 2 i)) ∧ ∀ i, i < c 7 1 → g 40 i = nI (c 3 i) ∧ g 41 i = nI (c 4 i) ∧ g 42 i = nI (c 5 i) ∧ g 43 i = nI (c 6 i)
section
variable {g : gG} {c : gCt} {i : Nat}
theorem Rm.ns (h : Rm g c) : g 35 8 = nI (c 7 0) := h.1.1
theorem Rm.nc (h : Rm g c) : g 35 9 = nI (c 7 1) := h.1.2.1
theorem Rm.pd (h : Rm g c) : g 35 10 = nI (c 7 2) := h.1.2.2.1
theorem Rm.dy (h : Rm g c) : g 35 11 = nI (c 7 3) := h.1.2.2.2
theorem Rm.n6 (h : Rm g c) : c 7 0 ≤ 6 := h.2.1.1
theorem Rm.n5 (h : Rm g c) : c 7 1 ≤ 5 := h.2.1.2
theorem Rm.si (h : Rm g c) (hi : i < c 7 0) : vp_in (nI i) 6 := vp_in_nI (by have := h.n6; omega) (by decide)
theorem Rm.ci (h : Rm g c) (hi : i < c 7 1) : vp_in (nI i) 5 := vp_in_nI (by have := h.n5; omega) (by decide)
theorem Rm.kd (h : Rm g c) (hi : i < c 7 0) : vp_in (nI i) 6 ∧ g 37 (nI i).toNatClampNeg = nI (c 0 i) := ⟨h.si hi, by rw [nI_clamp (by have := h.n6; omega)]; exact (h.2.2.1 i hi).1⟩
theorem Rm.fg (h : Rm g c) (hi : i < c 7 0) : vp_in (nI i) 6 ∧ g 38 (nI i).toNatClampNeg = nI (c 1 i) := ⟨h.si hi, by rw [nI_clamp (by have := h.n6; omega)]; exact (h.2.2.1 i hi).2.1⟩
theorem Rm.ru (h : Rm g c) (hi : i < c 7 0) : vp_in (nI i) 6 ∧ g 39 (nI i).toNatClampNeg = nI (c 2 i) := ⟨h.si hi, by rw [nI_clamp (by have := h.n6; omega)]; exact (h.2.2.1 i hi).2.2⟩
theorem Rm.fe (h : Rm g c) (hi : i < c 7 1) : vp_in (nI i) 5 ∧ g 40 (nI i).toNatClampNeg = nI (c 3 i) := ⟨h.ci hi, by rw [nI_clamp (by have := h.n5; omega)]; exact (h.2.2.2 i hi).1⟩
theorem Rm.so (h : Rm g c) (hi : i < c 7 1) : vp_in (nI i) 5 ∧ g 41 (nI i).toNatClampNeg = nI (c 4 i) := ⟨h.ci hi, by rw [nI_clamp (by have := h.n5; omega)]; exact (h.2.2.2 i hi).2.1⟩
theorem Rm.sa (h : Rm g c) (hi : i < c 7 1) : vp_in (nI i) 5 ∧ g 42 (nI i).toNatClampNeg = nI (c 5 i) := ⟨h.ci hi, by rw [nI_clamp (by have := h.n5; omega)]; exact (h.2.2.2 i hi).2.2.1⟩
theorem Rm.wo (h : Rm g c) (hi : i < c 7 1) : vp_in (nI i) 5 ∧ g 43 (nI i).toNatClampNeg = nI (c 6 i) := ⟨h.ci hi, by rw [nI_clamp (by have := h.n5; omega)]; exact (h.2.2.2 i hi).2.2.2⟩
theorem Rm.u_kd (h : Rm g c) (hi : i < c 7 0) (v : Nat) : Rm (gup g 37 (nI i).toNatClampNeg (nI v)) (cup c 0 i v) := by
  rw [nI_clamp (by have := h.n6; omega)]
  obtain ⟨⟨h1, h2, h3, h4⟩, h5, h6, h7⟩ := h
  refine ⟨⟨by simp [gup, cup, h1], by simp [gup, cup, h2], by simp [gup, cup, h3], by simp [gup, cup, h4]⟩, by simpa [cup] using h5, fun j hj => ?_, fun j hj => ?_⟩
  · obtain ⟨a, b, d⟩ := h6 j (by simpa [cup] using hj)
    by_cases e : j = i
    · subst e; simp [gup, cup, a, b, d]
    · simp [gup, cup, a, b, d, e]
  · obtain ⟨a, b, d, f⟩ := h7 j (by simpa [cup] using hj)
    by_cases e : j = i
    · subst e; simp [gup, cup, a, b, d, f]
    · simp [gup, cup, a, b, d, f, e]
theorem Rm.u_fg (h : Rm g c) (hi : i < c 7 0) (v : Nat) : Rm (gup g 38 (nI i).toNatClampNeg (nI v)) (cup c 1 i v) := by
  rw [nI_clamp (by have := h.n6; omega)]
  obtain ⟨⟨h1, h2, h3, h4⟩, h5, h6, h7⟩ := h
  refine ⟨⟨by simp [gup, cup, h1], by simp [gup, cup, h2], by simp [gup, cup, h3], by simp [gup, cup, h4]⟩, by simpa [cup] using h5, fun j hj => ?_, fun j hj => ?_⟩
  · obtain ⟨a, b, d⟩ := h6 j (by simpa [cup] using hj)
    by_cases e : j = i
    · subst e; simp [gup, cup, a, b, d]
    · simp [gup, cup, a, b, d, e]
  · obtain ⟨a, b, d, f⟩ := h7 j (by simpa [cup] using hj)
    by_cases e : j = i
    · subst e; simp [gup, cup, a, b, d, f]
    · simp [gup, cup, a, b, d, f, e]
theorem Rm.u_ru (h : Rm g c) (hi : i < c 7 0) (v : Nat) : Rm (gup g 39 (nI i).toNatClampNeg (nI v)) (cup c 2 i v) := by
  rw [nI_clamp (by have := h.n6; omega)]
  obtain ⟨⟨h1, h2, h3, h4⟩, h5, h6, h7⟩ := h
  refine ⟨⟨by simp [gup, cup, h1], by simp [gup, cup, h2], by simp [gup, cup, h3], by simp [gup, cup, h4]⟩, by simpa [cup] using h5, fun j hj => ?_, fun j hj => ?_⟩
  · obtain ⟨a, b, d⟩ := h6 j (by simpa [cup] using hj)
    by_cases e : j = i
    · subst e; simp [gup, cup, a, b, d]
    · simp [gup, cup, a, b, d, e]
  · obtain ⟨a, b, d, f⟩ := h7 j (by simpa [cup] using hj)
    by_cases e : j = i
    · subst e; simp [gup, cup, a, b, d, f]
    · simp [gup, cup, a, b, d, f, e]
theorem Rm.u_fe (h : Rm g c) (hi : i < c 7 1) (v : Nat) : Rm (gup g 40 (nI i).toNatClampNeg (nI v)) (cup c 3 i v) := by
  rw [nI_clamp (by have := h.n5; omega)]
  obtain ⟨⟨h1, h2, h3, h4⟩, h5, h6, h7⟩ := h
  refine ⟨⟨by simp [gup, cup, h1], by simp [gup, cup, h2], by simp [gup, cup, h3], by simp [gup, cup, h4]⟩, by simpa [cup] using h5, fun j hj => ?_, fun j hj => ?_⟩
  · obtain ⟨a, b, d⟩ := h6 j (by simpa [cup] using hj)
    by_cases e : j = i
    · subst e; simp [gup, cup, a, b, d]
    · simp [gup, cup, a, b, d, e]
  · obtain ⟨a, b, d, f⟩ := h7 j (by simpa [cup] using hj)
    by_cases e : j = i
    · subst e; simp [gup, cup, a, b, d, f]
    · simp [gup, cup, a, b, d, f, e]
theorem Rm.u_so (h : Rm g c) (hi : i < c 7 1) (v : Nat) : Rm (gup g 41 (nI i).toNatClampNeg (nI v)) (cup c 4 i v) := by
  rw [nI_clamp (by have := h.n5; omega)]
  obtain ⟨⟨h1, h2, h3, h4⟩, h5, h6, h7⟩ := h
  refine ⟨⟨by simp [gup, cup, h1], by simp [gup, cup, h2], by simp [gup, cup, h3], by simp [gup, cup, h4]⟩, by simpa [cup] using h5, fun j hj => ?_, fun j hj => ?_⟩
  · obtain ⟨a, b, d⟩ := h6 j (by simpa [cup] using hj)
    by_cases e : j = i
    · subst e; simp [gup, cup, a, b, d]
    · simp [gup, cup, a, b, d, e]
  · obtain ⟨a, b, d, f⟩ := h7 j (by simpa [cup] using hj)
    by_cases e : j = i
    · subst e; simp [gup, cup, a, b, d, f]
    · simp [gup, cup, a, b, d, f, e]
theorem Rm.u_sa (h : Rm g c) (hi : i < c 7 1) (v : Nat) : Rm (gup g 42 (nI i).toNatClampNeg (nI v)) (cup c 5 i v) := by
  rw [nI_clamp (by have := h.n5; omega)]
  obtain ⟨⟨h1, h2, h3, h4⟩, h5, h6, h7⟩ := h
  refine ⟨⟨by simp [gup, cup, h1], by simp [gup, cup, h2], by simp [gup, cup, h3], by simp [gup, cup, h4]⟩, by simpa [cup] using h5, fun j hj => ?_, fun j hj => ?_⟩
  · obtain ⟨a, b, d⟩ := h6 j (by simpa [cup] using hj)
    by_cases e : j = i
    · subst e; simp [gup, cup, a, b, d]
    · simp [gup, cup, a, b, d, e]
  · obtain ⟨a, b, d, f⟩ := h7 j (by simpa [cup] using hj)
    by_cases e : j = i
    · subst e; simp [gup, cup, a, b, d, f]
    · simp [gup, cup, a, b, d, f, e]
theorem Rm.u_wo (h : Rm g c) (hi : i < c 7 1) (v : Nat) : Rm (gup g 43 (nI i).toNatClampNeg (nI v)) (cup c 6 i v) := by
  rw [nI_clamp (by have := h.n5; omega)]
  obtain ⟨⟨h1, h2, h3, h4⟩, h5, h6, h7⟩ := h
  refine ⟨⟨by simp [gup, cup, h1], by simp [gup, cup, h2], by simp [gup, cup, h3], by simp [gup, cup, h4]⟩, by simpa [cup] using h5, fun j hj => ?_, fun j hj => ?_⟩
  · obtain ⟨a, b, d⟩ := h6 j (by simpa [cup] using hj)
    by_cases e : j = i
    · subst e; simp [gup, cup, a, b, d]
    · simp [gup, cup, a, b, d, e]
  · obtain ⟨a, b, d, f⟩ := h7 j (by simpa [cup] using hj)
    by_cases e : j = i
    · subst e; simp [gup, cup, a, b, d, f]
    · simp [gup, cup, a, b, d, f, e]
theorem Rm.u_pd (h : Rm g c) (v : Nat) : Rm (gup g 35 10 (nI v)) (cup c 7 2 v) := by
  obtain ⟨⟨h1, h2, h3, h4⟩, h5, h6, h7⟩ := h
  refine ⟨⟨by simp [gup, cup, h1], by simp [gup, cup, h2], by simp [gup, cup, h3], by simp [gup, cup, h4]⟩, by simpa [cup] using h5, fun j hj => ?_, fun j hj => ?_⟩
  · obtain ⟨a, b, d⟩ := h6 j (by simpa [cup] using hj)
    simp [gup, cup, a, b, d]
  · obtain ⟨a, b, d, f⟩ := h7 j (by simpa [cup] using hj)
    simp [gup, cup, a, b, d, f]
theorem Rm.u_dy (h : Rm g c) (v : Nat) : Rm (gup g 35 11 (nI v)) (cup c 7 3 v) := by
  obtain ⟨⟨h1, h2, h3, h4⟩, h5, h6, h7⟩ := h
  refine ⟨⟨by simp [gup, cup, h1], by simp [gup, cup, h2], by simp [gup, cup, h3], by simp [gup, cup, h4]⟩, by simpa [cup] using h5, fun j hj => ?_, fun j hj => ?_⟩
  · obtain ⟨a, b, d⟩ := h6 j (by simpa [cup] using hj)
    simp [gup, cup, a, b, d]
  · obtain ⟨a, b, d, f⟩ := h7 j (by simpa [cup] using hj)
    simp [gup, cup, a, b, d, f]
theorem Rm.fr (h : Rm g c) {g1 : gG} (h0 : g1 35 8 = g 35 8 ∧ g1 35 9 = g 35 9 ∧ g1 35 10 = g 35 10 ∧ g1 35 11 = g 35 11) (ha : ∀ k, 37 ≤ k → k ≤ 43 → g1 k = g k) : Rm g1 c := by
  obtain ⟨⟨h1, h2, h3, h4⟩, h5, h6, h7⟩ := h
  refine ⟨⟨h0.1.trans h1, h0.2.1.trans h2, h0.2.2.1.trans h3, h0.2.2.2.trans h4⟩, h5, fun j hj => ?_, fun j hj => ?_⟩
  · rw [ha 37 (by decide) (by decide), ha 38 (by decide) (by decide), ha 39 (by decide) (by decide)]; exact h6 j hj
  · rw [ha 40 (by decide) (by decide), ha 41 (by decide) (by decide), ha 42 (by decide) (by decide), ha 43 (by decide) (by decide)]; exact h7 j hj
end
theorem Rx1.of {g g1 : gG} {c : gCt} (h : Rx1 g c) (ha : ∀ k, 1 ≤ k → k < 9 → g1 k = g k) : Rx1 g1 c := h.fr ⟨congrFun (ha 1 (by decide) (by decide)) _, congrFun (ha 1 (by decide) (by decide)) _, congrFun (ha 1 (by decide) (by decide)) _, congrFun (ha 1 (by decide) (by decide)) _⟩ (fun k h1 h2 => ha k (by omega) (by omega))
theorem Rx9.of {g g1 : gG} {c : gCt} (h : Rx9 g c) (ha : ∀ k, 9 ≤ k → k < 17 → g1 k = g k) : Rx9 g1 c := h.fr ⟨congrFun (ha 9 (by decide) (by decide)) _, congrFun (ha 9 (by decide) (by decide)) _, congrFun (ha 9 (by decide) (by decide)) _, congrFun (ha 9 (by decide) (by decide)) _⟩ (fun k h1 h2 => ha k (by omega) (by omega))
theorem Rx17.of {g g1 : gG} {c : gCt} (h : Rx17 g c) (ha : ∀ k, 17 ≤ k → k < 25 → g1 k = g k) : Rx17 g1 c := h.fr ⟨congrFun (ha 17 (by decide) (by decide)) _, congrFun (ha 17 (by decide) (by decide)) _, congrFun (ha 17 (by decide) (by decide)) _, congrFun (ha 17 (by decide) (by decide)) _⟩ (fun k h1 h2 => ha k (by omega) (by omega))
theorem Rx1.wr {g g2 : gG} {k j : Nat} {x : Int32} {c : gCt} (hF : frm 1 9 g g2) (hR : Rx1 (gup g2 k j x) c) (hk : 1 ≤ k ∧ k < 9) : Rx1 (gup g2 k j x) c ∧ frm 1 9 g (gup g2 k j x) := ⟨hR, hF.up hk⟩
theorem Rx9.wr {g g2 : gG} {k j : Nat} {x : Int32} {c : gCt} (hF : frm 9 17 g g2) (hR : Rx9 (gup g2 k j x) c) (hk : 9 ≤ k ∧ k < 17) : Rx9 (gup g2 k j x) c ∧ frm 9 17 g (gup g2 k j x) := ⟨hR, hF.up hk⟩
theorem Rx17.wr {g g2 : gG} {k j : Nat} {x : Int32} {c : gCt} (hF : frm 17 25 g g2) (hR : Rx17 (gup g2 k j x) c) (hk : 17 ≤ k ∧ k < 25) : Rx17 (gup g2 k j x) c ∧ frm 17 25 g (gup g2 k j x) := ⟨hR, hF.up hk⟩
theorem Rm.wr {g g2 : gG} {k j : Nat} {x : Int32} {c : gCt} (hF : frm 35 58 g g2) (hR : Rm (gup g2 k j x) c) (hk : 35 ≤ k ∧ k < 58) : Rm (gup g2 k j x) c ∧ frm 35 58 g (gup g2 k j x) := ⟨hR, hF.up hk⟩
end
section
/-! ===== what a city does ===== -/
def covN (k f r : Nat) : Nat := if k = 0 then f + 4 - r else if k = 2 then (f + 4 - r) / 2 else if k = 3 then 2 * (f + 4 - r) else if k = 4 then 2 * (f + 4 - r) + 5 else f + 4 - r - 2
def chaN (k r d : Nat) : Nat := if k = 0 then 2 else if k = 1 then 1 else if k = 2 then 0 else if k = 3 then 3 else if k = 4 then 3 + r / 3 else 1 + d % 2
def priN (k : Nat) : Nat := if k = 0 then 3 else if k = 1 then 2 else if k = 2 then 1 else if k = 5 then 0 else 6
def cvr (c : gCt) (s : Nat) : Nat := covN (c 0 s) (c 1 s) (c 2 s)
/-- who is in a suit -/
def wr (c : gCt) (s : Nat) : Option Nat := gfind (fun i => c 6 i == s + 1) (c 7 1) 0
def brI (c : gCt) (i cov : Nat) : Int32 := nI cov + nI (c 5 i) - nI (c 3 i) - nI (c 4 i / 3)
def canB (c : gCt) (i cov : Nat) : Bool := decide (c 5 i < 6 ∧ 2 * c 5 i + c 3 i + c 4 i / 3 ≤ cov + c 5 i + 4)
def covOf (c : gCt) (i : Nat) : Nat := if c 6 i = 0 then 0 else cvr c (c 6 i - 1)
def put (c : gCt) (i s : Nat) : gCt := cup (match wr c s with
  | some k => cup c 6 k 0
  | none => c) 6 i (s + 1)
def liveP (c : gCt) (i : Nat) : gCt := cup c 7 2 (cap (c 7 2 + priN (c 0 (c 6 i - 1))) 9999)
def liveQ (c : gCt) (i : Nat) : gCt := if canB c i (cvr c (c 6 i - 1)) = true then cup (cup (liveP c i) 5 i (c 5 i + 1)) 3 i (c 3 i - 1) else cup (liveP c i) 3 i (cap (c 3 i + 1) 20)
def liveS (c : gCt) (i : Nat) : Nat := cap (c 4 i + chaN (c 0 (c 6 i - 1)) (c 2 (c 6 i - 1)) (c 7 3)) 20
def live (c : gCt) (i : Nat) : gCt := if c 6 i = 0 then cup c 4 i (c 4 i - 1) else if 15 ≤ liveS c i then cup (cup (liveQ c i) 4 i (liveS c i)) 6 i 0 else cup (liveQ c i) 4 i (liveS c i)
def rstF (s : Nat) (c : gCt) : gCt := if wr c s = none then cup c 2 s (cap (c 2 s + 1) 9) else c
def rstU (c : gCt) : gCt := gfold rstF (c 7 0) 0 c
def dayC (c : gCt) : gCt :=
  let c2 := gfold (fun i c => live c i) (c 7 1) 0 (cup c 7 3 (c 7 3 + 1))
  if c2 7 3 % 5 = 0 then rstU c2 else c2
def daysC (n : Nat) (c : gCt) : gCt := gfold (fun _ c => dayC c) n 0 c
def rainC (c : gCt) : gCt := gfold (fun s c => cup c 2 s (cap (c 2 s + 1) 9)) (c 7 0) 0 c
def sumN (f : Nat → Nat) (n : Nat) : Nat := gfold (fun i a => a + f i) n 0 0
def addS (c : gCt) (k f : Nat) : gCt := cup (cup (cup (cup c 0 (c 7 0) k) 1 (c 7 0) f) 2 (c 7 0) 0) 7 0 (c 7 0 + 1)
def addC (c : gCt) (f : Nat) : gCt := cup (cup (cup (cup (cup c 3 (c 7 1) f) 4 (c 7 1) 0) 5 (c 7 1) 0) 6 (c 7 1) 0) 7 1 (c 7 1 + 1)
end
section
theorem cup_ne {c : gCt} {k i v a b : Nat} (h : ¬ (a = k ∧ b = i)) : cup c k i v a b = c a b := if_neg h
theorem cup_same {c : gCt} {k i v : Nat} : cup c k i v k i = v := if_pos ⟨rfl, rfl⟩
theorem cup_id (c : gCt) (k i : Nat) : cup c k i (c k i) = c := by
  funext a b
  unfold cup
  split
  · next h => rw [h.1, h.2]
  · rfl
theorem cup_twice (c : gCt) (k i v w : Nat) : cup (cup c k i v) k i w = cup c k i w := by
  funext a b
  unfold cup
  split <;> simp_all
theorem gok_0 {c : gCt} (h : gok c) {i v : Nat} (hv : v < 6) : gok (cup c 0 i v) := by
  obtain ⟨h1, h2, h3, h4⟩ := h
  refine ⟨by simpa [cup] using h1, by simpa [cup] using h2, fun j hj => ?_, fun j hj => ?_⟩
  · have := h3 j (by simpa [cup] using hj)
    by_cases e : j = i <;> simp [cup, e] <;> (try subst e) <;> omega
  · have := h4 j (by simpa [cup] using hj)
    simp [cup]; omega
theorem gok_1 {c : gCt} (h : gok c) {i v : Nat} (hv : v ≤ 9) : gok (cup c 1 i v) := by
  obtain ⟨h1, h2, h3, h4⟩ := h
  refine ⟨by simpa [cup] using h1, by simpa [cup] using h2, fun j hj => ?_, fun j hj => ?_⟩
  · have := h3 j (by simpa [cup] using hj)
    by_cases e : j = i <;> simp [cup, e] <;> (try subst e) <;> omega
  · have := h4 j (by simpa [cup] using hj)
    simp [cup]; omega
theorem gok_2 {c : gCt} (h : gok c) {i v : Nat} (hv : v ≤ 9) : gok (cup c 2 i v) := by
  obtain ⟨h1, h2, h3, h4⟩ := h
  refine ⟨by simpa [cup] using h1, by simpa [cup] using h2, fun j hj => ?_, fun j hj => ?_⟩
  · have := h3 j (by simpa [cup] using hj)
    by_cases e : j = i <;> simp [cup, e] <;> (try subst e) <;> omega
  · have := h4 j (by simpa [cup] using hj)
    simp [cup]; omega
theorem gok_3 {c : gCt} (h : gok c) {i v : Nat} (hv : v ≤ 20) : gok (cup c 3 i v) := by
  obtain ⟨h1, h2, h3, h4⟩ := h
  refine ⟨by simpa [cup] using h1, by simpa [cup] using h2, fun j hj => ?_, fun j hj => ?_⟩
  · have := h3 j (by simpa [cup] using hj)
    simp [cup]; omega
  · have := h4 j (by simpa [cup] using hj)
    by_cases e : j = i <;> simp [cup, e] <;> (try subst e) <;> omega
theorem gok_4 {c : gCt} (h : gok c) {i v : Nat} (hv : v ≤ 20) : gok (cup c 4 i v) := by
  obtain ⟨h1, h2, h3, h4⟩ := h
  refine ⟨by simpa [cup] using h1, by simpa [cup] using h2, fun j hj => ?_, fun j hj => ?_⟩
  · have := h3 j (by simpa [cup] using hj)
    simp [cup]; omega
  · have := h4 j (by simpa [cup] using hj)
    by_cases e : j = i <;> simp [cup, e] <;> (try subst e) <;> omega
theorem gok_5 {c : gCt} (h : gok c) {i v : Nat} (hv : v ≤ 6) : gok (cup c 5 i v) := by
  obtain ⟨h1, h2, h3, h4⟩ := h
  refine ⟨by simpa [cup] using h1, by simpa [cup] using h2, fun j hj => ?_, fun j hj => ?_⟩
  · have := h3 j (by simpa [cup] using hj)
    simp [cup]; omega
  · have := h4 j (by simpa [cup] using hj)
    by_cases e : j = i <;> simp [cup, e] <;> (try subst e) <;> omega
theorem gok_6 {c : gCt} (h : gok c) {i v : Nat} (hv : v ≤ c 7 0) : gok (cup c 6 i v) := by
  obtain ⟨h1, h2, h3, h4⟩ := h
  refine ⟨by simpa [cup] using h1, by simpa [cup] using h2, fun j hj => ?_, fun j hj => ?_⟩
  · have := h3 j (by simpa [cup] using hj)
    simp [cup]; omega
  · have := h4 j (by simpa [cup] using hj)
    by_cases e : j = i <;> simp [cup, e] <;> (try subst e) <;> omega
theorem gok_72 {c : gCt} (h : gok c) {v : Nat} (hv : v ≤ 9999) : gok (cup c 7 2 v) := by
  obtain ⟨h1, h2, h3, h4⟩ := h
  refine ⟨by simpa [cup] using hv, by simpa [cup] using h2, fun j hj => ?_, fun j hj => ?_⟩
  · have := h3 j (by simpa [cup] using hj)
    simp [cup]; omega
  · have := h4 j (by simpa [cup] using hj)
    simp [cup]; omega
theorem gok_73 {c : gCt} (h : gok c) {v : Nat} (hv : v ≤ 2000) : gok (cup c 7 3 v) := by
  obtain ⟨h1, h2, h3, h4⟩ := h
  refine ⟨by simpa [cup] using h1, by simpa [cup] using hv, fun j hj => ?_, fun j hj => ?_⟩
  · have := h3 j (by simpa [cup] using hj)
    simp [cup]; omega
  · have := h4 j (by simpa [cup] using hj)
    simp [cup]; omega
/-! a property of the state that each step of a fold keeps -/
theorem gfold_inv {σ : Type} {F : Nat → σ → σ} {I : σ → Prop} : ∀ (n i : Nat) (s : σ), I s → (∀ j s, i ≤ j → j < i + n → I s → I (F j s)) → I (gfold F n i s)
  | 0, _, _, h, _ => h
  | n + 1, i, s, h, hs => gfold_inv n (i + 1) (F i s) (hs i s (by omega) (by omega) h) (fun j s h1 h2 => hs j s (by omega) (by omega))
theorem gfold_succ {σ : Type} (F : Nat → σ → σ) : ∀ (n i : Nat) (s : σ), gfold F (n + 1) i s = F (i + n) (gfold F n i s)
  | 0, _, _ => rfl
  | n + 1, i, s => by
    show gfold F (n + 1) (i + 1) (F i s) = F (i + (n + 1)) (gfold F n (i + 1) (F i s))
    rw [gfold_succ F n (i + 1) (F i s), show i + 1 + n = i + (n + 1) by omega]
theorem gfold_add {σ : Type} (F : Nat → σ → σ) (n m : Nat) : ∀ (i : Nat) (s : σ), gfold F (n + m) i s = gfold F m (i + n) (gfold F n i s) := by
  induction n with
  | zero => intro i s; simp [gfold]
  | succ n ih =>
    intro i s
    rw [show n + 1 + m = (n + m) + 1 by omega]
    show gfold F (n + m) (i + 1) (F i s) = gfold F m (i + (n + 1)) (gfold F n (i + 1) (F i s))
    rw [ih, show i + 1 + n = i + (n + 1) by omega]
theorem covN_le {k f : Nat} (hf : f ≤ 9) (r : Nat) : covN k f r ≤ 31 := by
  unfold covN
  repeat' split
  all_goals omega
theorem chaN_le {k r : Nat} (hr : r ≤ 9) (d : Nat) : chaN k r d ≤ 6 := by
  unfold chaN
  repeat' split
  all_goals omega
theorem priN_le (k : Nat) : priN k ≤ 6 := by
  unfold priN
  repeat' split
  all_goals omega
theorem covOf_le {c : gCt} (h : gok c) {i : Nat} (hi : i < c 7 1) : covOf c i ≤ 31 := by
  unfold covOf
  split
  · omega
  · next h0 => exact covN_le (h.2.2.1 _ (by have := (h.2.2.2 i hi).2.2.2; omega)).2.1 _
theorem liveQ_7 (c : gCt) (i : Nat) : liveQ c i 7 0 = c 7 0 ∧ liveQ c i 7 1 = c 7 1 ∧ liveQ c i 7 3 = c 7 3 := by
  unfold liveQ liveP
  split <;> simp [cup]
theorem live_7 (c : gCt) (i : Nat) : live c i 7 0 = c 7 0 ∧ live c i 7 1 = c 7 1 ∧ live c i 7 3 = c 7 3 := by
  have h := liveQ_7 c i
  unfold live
  split
  · simp [cup]
  · split <;> simp [cup, h]
theorem liveQ_gok {c : gCt} (h : gok c) {i : Nat} (hi : i < c 7 1) : gok (liveQ c i) := by
  have h4 := h.2.2.2 i hi
  have h2 : gok (liveP c i) := gok_72 h (cap_le _ _)
  unfold liveQ
  split
  · next hc =>
    have h5 : c 5 i < 6 := by
      unfold canB at hc
      exact (of_decide_eq_true hc).1
    exact gok_3 (gok_5 h2 (show c 5 i + 1 ≤ 6 by omega)) (show c 3 i - 1 ≤ 20 by omega)
  · exact gok_3 h2 (cap_le _ _)
theorem live_gok {c : gCt} (h : gok c) {i : Nat} (hi : i < c 7 1) : gok (live c i) := by
  have h4 := h.2.2.2 i hi
  have hq := liveQ_gok h hi
  have hs : liveS c i ≤ 20 := cap_le _ _
  unfold live
  split
  · exact gok_4 h (by omega)
  · split
    · exact gok_6 (gok_4 hq hs) (Nat.zero_le _)
    · exact gok_4 hq hs
theorem rstF_7 (c : gCt) (s : Nat) : rstF s c 7 0 = c 7 0 ∧ rstF s c 7 1 = c 7 1 ∧ rstF s c 7 3 = c 7 3 := by
  unfold rstF
  split <;> simp [cup]
theorem rstF_gok {c : gCt} (h : gok c) (s : Nat) : gok (rstF s c) := by
  unfold rstF
  split
  · exact gok_2 h (cap_le _ _)
  · exact h
/-- a city of the same size, in range, on the same day -/
def gsame (c c1 : gCt) : Prop := c1 7 0 = c 7 0 ∧ c1 7 1 = c 7 1 ∧ c1 7 3 = c 7 3 ∧ gok c1
theorem lives_same {c : gCt} (h : gok c) (n i : Nat) (hn : i + n ≤ c 7 1) : gsame c (gfold (fun i c => live c i) n i c) := by
  refine gfold_inv (I := fun x => gsame c x) n i c ⟨rfl, rfl, rfl, h⟩ (fun j s h1 h2 hs => ?_)
  obtain ⟨a, b, d, e⟩ := hs
  obtain ⟨l1, l2, l3⟩ := live_7 s j
  exact ⟨l1.trans a, l2.trans b, l3.trans d, live_gok e (by omega)⟩
theorem rsts_same {c : gCt} (h : gok c) (n i : Nat) : gsame c (gfold rstF n i c) := by
  refine gfold_inv (I := fun x => gsame c x) n i c ⟨rfl, rfl, rfl, h⟩ (fun j s h1 h2 hs => ?_)
  obtain ⟨a, b, d, e⟩ := hs
  obtain ⟨l1, l2, l3⟩ := rstF_7 s j
  exact ⟨l1.trans a, l2.trans b, l3.trans d, rstF_gok e j⟩
theorem dayC_ok {c : gCt} (h : gok c) (hd : c 7 3 + 1 ≤ 2000) : dayC c 7 0 = c 7 0 ∧ dayC c 7 1 = c 7 1 ∧ dayC c 7 3 = c 7 3 + 1 ∧ gok (dayC c) := by
  have h1 : gok (cup c 7 3 (c 7 3 + 1)) := gok_73 h hd
  obtain ⟨a, b, d, e⟩ := lives_same h1 (c 7 1) 0 (by simp [cup])
  have a' : gfold (fun i c => live c i) (c 7 1) 0 (cup c 7 3 (c 7 3 + 1)) 7 0 = c 7 0 := a.trans (by simp [cup])
  have b' : gfold (fun i c => live c i) (c 7 1) 0 (cup c 7 3 (c 7 3 + 1)) 7 1 = c 7 1 := b.trans (by simp [cup])
  have d' : gfold (fun i c => live c i) (c 7 1) 0 (cup c 7 3 (c 7 3 + 1)) 7 3 = c 7 3 + 1 := d.trans (by simp [cup])
  unfold dayC
  dsimp only
  split
  · unfold rstU
    obtain ⟨p, q, r, s⟩ := rsts_same e (gfold (fun i c => live c i) (c 7 1) 0 (cup c 7 3 (c 7 3 + 1)) 7 0) 0
    exact ⟨p.trans a', q.trans b', r.trans d', s⟩
  · exact ⟨a', b', d', e⟩
theorem daysC_succ (n : Nat) (c : gCt) : daysC (n + 1) c = dayC (daysC n c) := by
  unfold daysC
  rw [gfold_succ]
theorem daysC_ok {c : gCt} (h : gok c) : ∀ n, c 7 3 + n ≤ 2000 → daysC n c 7 0 = c 7 0 ∧ daysC n c 7 1 = c 7 1 ∧ daysC n c 7 3 = c 7 3 + n ∧ gok (daysC n c)
  | 0, _ => ⟨rfl, rfl, rfl, h⟩
  | n + 1, hn => by
    obtain ⟨a, b, d, e⟩ := daysC_ok h n (by omega)
    rw [daysC_succ]
    obtain ⟨p, q, r, s⟩ := dayC_ok e (by omega)
    exact ⟨p.trans a, q.trans b, by omega, s⟩
theorem put_7 (c : gCt) (i s : Nat) : put c i s 7 0 = c 7 0 ∧ put c i s 7 1 = c 7 1 ∧ put c i s 7 2 = c 7 2 ∧ put c i s 7 3 = c 7 3 := by
  unfold put
  split <;> simp [cup]
theorem put_gok {c : gCt} (h : gok c) {i s : Nat} (hs : s < c 7 0) : gok (put c i s) := by
  unfold put
  split
  · exact gok_6 (gok_6 h (Nat.zero_le _)) (by simp [cup]; omega)
  · exact gok_6 h (by omega)
theorem wr_lt {c : gCt} {s k : Nat} (h : wr c s = some k) : k < c 7 1 ∧ c 6 k = s + 1 := by
  have := gfind_some h
  exact ⟨by omega, by simpa using this.2.2⟩
/-! ===== numbers of the code ===== -/
theorem covL : ∀ k, k < 6 → ∀ f, f < 10 → ∀ r, r < 10 → (if 0 ≤ (if 0 ≤ nI f + nI 4 - nI r then nI f + nI 4 - nI r else nI 0) * gtab 101 k / nI 2 + gtab 102 k then (if 0 ≤ nI f + nI 4 - nI r then nI f + nI 4 - nI r else nI 0) * gtab 101 k / nI 2 + gtab 102 k else nI 0) = nI (covN k f r) := by decide +kernel
theorem tabE {q k : Nat} (hk : k < 6) : vp_in (nI k) 6 ∧ gtab q (nI k).toNatClampNeg = gtab q k := ⟨vp_in_nI hk (by decide), by rw [nI_clamp (by omega)]⟩
theorem tabP {k : Nat} (hk : k < 6) : vp_in (nI k) 6 ∧ gtab 100 (nI k).toNatClampNeg = nI (priN k) := by
  refine ⟨vp_in_nI hk (by decide), ?_⟩
  rw [nI_clamp (by omega)]
  exact (show ∀ k, k < 6 → gtab 100 k = nI (priN k) by decide +kernel) k hk
theorem chaL : ∀ k, k < 6 → (k = 4 → gtab 103 k = nI 3) ∧ (k = 5 → gtab 103 k = nI 1) ∧ (¬ k = 4 → ¬ k = 5 → ∀ r, r < 10 → ∀ d, d < 3 → gtab 103 k = nI (chaN k r d)) := by decide +kernel
def neI (c : gCt) (i : Nat) : Int32 := nI 2 * nI (c 5 i) + nI 2 - nI 6
theorem canB_lt {c : gCt} {i cov : Nat} (h5 : c 5 i < 6) (h3 : c 3 i ≤ 20) (h4 : c 4 i ≤ 20) (hc : cov ≤ 31) : brI c i cov < neI c i ↔ canB c i cov = false := by
  unfold brI neI canB
  rw [nI_z, nI_z, nI_z, nI_z, nI_z, nI_z, zI_add, zI_sub, zI_sub, zI_mul, zI_add, zI_sub, zI_lt (by omega) (by omega)]
  simp
  omega
def lkN (c : gCt) (i : Nat) : Nat := if 6 ≤ c 5 i then 0 else 2 * c 5 i + c 3 i + c 4 i / 3 - (covOf c i + c 5 i + 4)
theorem lkN_eq {c : gCt} {i : Nat} (h5 : c 5 i < 6) (h3 : c 3 i ≤ 20) (h4 : c 4 i ≤ 20) (hc : covOf c i ≤ 31) : (if neI c i - brI c i (covOf c i) < nI 0 then nI 0 else neI c i - brI c i (covOf c i)) = nI (lkN c i) := by
  have e : neI c i - brI c i (covOf c i) = zI (2 * (c 5 i : Int) + 2 - 6 - ((covOf c i : Int) + c 5 i - c 3 i - (c 4 i / 3 : Nat))) := by
    unfold brI neI
    rw [nI_z, nI_z, nI_z, nI_z, nI_z, nI_z, zI_add, zI_sub, zI_sub, zI_mul, zI_add, zI_sub, zI_sub]
    rfl
  rw [e, nI_z 0]
  have hl : lkN c i = 2 * c 5 i + c 3 i + c 4 i / 3 - (covOf c i + c 5 i + 4) := by unfold lkN; exact if_neg (by omega)
  rw [hl]
  split
  · next q =>
    have q := (zI_lt (by omega) (by omega)).mp q
    rw [show 2 * c 5 i + c 3 i + c 4 i / 3 - (covOf c i + c 5 i + 4) = 0 by omega]
    rfl
  · next q =>
    have q : ¬ (2 * (c 5 i : Int) + 2 - 6 - ((covOf c i : Int) + c 5 i - c 3 i - (c 4 i / 3 : Nat)) < (0 : Nat)) := fun z => q ((zI_lt (by omega) (by omega)).mpr z)
    rw [nI_z]
    congr 1
    omega
theorem oI_none {o : Option Nat} (h : ∀ k, o = some k → k < 2147483648) : oI o = -9 ↔ o = none := by
  cases o with
  | none => simp [oI]
  | some k =>
    have hk := h k rfl
    simp only [oI]
    rw [nI_z, show (-9 : Int32) = zI (-9) by decide, zI_eq (by omega) (by omega)]
    constructor
    · intro q; omega
    · intro q; cases q
theorem wr_9 {c : gCt} {s : Nat} (h : c 7 1 ≤ 5) : oI (wr c s) = -9 ↔ wr c s = none := oI_none fun k hk => by have := (wr_lt hk).1; omega
theorem canB_6 {c : gCt} {i cov : Nat} (h : canB c i cov = true) : c 5 i < 6 := by
  unfold canB at h
  exact (of_decide_eq_true h).1
theorem rainF_same {c : gCt} (h : gok c) (n i : Nat) : gsame c (gfold (fun s c => cup c 2 s (cap (c 2 s + 1) 9)) n i c) := by
  refine gfold_inv (I := fun x => gsame c x) n i c ⟨rfl, rfl, rfl, h⟩ (fun j s h1 h2 hs => ?_)
  obtain ⟨a, b, d, e⟩ := hs
  exact ⟨by simpa [cup] using a, by simpa [cup] using b, by simpa [cup] using d, gok_2 e (cap_le _ _)⟩
end
section
set_option maxRecDepth 100000 in
set_option maxHeartbeats 4000000 in
theorem c_X0_copyFrom_9_1 {g : gG} {c : gCt} (hR : Rx1 g c) : gCv mX0_copyFrom [.ref 9, .ref 1] g (fun g1 => Rx9 g1 c ∧ frm 9 17 g g1) := by
  refine gCv_of (own := RX0) (ls0 := [.ref 9, .ref 1]) ⟨rfl, pl_X0⟩ rfl (Nat.le_of_ble_eq_true rfl) (fun G (h : gR RX0 cX0_copyFrom 1 40 G) (t : gTv cX0_copyFrom _ G) => ?_)
  have e6 : (nI 6).toNatClampNeg = 6 := by decide
  have e5 : (nI 5).toNatClampNeg = 5 := by decide
  refine r_aload_n (pc := 0) h dX0_copyFrom_0 rfl ?_
  refine r_getR (pc := 1) h dX0_copyFrom_1 f_X0_9 sh_1 rfl ?_
  refine r_iconst (pc := 4) h dX0_copyFrom_4 ci_0 ?_
  refine r_aload_n (pc := 5) h dX0_copyFrom_5 rfl ?_
  refine r_getR (pc := 6) h dX0_copyFrom_6 f_X0_9 sh_9 rfl ?_
  refine r_iconst (pc := 9) h dX0_copyFrom_9 ci_0 ?_
  refine r_bipush (pc := 10) h dX0_copyFrom_10 cb_6 ?_
  refine r_acopy (pc := 12) h dX0_copyFrom_12 k_X0_46 sh_2 sh_10 (by decide) ⟨Nat.le_of_ble_eq_true rfl, Nat.le_of_ble_eq_true rfl⟩ ?_
  refine r_aload_n (pc := 15) h dX0_copyFrom_15 rfl ?_
  refine r_getR (pc := 16) h dX0_copyFrom_16 f_X0_15 sh_1 rfl ?_
  refine r_iconst (pc := 19) h dX0_copyFrom_19 ci_0 ?_
  refine r_aload_n (pc := 20) h dX0_copyFrom_20 rfl ?_
  refine r_getR (pc := 21) h dX0_copyFrom_21 f_X0_15 sh_9 rfl ?_
  refine r_iconst (pc := 24) h dX0_copyFrom_24 ci_0 ?_
  refine r_bipush (pc := 25) h dX0_copyFrom_25 cb_6 ?_
  refine r_acopy (pc := 27) h dX0_copyFrom_27 k_X0_46 sh_3 sh_11 (by decide) ⟨Nat.le_of_ble_eq_true rfl, Nat.le_of_ble_eq_true rfl⟩ ?_
  refine r_aload_n (pc := 30) h dX0_copyFrom_30 rfl ?_
  refine r_getR (pc := 31) h dX0_copyFrom_31 f_X0_18 sh_1 rfl ?_
  refine r_iconst (pc := 34) h dX0_copyFrom_34 ci_0 ?_
  refine r_aload_n (pc := 35) h dX0_copyFrom_35 rfl ?_
  refine r_getR (pc := 36) h dX0_copyFrom_36 f_X0_18 sh_9 rfl ?_
  refine r_iconst (pc := 39) h dX0_copyFrom_39 ci_0 ?_
  refine r_bipush (pc := 40) h dX0_copyFrom_40 cb_6 ?_
  refine r_acopy (pc := 42) h dX0_copyFrom_42 k_X0_46 sh_4 sh_12 (by decide) ⟨Nat.le_of_ble_eq_true rfl, Nat.le_of_ble_eq_true rfl⟩ ?_
  refine r_aload_n (pc := 45) h dX0_copyFrom_45 rfl ?_
  refine r_getR (pc := 46) h dX0_copyFrom_46 f_X0_21 sh_1 rfl ?_
  refine r_iconst (pc := 49) h dX0_copyFrom_49 ci_0 ?_
  refine r_aload_n (pc := 50) h dX0_copyFrom_50 rfl ?_
  refine r_getR (pc := 51) h dX0_copyFrom_51 f_X0_21 sh_9 rfl ?_
  refine r_iconst (pc := 54) h dX0_copyFrom_54 ci_0 ?_
  refine r_iconst (pc := 55) h dX0_copyFrom_55 ci_5 ?_
  refine r_acopy (pc := 56) h dX0_copyFrom_56 k_X0_46 sh_5 sh_13 (by decide) ⟨Nat.le_of_ble_eq_true rfl, Nat.le_of_ble_eq_true rfl⟩ ?_
  refine r_aload_n (pc := 59) h dX0_copyFrom_59 rfl ?_
  refine r_getR (pc := 60) h dX0_copyFrom_60 f_X0_24 sh_1 rfl ?_
  refine r_iconst (pc := 63) h dX0_copyFrom_63 ci_0 ?_
  refine r_aload_n (pc := 64) h dX0_copyFrom_64 rfl ?_
  refine r_getR (pc := 65) h dX0_copyFrom_65 f_X0_24 sh_9 rfl ?_
  refine r_iconst (pc := 68) h dX0_copyFrom_68 ci_0 ?_
  refine r_iconst (pc := 69) h dX0_copyFrom_69 ci_5 ?_
  refine r_acopy (pc := 70) h dX0_copyFrom_70 k_X0_46 sh_6 sh_14 (by decide) ⟨Nat.le_of_ble_eq_true rfl, Nat.le_of_ble_eq_true rfl⟩ ?_
  refine r_aload_n (pc := 73) h dX0_copyFrom_73 rfl ?_
  refine r_getR (pc := 74) h dX0_copyFrom_74 f_X0_27 sh_1 rfl ?_
  refine r_iconst (pc := 77) h dX0_copyFrom_77 ci_0 ?_
  refine r_aload_n (pc := 78) h dX0_copyFrom_78 rfl ?_
  refine r_getR (pc := 79) h dX0_copyFrom_79 f_X0_27 sh_9 rfl ?_
  refine r_iconst (pc := 82) h dX0_copyFrom_82 ci_0 ?_
  refine r_iconst (pc := 83) h dX0_copyFrom_83 ci_5 ?_
  refine r_acopy (pc := 84) h dX0_copyFrom_84 k_X0_46 sh_7 sh_15 (by decide) ⟨Nat.le_of_ble_eq_true rfl, Nat.le_of_ble_eq_true rfl⟩ ?_
  refine r_aload_n (pc := 87) h dX0_copyFrom_87 rfl ?_
  refine r_getR (pc := 88) h dX0_copyFrom_88 f_X0_30 sh_1 rfl ?_
  refine r_iconst (pc := 91) h dX0_copyFrom_91 ci_0 ?_
  refine r_aload_n (pc := 92) h dX0_copyFrom_92 rfl ?_
  refine r_getR (pc := 93) h dX0_copyFrom_93 f_X0_30 sh_9 rfl ?_
  refine r_iconst (pc := 96) h dX0_copyFrom_96 ci_0 ?_
  refine r_iconst (pc := 97) h dX0_copyFrom_97 ci_5 ?_
  refine r_acopy (pc := 98) h dX0_copyFrom_98 k_X0_46 sh_8 sh_16 (by decide) ⟨Nat.le_of_ble_eq_true rfl, Nat.le_of_ble_eq_true rfl⟩ ?_
  refine r_aload_n (pc := 101) h dX0_copyFrom_101 rfl ?_
  refine r_aload_n (pc := 102) h dX0_copyFrom_102 rfl ?_
  refine r_getI (pc := 103) h dX0_copyFrom_103 f_X0_33 sh_1 rfl ?_
  refine r_putI (pc := 106) h dX0_copyFrom_106 fw_X0_33 sh_9 rfl rfl rfl ?_
  refine r_aload_n (pc := 109) h dX0_copyFrom_109 rfl ?_
  refine r_aload_n (pc := 110) h dX0_copyFrom_110 rfl ?_
  refine r_getI (pc := 111) h dX0_copyFrom_111 f_X0_37 sh_1 rfl ?_
  refine r_putI (pc := 114) h dX0_copyFrom_114 fw_X0_37 sh_9 rfl rfl rfl ?_
  refine r_aload_n (pc := 117) h dX0_copyFrom_117 rfl ?_
  refine r_aload_n (pc := 118) h dX0_copyFrom_118 rfl ?_
  refine r_getI (pc := 119) h dX0_copyFrom_119 f_X0_40 sh_1 rfl ?_
  refine r_putI (pc := 122) h dX0_copyFrom_122 fw_X0_40 sh_9 rfl rfl rfl ?_
  refine r_aload_n (pc := 125) h dX0_copyFrom_125 rfl ?_
  refine r_aload_n (pc := 126) h dX0_copyFrom_126 rfl ?_
  refine r_getI (pc := 127) h dX0_copyFrom_127 f_X0_43 sh_1 rfl ?_
  refine r_putI (pc := 130) h dX0_copyFrom_130 fw_X0_43 sh_9 rfl rfl rfl ?_
  refine r_rv t (pc := 133) dX0_copyFrom_133 ?_
  obtain ⟨⟨h1, h2, h3, h4⟩, h5, h6, h7⟩ := hR
  refine ⟨⟨⟨?_, ?_, ?_, ?_⟩, h5, fun j hj => ?_, fun j hj => ?_⟩, fun k hk => ?_⟩
  · simp [gup, gcp, h1]
  · simp [gup, gcp, h2]
  · simp [gup, gcp, h3]
  · simp [gup, gcp, h4]
  · obtain ⟨a, b, e⟩ := h6 j hj
    have hj6 : j < 6 := by have := h5.1; omega
    simp [gup, gcp, a, b, e, e6, hj6]
  · obtain ⟨a, b, e, f⟩ := h7 j hj
    have hj5 : j < 5 := by have := h5.2; omega
    simp [gup, gcp, a, b, e, f, e5, hj5]
  · funext j
    have n0 : ∀ q, 9 ≤ q → q < 17 → k ≠ q := fun q _ _ => by omega
    simp [gup, gcp, n0]
set_option maxRecDepth 100000 in
set_option maxHeartbeats 4000000 in
theorem c_X0_copyFrom_1_9 {g : gG} {c : gCt} (hR : Rx9 g c) : gCv mX0_copyFrom [.ref 1, .ref 9] g (fun g1 => Rx1 g1 c ∧ frm 1 9 g g1) := by
  refine gCv_of (own := RX0) (ls0 := [.ref 1, .ref 9]) ⟨rfl, pl_X0⟩ rfl (Nat.le_of_ble_eq_true rfl) (fun G (h : gR RX0 cX0_copyFrom 1 40 G) (t : gTv cX0_copyFrom _ G) => ?_)
  have e6 : (nI 6).toNatClampNeg = 6 := by decide
  have e5 : (nI 5).toNatClampNeg = 5 := by decide
  refine r_aload_n (pc := 0) h dX0_copyFrom_0 rfl ?_
  refine r_getR (pc := 1) h dX0_copyFrom_1 f_X0_9 sh_9 rfl ?_
  refine r_iconst (pc := 4) h dX0_copyFrom_4 ci_0 ?_
  refine r_aload_n (pc := 5) h dX0_copyFrom_5 rfl ?_
  refine r_getR (pc := 6) h dX0_copyFrom_6 f_X0_9 sh_1 rfl ?_
  refine r_iconst (pc := 9) h dX0_copyFrom_9 ci_0 ?_
  refine r_bipush (pc := 10) h dX0_copyFrom_10 cb_6 ?_
  refine r_acopy (pc := 12) h dX0_copyFrom_12 k_X0_46 sh_10 sh_2 (by decide) ⟨Nat.le_of_ble_eq_true rfl, Nat.le_of_ble_eq_true rfl⟩ ?_
  refine r_aload_n (pc := 15) h dX0_copyFrom_15 rfl ?_
  refine r_getR (pc := 16) h dX0_copyFrom_16 f_X0_15 sh_9 rfl ?_
  refine r_iconst (pc := 19) h dX0_copyFrom_19 ci_0 ?_
  refine r_aload_n (pc := 20) h dX0_copyFrom_20 rfl ?_
  refine r_getR (pc := 21) h dX0_copyFrom_21 f_X0_15 sh_1 rfl ?_
  refine r_iconst (pc := 24) h dX0_copyFrom_24 ci_0 ?_
  refine r_bipush (pc := 25) h dX0_copyFrom_25 cb_6 ?_
  refine r_acopy (pc := 27) h dX0_copyFrom_27 k_X0_46 sh_11 sh_3 (by decide) ⟨Nat.le_of_ble_eq_true rfl, Nat.le_of_ble_eq_true rfl⟩ ?_
  refine r_aload_n (pc := 30) h dX0_copyFrom_30 rfl ?_
  refine r_getR (pc := 31) h dX0_copyFrom_31 f_X0_18 sh_9 rfl ?_
  refine r_iconst (pc := 34) h dX0_copyFrom_34 ci_0 ?_
  refine r_aload_n (pc := 35) h dX0_copyFrom_35 rfl ?_
  refine r_getR (pc := 36) h dX0_copyFrom_36 f_X0_18 sh_1 rfl ?_
  refine r_iconst (pc := 39) h dX0_copyFrom_39 ci_0 ?_
  refine r_bipush (pc := 40) h dX0_copyFrom_40 cb_6 ?_
  refine r_acopy (pc := 42) h dX0_copyFrom_42 k_X0_46 sh_12 sh_4 (by decide) ⟨Nat.le_of_ble_eq_true rfl, Nat.le_of_ble_eq_true rfl⟩ ?_
  refine r_aload_n (pc := 45) h dX0_copyFrom_45 rfl ?_
  refine r_getR (pc := 46) h dX0_copyFrom_46 f_X0_21 sh_9 rfl ?_
  refine r_iconst (pc := 49) h dX0_copyFrom_49 ci_0 ?_
  refine r_aload_n (pc := 50) h dX0_copyFrom_50 rfl ?_
  refine r_getR (pc := 51) h dX0_copyFrom_51 f_X0_21 sh_1 rfl ?_
  refine r_iconst (pc := 54) h dX0_copyFrom_54 ci_0 ?_
  refine r_iconst (pc := 55) h dX0_copyFrom_55 ci_5 ?_
  refine r_acopy (pc := 56) h dX0_copyFrom_56 k_X0_46 sh_13 sh_5 (by decide) ⟨Nat.le_of_ble_eq_true rfl, Nat.le_of_ble_eq_true rfl⟩ ?_
  refine r_aload_n (pc := 59) h dX0_copyFrom_59 rfl ?_
  refine r_getR (pc := 60) h dX0_copyFrom_60 f_X0_24 sh_9 rfl ?_
  refine r_iconst (pc := 63) h dX0_copyFrom_63 ci_0 ?_
  refine r_aload_n (pc := 64) h dX0_copyFrom_64 rfl ?_
  refine r_getR (pc := 65) h dX0_copyFrom_65 f_X0_24 sh_1 rfl ?_
  refine r_iconst (pc := 68) h dX0_copyFrom_68 ci_0 ?_
  refine r_iconst (pc := 69) h dX0_copyFrom_69 ci_5 ?_
  refine r_acopy (pc := 70) h dX0_copyFrom_70 k_X0_46 sh_14 sh_6 (by decide) ⟨Nat.le_of_ble_eq_true rfl, Nat.le_of_ble_eq_true rfl⟩ ?_
  refine r_aload_n (pc := 73) h dX0_copyFrom_73 rfl ?_
  refine r_getR (pc := 74) h dX0_copyFrom_74 f_X0_27 sh_9 rfl ?_
  refine r_iconst (pc := 77) h dX0_copyFrom_77 ci_0 ?_
  refine r_aload_n (pc := 78) h dX0_copyFrom_78 rfl ?_
  refine r_getR (pc := 79) h dX0_copyFrom_79 f_X0_27 sh_1 rfl ?_
  refine r_iconst (pc := 82) h dX0_copyFrom_82 ci_0 ?_
  refine r_iconst (pc := 83) h dX0_copyFrom_83 ci_5 ?_
  refine r_acopy (pc := 84) h dX0_copyFrom_84 k_X0_46 sh_15 sh_7 (by decide) ⟨Nat.le_of_ble_eq_true rfl, Nat.le_of_ble_eq_true rfl⟩ ?_
  refine r_aload_n (pc := 87) h dX0_copyFrom_87 rfl ?_
  refine r_getR (pc := 88) h dX0_copyFrom_88 f_X0_30 sh_9 rfl ?_
  refine r_iconst (pc := 91) h dX0_copyFrom_91 ci_0 ?_
  refine r_aload_n (pc := 92) h dX0_copyFrom_92 rfl ?_
  refine r_getR (pc := 93) h dX0_copyFrom_93 f_X0_30 sh_1 rfl ?_
  refine r_iconst (pc := 96) h dX0_copyFrom_96 ci_0 ?_
  refine r_iconst (pc := 97) h dX0_copyFrom_97 ci_5 ?_
  refine r_acopy (pc := 98) h dX0_copyFrom_98 k_X0_46 sh_16 sh_8 (by decide) ⟨Nat.le_of_ble_eq_true rfl, Nat.le_of_ble_eq_true rfl⟩ ?_
  refine r_aload_n (pc := 101) h dX0_copyFrom_101 rfl ?_
  refine r_aload_n (pc := 102) h dX0_copyFrom_102 rfl ?_
  refine r_getI (pc := 103) h dX0_copyFrom_103 f_X0_33 sh_9 rfl ?_
  refine r_putI (pc := 106) h dX0_copyFrom_106 fw_X0_33 sh_1 rfl rfl rfl ?_
  refine r_aload_n (pc := 109) h dX0_copyFrom_109 rfl ?_
  refine r_aload_n (pc := 110) h dX0_copyFrom_110 rfl ?_
  refine r_getI (pc := 111) h dX0_copyFrom_111 f_X0_37 sh_9 rfl ?_
  refine r_putI (pc := 114) h dX0_copyFrom_114 fw_X0_37 sh_1 rfl rfl rfl ?_
  refine r_aload_n (pc := 117) h dX0_copyFrom_117 rfl ?_
  refine r_aload_n (pc := 118) h dX0_copyFrom_118 rfl ?_
  refine r_getI (pc := 119) h dX0_copyFrom_119 f_X0_40 sh_9 rfl ?_
  refine r_putI (pc := 122) h dX0_copyFrom_122 fw_X0_40 sh_1 rfl rfl rfl ?_
  refine r_aload_n (pc := 125) h dX0_copyFrom_125 rfl ?_
  refine r_aload_n (pc := 126) h dX0_copyFrom_126 rfl ?_
  refine r_getI (pc := 127) h dX0_copyFrom_127 f_X0_43 sh_9 rfl ?_
  refine r_putI (pc := 130) h dX0_copyFrom_130 fw_X0_43 sh_1 rfl rfl rfl ?_
  refine r_rv t (pc := 133) dX0_copyFrom_133 ?_
  obtain ⟨⟨h1, h2, h3, h4⟩, h5, h6, h7⟩ := hR
  refine ⟨⟨⟨?_, ?_, ?_, ?_⟩, h5, fun j hj => ?_, fun j hj => ?_⟩, fun k hk => ?_⟩
  · simp [gup, gcp, h1]
  · simp [gup, gcp, h2]
  · simp [gup, gcp, h3]
  · simp [gup, gcp, h4]
  · obtain ⟨a, b, e⟩ := h6 j hj
    have hj6 : j < 6 := by have := h5.1; omega
    simp [gup, gcp, a, b, e, e6, hj6]
  · obtain ⟨a, b, e, f⟩ := h7 j hj
    have hj5 : j < 5 := by have := h5.2; omega
    simp [gup, gcp, a, b, e, f, e5, hj5]
  · funext j
    have n0 : ∀ q, 1 ≤ q → q < 9 → k ≠ q := fun q _ _ => by omega
    simp [gup, gcp, n0]
set_option maxRecDepth 100000 in
set_option maxHeartbeats 4000000 in
theorem c_X0_copyFrom_17_1 {g : gG} {c : gCt} (hR : Rx1 g c) : gCv mX0_copyFrom [.ref 17, .ref 1] g (fun g1 => Rx17 g1 c ∧ frm 17 25 g g1) := by
  refine gCv_of (own := RX0) (ls0 := [.ref 17, .ref 1]) ⟨rfl, pl_X0⟩ rfl (Nat.le_of_ble_eq_true rfl) (fun G (h : gR RX0 cX0_copyFrom 1 40 G) (t : gTv cX0_copyFrom _ G) => ?_)
  have e6 : (nI 6).toNatClampNeg = 6 := by decide
  have e5 : (nI 5).toNatClampNeg = 5 := by decide
  refine r_aload_n (pc := 0) h dX0_copyFrom_0 rfl ?_
  refine r_getR (pc := 1) h dX0_copyFrom_1 f_X0_9 sh_1 rfl ?_
  refine r_iconst (pc := 4) h dX0_copyFrom_4 ci_0 ?_
  refine r_aload_n (pc := 5) h dX0_copyFrom_5 rfl ?_
  refine r_getR (pc := 6) h dX0_copyFrom_6 f_X0_9 sh_17 rfl ?_
  refine r_iconst (pc := 9) h dX0_copyFrom_9 ci_0 ?_
  refine r_bipush (pc := 10) h dX0_copyFrom_10 cb_6 ?_
  refine r_acopy (pc := 12) h dX0_copyFrom_12 k_X0_46 sh_2 sh_18 (by decide) ⟨Nat.le_of_ble_eq_true rfl, Nat.le_of_ble_eq_true rfl⟩ ?_
  refine r_aload_n (pc := 15) h dX0_copyFrom_15 rfl ?_
  refine r_getR (pc := 16) h dX0_copyFrom_16 f_X0_15 sh_1 rfl ?_
  refine r_iconst (pc := 19) h dX0_copyFrom_19 ci_0 ?_
  refine r_aload_n (pc := 20) h dX0_copyFrom_20 rfl ?_
  refine r_getR (pc := 21) h dX0_copyFrom_21 f_X0_15 sh_17 rfl ?_
  refine r_iconst (pc := 24) h dX0_copyFrom_24 ci_0 ?_
  refine r_bipush (pc := 25) h dX0_copyFrom_25 cb_6 ?_
  refine r_acopy (pc := 27) h dX0_copyFrom_27 k_X0_46 sh_3 sh_19 (by decide) ⟨Nat.le_of_ble_eq_true rfl, Nat.le_of_ble_eq_true rfl⟩ ?_
  refine r_aload_n (pc := 30) h dX0_copyFrom_30 rfl ?_
  refine r_getR (pc := 31) h dX0_copyFrom_31 f_X0_18 sh_1 rfl ?_
  refine r_iconst (pc := 34) h dX0_copyFrom_34 ci_0 ?_
  refine r_aload_n (pc := 35) h dX0_copyFrom_35 rfl ?_
  refine r_getR (pc := 36) h dX0_copyFrom_36 f_X0_18 sh_17 rfl ?_
  refine r_iconst (pc := 39) h dX0_copyFrom_39 ci_0 ?_
  refine r_bipush (pc := 40) h dX0_copyFrom_40 cb_6 ?_
  refine r_acopy (pc := 42) h dX0_copyFrom_42 k_X0_46 sh_4 sh_20 (by decide) ⟨Nat.le_of_ble_eq_true rfl, Nat.le_of_ble_eq_true rfl⟩ ?_
  refine r_aload_n (pc := 45) h dX0_copyFrom_45 rfl ?_
  refine r_getR (pc := 46) h dX0_copyFrom_46 f_X0_21 sh_1 rfl ?_
  refine r_iconst (pc := 49) h dX0_copyFrom_49 ci_0 ?_
  refine r_aload_n (pc := 50) h dX0_copyFrom_50 rfl ?_
  refine r_getR (pc := 51) h dX0_copyFrom_51 f_X0_21 sh_17 rfl ?_
  refine r_iconst (pc := 54) h dX0_copyFrom_54 ci_0 ?_
  refine r_iconst (pc := 55) h dX0_copyFrom_55 ci_5 ?_
  refine r_acopy (pc := 56) h dX0_copyFrom_56 k_X0_46 sh_5 sh_21 (by decide) ⟨Nat.le_of_ble_eq_true rfl, Nat.le_of_ble_eq_true rfl⟩ ?_
  refine r_aload_n (pc := 59) h dX0_copyFrom_59 rfl ?_
  refine r_getR (pc := 60) h dX0_copyFrom_60 f_X0_24 sh_1 rfl ?_
  refine r_iconst (pc := 63) h dX0_copyFrom_63 ci_0 ?_
  refine r_aload_n (pc := 64) h dX0_copyFrom_64 rfl ?_
  refine r_getR (pc := 65) h dX0_copyFrom_65 f_X0_24 sh_17 rfl ?_
  refine r_iconst (pc := 68) h dX0_copyFrom_68 ci_0 ?_
  refine r_iconst (pc := 69) h dX0_copyFrom_69 ci_5 ?_
  refine r_acopy (pc := 70) h dX0_copyFrom_70 k_X0_46 sh_6 sh_22 (by decide) ⟨Nat.le_of_ble_eq_true rfl, Nat.le_of_ble_eq_true rfl⟩ ?_
  refine r_aload_n (pc := 73) h dX0_copyFrom_73 rfl ?_
  refine r_getR (pc := 74) h dX0_copyFrom_74 f_X0_27 sh_1 rfl ?_
  refine r_iconst (pc := 77) h dX0_copyFrom_77 ci_0 ?_
  refine r_aload_n (pc := 78) h dX0_copyFrom_78 rfl ?_
  refine r_getR (pc := 79) h dX0_copyFrom_79 f_X0_27 sh_17 rfl ?_
  refine r_iconst (pc := 82) h dX0_copyFrom_82 ci_0 ?_
  refine r_iconst (pc := 83) h dX0_copyFrom_83 ci_5 ?_
  refine r_acopy (pc := 84) h dX0_copyFrom_84 k_X0_46 sh_7 sh_23 (by decide) ⟨Nat.le_of_ble_eq_true rfl, Nat.le_of_ble_eq_true rfl⟩ ?_
  refine r_aload_n (pc := 87) h dX0_copyFrom_87 rfl ?_
  refine r_getR (pc := 88) h dX0_copyFrom_88 f_X0_30 sh_1 rfl ?_
  refine r_iconst (pc := 91) h dX0_copyFrom_91 ci_0 ?_
  refine r_aload_n (pc := 92) h dX0_copyFrom_92 rfl ?_
  refine r_getR (pc := 93) h dX0_copyFrom_93 f_X0_30 sh_17 rfl ?_
  refine r_iconst (pc := 96) h dX0_copyFrom_96 ci_0 ?_
  refine r_iconst (pc := 97) h dX0_copyFrom_97 ci_5 ?_
  refine r_acopy (pc := 98) h dX0_copyFrom_98 k_X0_46 sh_8 sh_24 (by decide) ⟨Nat.le_of_ble_eq_true rfl, Nat.le_of_ble_eq_true rfl⟩ ?_
  refine r_aload_n (pc := 101) h dX0_copyFrom_101 rfl ?_
  refine r_aload_n (pc := 102) h dX0_copyFrom_102 rfl ?_
  refine r_getI (pc := 103) h dX0_copyFrom_103 f_X0_33 sh_1 rfl ?_
  refine r_putI (pc := 106) h dX0_copyFrom_106 fw_X0_33 sh_17 rfl rfl rfl ?_
  refine r_aload_n (pc := 109) h dX0_copyFrom_109 rfl ?_
  refine r_aload_n (pc := 110) h dX0_copyFrom_110 rfl ?_
  refine r_getI (pc := 111) h dX0_copyFrom_111 f_X0_37 sh_1 rfl ?_
  refine r_putI (pc := 114) h dX0_copyFrom_114 fw_X0_37 sh_17 rfl rfl rfl ?_
  refine r_aload_n (pc := 117) h dX0_copyFrom_117 rfl ?_
  refine r_aload_n (pc := 118) h dX0_copyFrom_118 rfl ?_
  refine r_getI (pc := 119) h dX0_copyFrom_119 f_X0_40 sh_1 rfl ?_
  refine r_putI (pc := 122) h dX0_copyFrom_122 fw_X0_40 sh_17 rfl rfl rfl ?_
  refine r_aload_n (pc := 125) h dX0_copyFrom_125 rfl ?_
  refine r_aload_n (pc := 126) h dX0_copyFrom_126 rfl ?_
  refine r_getI (pc := 127) h dX0_copyFrom_127 f_X0_43 sh_1 rfl ?_
  refine r_putI (pc := 130) h dX0_copyFrom_130 fw_X0_43 sh_17 rfl rfl rfl ?_
  refine r_rv t (pc := 133) dX0_copyFrom_133 ?_
  obtain ⟨⟨h1, h2, h3, h4⟩, h5, h6, h7⟩ := hR
  refine ⟨⟨⟨?_, ?_, ?_, ?_⟩, h5, fun j hj => ?_, fun j hj => ?_⟩, fun k hk => ?_⟩
  · simp [gup, gcp, h1]
  · simp [gup, gcp, h2]
  · simp [gup, gcp, h3]
  · simp [gup, gcp, h4]
  · obtain ⟨a, b, e⟩ := h6 j hj
    have hj6 : j < 6 := by have := h5.1; omega
    simp [gup, gcp, a, b, e, e6, hj6]
  · obtain ⟨a, b, e, f⟩ := h7 j hj
    have hj5 : j < 5 := by have := h5.2; omega
    simp [gup, gcp, a, b, e, f, e5, hj5]
  · funext j
    have n0 : ∀ q, 17 ≤ q → q < 25 → k ≠ q := fun q _ _ => by omega
    simp [gup, gcp, n0]
set_option maxRecDepth 100000 in
set_option maxHeartbeats 4000000 in
theorem c_X0_copyFrom_1_17 {g : gG} {c : gCt} (hR : Rx17 g c) : gCv mX0_copyFrom [.ref 1, .ref 17] g (fun g1 => Rx1 g1 c ∧ frm 1 9 g g1) := by
  refine gCv_of (own := RX0) (ls0 := [.ref 1, .ref 17]) ⟨rfl, pl_X0⟩ rfl (Nat.le_of_ble_eq_true rfl) (fun G (h : gR RX0 cX0_copyFrom 1 40 G) (t : gTv cX0_copyFrom _ G) => ?_)
  have e6 : (nI 6).toNatClampNeg = 6 := by decide
  have e5 : (nI 5).toNatClampNeg = 5 := by decide
  refine r_aload_n (pc := 0) h dX0_copyFrom_0 rfl ?_
  refine r_getR (pc := 1) h dX0_copyFrom_1 f_X0_9 sh_17 rfl ?_
  refine r_iconst (pc := 4) h dX0_copyFrom_4 ci_0 ?_
  refine r_aload_n (pc := 5) h dX0_copyFrom_5 rfl ?_
  refine r_getR (pc := 6) h dX0_copyFrom_6 f_X0_9 sh_1 rfl ?_
  refine r_iconst (pc := 9) h dX0_copyFrom_9 ci_0 ?_
  refine r_bipush (pc := 10) h dX0_copyFrom_10 cb_6 ?_
  refine r_acopy (pc := 12) h dX0_copyFrom_12 k_X0_46 sh_18 sh_2 (by decide) ⟨Nat.le_of_ble_eq_true rfl, Nat.le_of_ble_eq_true rfl⟩ ?_
  refine r_aload_n (pc := 15) h dX0_copyFrom_15 rfl ?_
  refine r_getR (pc := 16) h dX0_copyFrom_16 f_X0_15 sh_17 rfl ?_
  refine r_iconst (pc := 19) h dX0_copyFrom_19 ci_0 ?_
  refine r_aload_n (pc := 20) h dX0_copyFrom_20 rfl ?_
  refine r_getR (pc := 21) h dX0_copyFrom_21 f_X0_15 sh_1 rfl ?_
  refine r_iconst (pc := 24) h dX0_copyFrom_24 ci_0 ?_
  refine r_bipush (pc := 25) h dX0_copyFrom_25 cb_6 ?_
  refine r_acopy (pc := 27) h dX0_copyFrom_27 k_X0_46 sh_19 sh_3 (by decide) ⟨Nat.le_of_ble_eq_true rfl, Nat.le_of_ble_eq_true rfl⟩ ?_
  refine r_aload_n (pc := 30) h dX0_copyFrom_30 rfl ?_
  refine r_getR (pc := 31) h dX0_copyFrom_31 f_X0_18 sh_17 rfl ?_
  refine r_iconst (pc := 34) h dX0_copyFrom_34 ci_0 ?_
  refine r_aload_n (pc := 35) h dX0_copyFrom_35 rfl ?_
  refine r_getR (pc := 36) h dX0_copyFrom_36 f_X0_18 sh_1 rfl ?_
  refine r_iconst (pc := 39) h dX0_copyFrom_39 ci_0 ?_
  refine r_bipush (pc := 40) h dX0_copyFrom_40 cb_6 ?_
  refine r_acopy (pc := 42) h dX0_copyFrom_42 k_X0_46 sh_20 sh_4 (by decide) ⟨Nat.le_of_ble_eq_true rfl, Nat.le_of_ble_eq_true rfl⟩ ?_
  refine r_aload_n (pc := 45) h dX0_copyFrom_45 rfl ?_
  refine r_getR (pc := 46) h dX0_copyFrom_46 f_X0_21 sh_17 rfl ?_
  refine r_iconst (pc := 49) h dX0_copyFrom_49 ci_0 ?_
  refine r_aload_n (pc := 50) h dX0_copyFrom_50 rfl ?_
  refine r_getR (pc := 51) h dX0_copyFrom_51 f_X0_21 sh_1 rfl ?_
  refine r_iconst (pc := 54) h dX0_copyFrom_54 ci_0 ?_
  refine r_iconst (pc := 55) h dX0_copyFrom_55 ci_5 ?_
  refine r_acopy (pc := 56) h dX0_copyFrom_56 k_X0_46 sh_21 sh_5 (by decide) ⟨Nat.le_of_ble_eq_true rfl, Nat.le_of_ble_eq_true rfl⟩ ?_
  refine r_aload_n (pc := 59) h dX0_copyFrom_59 rfl ?_
  refine r_getR (pc := 60) h dX0_copyFrom_60 f_X0_24 sh_17 rfl ?_
  refine r_iconst (pc := 63) h dX0_copyFrom_63 ci_0 ?_
  refine r_aload_n (pc := 64) h dX0_copyFrom_64 rfl ?_
  refine r_getR (pc := 65) h dX0_copyFrom_65 f_X0_24 sh_1 rfl ?_
  refine r_iconst (pc := 68) h dX0_copyFrom_68 ci_0 ?_
  refine r_iconst (pc := 69) h dX0_copyFrom_69 ci_5 ?_
  refine r_acopy (pc := 70) h dX0_copyFrom_70 k_X0_46 sh_22 sh_6 (by decide) ⟨Nat.le_of_ble_eq_true rfl, Nat.le_of_ble_eq_true rfl⟩ ?_
  refine r_aload_n (pc := 73) h dX0_copyFrom_73 rfl ?_
  refine r_getR (pc := 74) h dX0_copyFrom_74 f_X0_27 sh_17 rfl ?_
  refine r_iconst (pc := 77) h dX0_copyFrom_77 ci_0 ?_
  refine r_aload_n (pc := 78) h dX0_copyFrom_78 rfl ?_
  refine r_getR (pc := 79) h dX0_copyFrom_79 f_X0_27 sh_1 rfl ?_
  refine r_iconst (pc := 82) h dX0_copyFrom_82 ci_0 ?_
  refine r_iconst (pc := 83) h dX0_copyFrom_83 ci_5 ?_
  refine r_acopy (pc := 84) h dX0_copyFrom_84 k_X0_46 sh_23 sh_7 (by decide) ⟨Nat.le_of_ble_eq_true rfl, Nat.le_of_ble_eq_true rfl⟩ ?_
  refine r_aload_n (pc := 87) h dX0_copyFrom_87 rfl ?_
  refine r_getR (pc := 88) h dX0_copyFrom_88 f_X0_30 sh_17 rfl ?_
  refine r_iconst (pc := 91) h dX0_copyFrom_91 ci_0 ?_
  refine r_aload_n (pc := 92) h dX0_copyFrom_92 rfl ?_
  refine r_getR (pc := 93) h dX0_copyFrom_93 f_X0_30 sh_1 rfl ?_
  refine r_iconst (pc := 96) h dX0_copyFrom_96 ci_0 ?_
  refine r_iconst (pc := 97) h dX0_copyFrom_97 ci_5 ?_
  refine r_acopy (pc := 98) h dX0_copyFrom_98 k_X0_46 sh_24 sh_8 (by decide) ⟨Nat.le_of_ble_eq_true rfl, Nat.le_of_ble_eq_true rfl⟩ ?_
  refine r_aload_n (pc := 101) h dX0_copyFrom_101 rfl ?_
  refine r_aload_n (pc := 102) h dX0_copyFrom_102 rfl ?_
  refine r_getI (pc := 103) h dX0_copyFrom_103 f_X0_33 sh_17 rfl ?_
  refine r_putI (pc := 106) h dX0_copyFrom_106 fw_X0_33 sh_1 rfl rfl rfl ?_
  refine r_aload_n (pc := 109) h dX0_copyFrom_109 rfl ?_
  refine r_aload_n (pc := 110) h dX0_copyFrom_110 rfl ?_
  refine r_getI (pc := 111) h dX0_copyFrom_111 f_X0_37 sh_17 rfl ?_
  refine r_putI (pc := 114) h dX0_copyFrom_114 fw_X0_37 sh_1 rfl rfl rfl ?_
  refine r_aload_n (pc := 117) h dX0_copyFrom_117 rfl ?_
  refine r_aload_n (pc := 118) h dX0_copyFrom_118 rfl ?_
  refine r_getI (pc := 119) h dX0_copyFrom_119 f_X0_40 sh_17 rfl ?_
  refine r_putI (pc := 122) h dX0_copyFrom_122 fw_X0_40 sh_1 rfl rfl rfl ?_
  refine r_aload_n (pc := 125) h dX0_copyFrom_125 rfl ?_
  refine r_aload_n (pc := 126) h dX0_copyFrom_126 rfl ?_
  refine r_getI (pc := 127) h dX0_copyFrom_127 f_X0_43 sh_17 rfl ?_
  refine r_putI (pc := 130) h dX0_copyFrom_130 fw_X0_43 sh_1 rfl rfl rfl ?_
  refine r_rv t (pc := 133) dX0_copyFrom_133 ?_
  obtain ⟨⟨h1, h2, h3, h4⟩, h5, h6, h7⟩ := hR
  refine ⟨⟨⟨?_, ?_, ?_, ?_⟩, h5, fun j hj => ?_, fun j hj => ?_⟩, fun k hk => ?_⟩
  · simp [gup, gcp, h1]
  · simp [gup, gcp, h2]
  · simp [gup, gcp, h3]
  · simp [gup, gcp, h4]
  · obtain ⟨a, b, e⟩ := h6 j hj
    have hj6 : j < 6 := by have := h5.1; omega
    simp [gup, gcp, a, b, e, e6, hj6]
  · obtain ⟨a, b, e, f⟩ := h7 j hj
    have hj5 : j < 5 := by have := h5.2; omega
    simp [gup, gcp, a, b, e, f, e5, hj5]
  · funext j
    have n0 : ∀ q, 1 ≤ q → q < 9 → k ≠ q := fun q _ _ => by omega
    simp [gup, gcp, n0]
set_option maxRecDepth 100000 in
set_option maxHeartbeats 4000000 in
theorem c_X0_wearer_1 {g : gG} {c : gCt} (hR : Rx1 g c) (ho : gok c) {s : Nat} (hs : s < 2147483648) : gCi mX0_wearer [.ref 1, .int (nI s)] g (fun x g1 => x = oI (wr c s) ∧ g1 = g) := by
  refine gCi_of (own := RX0) (ls0 := [.ref 1, .int (nI s), .null]) ⟨rfl, pl_X0⟩ rfl (Nat.le_of_ble_eq_true rfl) (fun G (h : gR RX0 cX0_wearer 0 0 G) (t : gTi cX0_wearer .int _ G) => ?_)
  have hn5 := hR.n5
  have hn6 := hR.n6
  have loop : ∀ n i, i + n = c 7 1 → wr c s = gfind (fun i => c 6 i == s + 1) n i → G 2 [.ref 1, .int (nI s), .int (nI i)] [] g := by
    intro n
    induction n with
    | zero =>
      intro i hi hw
      refine r_iload_n (pc := 2) h dX0_wearer_2 rfl ?_
      refine r_aload_n (pc := 3) h dX0_wearer_3 rfl ?_
      refine r_getE (pc := 4) h dX0_wearer_4 f_X0_37 sh_1 rfl (hR.nc) ?_
      refine r_icmp_ge (pc := 7) (tgt := 28) h dX0_wearer_7 (by decide) (fun c7 => ?_) (fun c7 => absurd (nI_le (by omega) (by omega)) c7)
      refine r_bipush (pc := 28) h dX0_wearer_28 cb_m9 ?_
      refine r_ri t (pc := 30) dX0_wearer_30 rfl ?_
      exact ⟨by rw [hw]; rfl, rfl⟩
    | succ n ih =>
      intro i hin hw
      have hi : i < c 7 1 := by omega
      have hw6 : c 6 i < 2147483648 := by have := (ho.2.2.2 i hi).2.2.2; omega
      refine r_iload_n (pc := 2) h dX0_wearer_2 rfl ?_
      refine r_aload_n (pc := 3) h dX0_wearer_3 rfl ?_
      refine r_getE (pc := 4) h dX0_wearer_4 f_X0_37 sh_1 rfl (hR.nc) ?_
      refine r_icmp_ge (pc := 7) (tgt := 28) h dX0_wearer_7 (by decide) (fun c7 => absurd c7 (nI_ge hi (by omega))) (fun c7 => ?_)
      refine r_aload_n (pc := 10) h dX0_wearer_10 rfl ?_
      refine r_getR (pc := 11) h dX0_wearer_11 f_X0_30 sh_1 rfl ?_
      refine r_iload_n (pc := 14) h dX0_wearer_14 rfl ?_
      refine r_ialoadE (pc := 15) h dX0_wearer_15 sh_8 (hR.wo hi) ?_
      refine r_iload_n (pc := 16) h dX0_wearer_16 rfl ?_
      refine r_icmp_ne (pc := 17) (tgt := 22) h dX0_wearer_17 (by decide) (fun c17 => ?_) (fun c17 => ?_)
      · refine r_iinc (pc := 22) (ls2 := [_, _, _]) h dX0_wearer_22 rfl (ic1 _) rfl ?_
        refine r_goto (pc := 25) (tgt := 2) h dX0_wearer_25 (by decide) ?_
        exact ih (i + 1) (by omega) (by rw [hw, gfind, if_neg (by simpa using fun q => c17 ((wz_eq hw6 hs).mpr q))])
      · refine r_iload_n (pc := 20) h dX0_wearer_20 rfl ?_
        refine r_ri t (pc := 21) dX0_wearer_21 rfl ?_
        exact ⟨by rw [hw, gfind, if_pos (by simpa using (wz_eq hw6 hs).mp c17)]; rfl, rfl⟩
  refine r_iconst (pc := 0) h dX0_wearer_0 ci_0 ?_
  refine r_istore_n (pc := 1) (ls2 := [_, _, _]) h dX0_wearer_1 (Nat.le_of_ble_eq_true rfl) rfl ?_
  exact loop (c 7 1) 0 (by omega) rfl
set_option maxRecDepth 100000 in
set_option maxHeartbeats 4000000 in
theorem c_X0_coversWith_1 {g : gG} {c : gCt} (hR : Rx1 g c) (ho : gok c) {s r : Nat} (hs : s < c 7 0) (hr : r ≤ 9) : gCi mX0_coversWith [.ref 1, .int (nI s), .int (nI r)] g (fun x g1 => x = nI (covN (c 0 s) (c 1 s) r) ∧ g1 = g) := by
  refine gCi_of (own := RX0) (ls0 := [.ref 1, .int (nI s), .int (nI r), .null, .null]) ⟨rfl, pl_X0⟩ rfl (Nat.le_of_ble_eq_true rfl) (fun G (h : gR RX0 cX0_coversWith 0 0 G) (t : gTi cX0_coversWith .int _ G) => ?_)
  have hk := ho.2.2.1 s hs
  refine r_aload_n (pc := 0) h dX0_coversWith_0 rfl ?_
  refine r_getR (pc := 1) h dX0_coversWith_1 f_X0_15 sh_1 rfl ?_
  refine r_iload_n (pc := 4) h dX0_coversWith_4 rfl ?_
  refine r_ialoadE (pc := 5) h dX0_coversWith_5 sh_3 (hR.fg hs) ?_
  refine r_iconst (pc := 6) h dX0_coversWith_6 ci_4 ?_
  refine r_iadd (pc := 7) h dX0_coversWith_7 ?_
  refine r_iload_n (pc := 8) h dX0_coversWith_8 rfl ?_
  refine r_isub (pc := 9) h dX0_coversWith_9 ?_
  refine r_istore_n (pc := 10) (ls2 := [_, _, _, _, _]) h dX0_coversWith_10 (Nat.le_of_ble_eq_true rfl) rfl ?_
  refine r_iload_n (pc := 11) h dX0_coversWith_11 rfl ?_
  refine r_if_ge (pc := 12) (tgt := 17) h dX0_coversWith_12 (by decide) (fun c12 => ?_) (fun c12 => ?_)
  · refine r_iload_n (pc := 17) h dX0_coversWith_17 rfl ?_
    refine r_gets (q := 101) (pc := 18) h dX0_coversWith_18 (by decide) (Or.inl ⟨rfl, rfl⟩) ?_
    refine r_aload_n (pc := 21) h dX0_coversWith_21 rfl ?_
    refine r_getR (pc := 22) h dX0_coversWith_22 f_X0_9 sh_1 rfl ?_
    refine r_iload_n (pc := 25) h dX0_coversWith_25 rfl ?_
    refine r_ialoadE (pc := 26) h dX0_coversWith_26 sh_2 (hR.kd hs) ?_
    refine r_tabldE (pc := 27) h dX0_coversWith_27 (by decide) (tabE hk.1) ?_
    refine r_imul (pc := 28) h dX0_coversWith_28 ?_
    refine r_iconst (pc := 29) h dX0_coversWith_29 ci_2 ?_
    refine r_idiv (pc := 30) h dX0_coversWith_30 (by decide) ?_
    refine r_gets (q := 102) (pc := 31) h dX0_coversWith_31 (by decide) (Or.inl ⟨rfl, rfl⟩) ?_
    refine r_aload_n (pc := 34) h dX0_coversWith_34 rfl ?_
    refine r_getR (pc := 35) h dX0_coversWith_35 f_X0_9 sh_1 rfl ?_
    refine r_iload_n (pc := 38) h dX0_coversWith_38 rfl ?_
    refine r_ialoadE (pc := 39) h dX0_coversWith_39 sh_2 (hR.kd hs) ?_
    refine r_tabldE (pc := 40) h dX0_coversWith_40 (by decide) (tabE hk.1) ?_
    refine r_iadd (pc := 41) h dX0_coversWith_41 ?_
    refine r_istore (pc := 42) (ls2 := [_, _, _, _, _]) h dX0_coversWith_42 (Nat.le_of_ble_eq_true rfl) rfl ?_
    refine r_iload (pc := 44) h dX0_coversWith_44 rfl ?_
    refine r_if_ge (pc := 46) (tgt := 53) h dX0_coversWith_46 (by decide) (fun c46 => ?_) (fun c46 => ?_)
    · refine r_iload (pc := 53) h dX0_coversWith_53 rfl ?_
      refine r_ri t (pc := 55) dX0_coversWith_55 rfl ?_
      have e := covL _ hk.1 (c 1 s) (by omega) r (by omega)
      first
        | (rw [if_pos c12, if_pos c46] at e; exact ⟨e, rfl⟩)
        | (rw [if_pos c12, if_neg c46] at e; exact ⟨e, rfl⟩)
        | (rw [if_neg c12, if_pos c46] at e; exact ⟨e, rfl⟩)
        | (rw [if_neg c12, if_neg c46] at e; exact ⟨e, rfl⟩)
    · refine r_iconst (pc := 49) h dX0_coversWith_49 ci_0 ?_
      refine r_goto (pc := 50) (tgt := 55) h dX0_coversWith_50 (by decide) ?_
      refine r_ri t (pc := 55) dX0_coversWith_55 rfl ?_
      have e := covL _ hk.1 (c 1 s) (by omega) r (by omega)
      first
        | (rw [if_pos c12, if_pos c46] at e; exact ⟨e, rfl⟩)
        | (rw [if_pos c12, if_neg c46] at e; exact ⟨e, rfl⟩)
        | (rw [if_neg c12, if_pos c46] at e; exact ⟨e, rfl⟩)
        | (rw [if_neg c12, if_neg c46] at e; exact ⟨e, rfl⟩)
  · refine r_iconst (pc := 15) h dX0_coversWith_15 ci_0 ?_
    refine r_istore_n (pc := 16) (ls2 := [_, _, _, _, _]) h dX0_coversWith_16 (Nat.le_of_ble_eq_true rfl) rfl ?_
    refine r_iload_n (pc := 17) h dX0_coversWith_17 rfl ?_
    refine r_gets (q := 101) (pc := 18) h dX0_coversWith_18 (by decide) (Or.inl ⟨rfl, rfl⟩) ?_
    refine r_aload_n (pc := 21) h dX0_coversWith_21 rfl ?_
    refine r_getR (pc := 22) h dX0_coversWith_22 f_X0_9 sh_1 rfl ?_
    refine r_iload_n (pc := 25) h dX0_coversWith_25 rfl ?_
    refine r_ialoadE (pc := 26) h dX0_coversWith_26 sh_2 (hR.kd hs) ?_
    refine r_tabldE (pc := 27) h dX0_coversWith_27 (by decide) (tabE hk.1) ?_
    refine r_imul (pc := 28) h dX0_coversWith_28 ?_
    refine r_iconst (pc := 29) h dX0_coversWith_29 ci_2 ?_
    refine r_idiv (pc := 30) h dX0_coversWith_30 (by decide) ?_
    refine r_gets (q := 102) (pc := 31) h dX0_coversWith_31 (by decide) (Or.inl ⟨rfl, rfl⟩) ?_
    refine r_aload_n (pc := 34) h dX0_coversWith_34 rfl ?_
    refine r_getR (pc := 35) h dX0_coversWith_35 f_X0_9 sh_1 rfl ?_
    refine r_iload_n (pc := 38) h dX0_coversWith_38 rfl ?_
    refine r_ialoadE (pc := 39) h dX0_coversWith_39 sh_2 (hR.kd hs) ?_
    refine r_tabldE (pc := 40) h dX0_coversWith_40 (by decide) (tabE hk.1) ?_
    refine r_iadd (pc := 41) h dX0_coversWith_41 ?_
    refine r_istore (pc := 42) (ls2 := [_, _, _, _, _]) h dX0_coversWith_42 (Nat.le_of_ble_eq_true rfl) rfl ?_
    refine r_iload (pc := 44) h dX0_coversWith_44 rfl ?_
    refine r_if_ge (pc := 46) (tgt := 53) h dX0_coversWith_46 (by decide) (fun c46 => ?_) (fun c46 => ?_)
    · refine r_iload (pc := 53) h dX0_coversWith_53 rfl ?_
      refine r_ri t (pc := 55) dX0_coversWith_55 rfl ?_
      have e := covL _ hk.1 (c 1 s) (by omega) r (by omega)
      first
        | (rw [if_pos c12, if_pos c46] at e; exact ⟨e, rfl⟩)
        | (rw [if_pos c12, if_neg c46] at e; exact ⟨e, rfl⟩)
        | (rw [if_neg c12, if_pos c46] at e; exact ⟨e, rfl⟩)
        | (rw [if_neg c12, if_neg c46] at e; exact ⟨e, rfl⟩)
    · refine r_iconst (pc := 49) h dX0_coversWith_49 ci_0 ?_
      refine r_goto (pc := 50) (tgt := 55) h dX0_coversWith_50 (by decide) ?_
      refine r_ri t (pc := 55) dX0_coversWith_55 rfl ?_
      have e := covL _ hk.1 (c 1 s) (by omega) r (by omega)
      first
        | (rw [if_pos c12, if_pos c46] at e; exact ⟨e, rfl⟩)
        | (rw [if_pos c12, if_neg c46] at e; exact ⟨e, rfl⟩)
        | (rw [if_neg c12, if_pos c46] at e; exact ⟨e, rfl⟩)
        | (rw [if_neg c12, if_neg c46] at e; exact ⟨e, rfl⟩)
set_option maxRecDepth 100000 in
set_option maxHeartbeats 4000000 in
theorem c_X0_covers_1 {g : gG} {c : gCt} (hR : Rx1 g c) (ho : gok c) {s : Nat} (hs : s < c 7 0) : gCi mX0_covers [.ref 1, .int (nI s)] g (fun x g1 => x = nI (cvr c s) ∧ g1 = g) := by
  refine gCi_of (own := RX0) (ls0 := [.ref 1, .int (nI s)]) ⟨rfl, pl_X0⟩ rfl (Nat.le_of_ble_eq_true rfl) (fun G (h : gR RX0 cX0_covers 1 40 G) (t : gTi cX0_covers .int _ G) => ?_)
  refine r_aload_n (pc := 0) h dX0_covers_0 rfl ?_
  refine r_iload_n (pc := 1) h dX0_covers_1 rfl ?_
  refine r_aload_n (pc := 2) h dX0_covers_2 rfl ?_
  refine r_getR (pc := 3) h dX0_covers_3 f_X0_18 sh_1 rfl ?_
  refine r_iload_n (pc := 6) h dX0_covers_6 rfl ?_
  refine r_ialoadE (pc := 7) h dX0_covers_7 sh_4 (hR.ru hs) ?_
  refine r_callVi (pc := 8) (As := [_, _]) h dX0_covers_8 k_X0_56 gc_1 rfl ⟨Nat.le_of_ble_eq_true rfl, Nat.le_of_ble_eq_true rfl, Nat.le_of_ble_eq_true rfl⟩ (c_X0_coversWith_1 hR ho hs (ho.2.2.1 s hs).2.2) (fun x_8 g1 hq => ?_)
  obtain ⟨rfl, rfl⟩ := hq
  refine r_ri t (pc := 11) dX0_covers_11 rfl ?_
  exact ⟨rfl, rfl⟩
set_option maxRecDepth 100000 in
set_option maxHeartbeats 4000000 in
theorem c_X0_chafe_1 {g : gG} {c : gCt} (hR : Rx1 g c) (ho : gok c) {s d : Nat} (hs : s < c 7 0) (hd : d < 2147483648) : gCi mX0_chafe [.ref 1, .int (nI s), .int (nI d)] g (fun x g1 => x = nI (chaN (c 0 s) (c 2 s) d) ∧ g1 = g) := by
  refine gCi_of (own := RX0) (ls0 := [.ref 1, .int (nI s), .int (nI d), .null]) ⟨rfl, pl_X0⟩ rfl (Nat.le_of_ble_eq_true rfl) (fun G (h : gR RX0 cX0_chafe 0 0 G) (t : gTi cX0_chafe .int _ G) => ?_)
  have hk := ho.2.2.1 s hs
  refine r_gets (q := 103) (pc := 0) h dX0_chafe_0 (by decide) (Or.inl ⟨rfl, rfl⟩) ?_
  refine r_aload_n (pc := 3) h dX0_chafe_3 rfl ?_
  refine r_getR (pc := 4) h dX0_chafe_4 f_X0_9 sh_1 rfl ?_
  refine r_iload_n (pc := 7) h dX0_chafe_7 rfl ?_
  refine r_ialoadE (pc := 8) h dX0_chafe_8 sh_2 (hR.kd hs) ?_
  refine r_tabldE (pc := 9) h dX0_chafe_9 (by decide) (tabE hk.1) ?_
  refine r_istore_n (pc := 10) (ls2 := [_, _, _, _]) h dX0_chafe_10 (Nat.le_of_ble_eq_true rfl) rfl ?_
  refine r_aload_n (pc := 11) h dX0_chafe_11 rfl ?_
  refine r_getR (pc := 12) h dX0_chafe_12 f_X0_9 sh_1 rfl ?_
  refine r_iload_n (pc := 15) h dX0_chafe_15 rfl ?_
  refine r_ialoadE (pc := 16) h dX0_chafe_16 sh_2 (hR.kd hs) ?_
  refine r_iconst (pc := 17) h dX0_chafe_17 ci_4 ?_
  refine r_icmp_ne (pc := 18) (tgt := 32) h dX0_chafe_18 (by decide) (fun c18 => ?_) (fun c18 => ?_)
  · refine r_aload_n (pc := 32) h dX0_chafe_32 rfl ?_
    refine r_getR (pc := 33) h dX0_chafe_33 f_X0_9 sh_1 rfl ?_
    refine r_iload_n (pc := 36) h dX0_chafe_36 rfl ?_
    refine r_ialoadE (pc := 37) h dX0_chafe_37 sh_2 (hR.kd hs) ?_
    refine r_iconst (pc := 38) h dX0_chafe_38 ci_5 ?_
    refine r_icmp_ne (pc := 39) (tgt := 50) h dX0_chafe_39 (by decide) (fun c39 => ?_) (fun c39 => ?_)
    · refine r_iload_n (pc := 50) h dX0_chafe_50 rfl ?_
      refine r_ri t (pc := 51) dX0_chafe_51 rfl ?_
      have n4 : ¬ c 0 s = 4 := fun q => c18 (by rw [q])
      first
        | (have e5 : c 0 s = 5 := (nI_eq (by omega) (by decide)).mp c39
           have e := (chaL _ hk.1).2.1 e5
           refine ⟨?_, rfl⟩
           rw [e, pk_rem (by omega) (by decide) (by decide), nI_add, e5]
           rfl)
        | (have n5 : ¬ c 0 s = 5 := fun q => c39 (by rw [q])
           have e := (chaL _ hk.1).2.2 n4 n5 (c 2 s) (by omega) 0 (by decide)
           refine ⟨?_, rfl⟩
           rw [e]
           unfold chaN
           simp only [n4, if_false]
           have := hk.1
           repeat' split
           all_goals first | rfl | omega)
    · refine r_iload_n (pc := 42) h dX0_chafe_42 rfl ?_
      refine r_iload_n (pc := 43) h dX0_chafe_43 rfl ?_
      refine r_iconst (pc := 44) h dX0_chafe_44 ci_2 ?_
      refine r_irem (pc := 45) h dX0_chafe_45 (by decide) ?_
      refine r_iadd (pc := 46) h dX0_chafe_46 ?_
      refine r_goto (pc := 47) (tgt := 51) h dX0_chafe_47 (by decide) ?_
      refine r_ri t (pc := 51) dX0_chafe_51 rfl ?_
      have n4 : ¬ c 0 s = 4 := fun q => c18 (by rw [q])
      first
        | (have e5 : c 0 s = 5 := (nI_eq (by omega) (by decide)).mp c39
           have e := (chaL _ hk.1).2.1 e5
           refine ⟨?_, rfl⟩
           rw [e, pk_rem (by omega) (by decide) (by decide), nI_add, e5]
           rfl)
        | (have n5 : ¬ c 0 s = 5 := fun q => c39 (by rw [q])
           have e := (chaL _ hk.1).2.2 n4 n5 (c 2 s) (by omega) 0 (by decide)
           refine ⟨?_, rfl⟩
           rw [e]
           unfold chaN
           simp only [n4, if_false]
           have := hk.1
           repeat' split
           all_goals first | rfl | omega)
  · refine r_iload_n (pc := 21) h dX0_chafe_21 rfl ?_
    refine r_aload_n (pc := 22) h dX0_chafe_22 rfl ?_
    refine r_getR (pc := 23) h dX0_chafe_23 f_X0_18 sh_1 rfl ?_
    refine r_iload_n (pc := 26) h dX0_chafe_26 rfl ?_
    refine r_ialoadE (pc := 27) h dX0_chafe_27 sh_4 (hR.ru hs) ?_
    refine r_iconst (pc := 28) h dX0_chafe_28 ci_3 ?_
    refine r_idiv (pc := 29) h dX0_chafe_29 (by decide) ?_
    refine r_iadd (pc := 30) h dX0_chafe_30 ?_
    refine r_ri t (pc := 31) dX0_chafe_31 rfl ?_
    have e4 : c 0 s = 4 := (nI_eq (by omega) (by decide)).mp c18
    have e := (chaL _ hk.1).1 e4
    refine ⟨?_, rfl⟩
    rw [e, pk_div (by omega) (by decide) (by decide), nI_add, e4]
    rfl
set_option maxRecDepth 100000 in
set_option maxHeartbeats 4000000 in
theorem c_X0_braveryCovered_1 {g : gG} {c : gCt} (hR : Rx1 g c) (ho : gok c) {i cov : Nat} (hi : i < c 7 1) : gCi mX0_braveryCovered [.ref 1, .int (nI i), .int (nI cov)] g (fun x g1 => x = brI c i cov ∧ g1 = g) := by
  refine gCi_of (own := RX0) (ls0 := [.ref 1, .int (nI i), .int (nI cov)]) ⟨rfl, pl_X0⟩ rfl (Nat.le_of_ble_eq_true rfl) (fun G (h : gR RX0 cX0_braveryCovered 0 0 G) (t : gTi cX0_braveryCovered .int _ G) => ?_)
  have hk := ho.2.2.2 i hi
  refine r_iload_n (pc := 0) h dX0_braveryCovered_0 rfl ?_
  refine r_aload_n (pc := 1) h dX0_braveryCovered_1 rfl ?_
  refine r_getR (pc := 2) h dX0_braveryCovered_2 f_X0_27 sh_1 rfl ?_
  refine r_iload_n (pc := 5) h dX0_braveryCovered_5 rfl ?_
  refine r_ialoadE (pc := 6) h dX0_braveryCovered_6 sh_7 (hR.sa hi) ?_
  refine r_iadd (pc := 7) h dX0_braveryCovered_7 ?_
  refine r_aload_n (pc := 8) h dX0_braveryCovered_8 rfl ?_
  refine r_getR (pc := 9) h dX0_braveryCovered_9 f_X0_21 sh_1 rfl ?_
  refine r_iload_n (pc := 12) h dX0_braveryCovered_12 rfl ?_
  refine r_ialoadE (pc := 13) h dX0_braveryCovered_13 sh_5 (hR.fe hi) ?_
  refine r_isub (pc := 14) h dX0_braveryCovered_14 ?_
  refine r_aload_n (pc := 15) h dX0_braveryCovered_15 rfl ?_
  refine r_getR (pc := 16) h dX0_braveryCovered_16 f_X0_24 sh_1 rfl ?_
  refine r_iload_n (pc := 19) h dX0_braveryCovered_19 rfl ?_
  refine r_ialoadE (pc := 20) h dX0_braveryCovered_20 sh_6 (hR.so hi) ?_
  refine r_iconst (pc := 21) h dX0_braveryCovered_21 ci_3 ?_
  refine r_idiv (pc := 22) h dX0_braveryCovered_22 (by decide) ?_
  refine r_isub (pc := 23) h dX0_braveryCovered_23 ?_
  refine r_ri t (pc := 24) dX0_braveryCovered_24 rfl ?_
  exact ⟨by rw [pk_div (by omega) (by decide) (by decide)]; rfl, rfl⟩
set_option maxRecDepth 100000 in
set_option maxHeartbeats 4000000 in
theorem c_X0_bravery_1 {g : gG} {c : gCt} (hR : Rx1 g c) (ho : gok c) {i : Nat} (hi : i < c 7 1) : gCi mX0_bravery [.ref 1, .int (nI i)] g (fun x g1 => x = brI c i (covOf c i) ∧ g1 = g) := by
  refine gCi_of (own := RX0) (ls0 := [.ref 1, .int (nI i), .null]) ⟨rfl, pl_X0⟩ rfl (Nat.le_of_ble_eq_true rfl) (fun G (h : gR RX0 cX0_bravery 1 40 G) (t : gTi cX0_bravery .int _ G) => ?_)
  have hk := ho.2.2.2 i hi
  have hn6 := hR.n6
  refine r_aload_n (pc := 0) h dX0_bravery_0 rfl ?_
  refine r_getR (pc := 1) h dX0_bravery_1 f_X0_30 sh_1 rfl ?_
  refine r_iload_n (pc := 4) h dX0_bravery_4 rfl ?_
  refine r_ialoadE (pc := 5) h dX0_bravery_5 sh_8 (hR.wo hi) ?_
  refine r_istore_n (pc := 6) (ls2 := [_, _, _]) h dX0_bravery_6 (Nat.le_of_ble_eq_true rfl) rfl ?_
  refine r_aload_n (pc := 7) h dX0_bravery_7 rfl ?_
  refine r_iload_n (pc := 8) h dX0_bravery_8 rfl ?_
  refine r_iload_n (pc := 9) h dX0_bravery_9 rfl ?_
  refine r_bipush (pc := 10) h dX0_bravery_10 cb_m9 ?_
  refine r_icmp_ne (pc := 12) (tgt := 19) h dX0_bravery_12 (by decide) (fun c12 => ?_) (fun c12 => ?_)
  · obtain ⟨s, e6⟩ : ∃ s, c 6 i = s + 1 := ⟨c 6 i - 1, by have n0 : ¬ c 6 i = 0 := fun q => c12 ((wz_none (by omega)).mpr q); omega⟩
    have hs : s < c 7 0 := by omega
    rw [show wz (c 6 i) = nI s by rw [e6]; exact wz_s s]
    refine r_aload_n (pc := 19) h dX0_bravery_19 rfl ?_
    refine r_iload_n (pc := 20) h dX0_bravery_20 rfl ?_
    refine r_aload_n (pc := 21) h dX0_bravery_21 rfl ?_
    refine r_getR (pc := 22) h dX0_bravery_22 f_X0_18 sh_1 rfl ?_
    refine r_iload_n (pc := 25) h dX0_bravery_25 rfl ?_
    refine r_ialoadE (pc := 26) h dX0_bravery_26 sh_4 (hR.ru hs) ?_
    refine r_callVi (pc := 27) (As := [_, _]) h dX0_bravery_27 k_X0_56 gc_1 rfl ⟨Nat.le_of_ble_eq_true rfl, Nat.le_of_ble_eq_true rfl, Nat.le_of_ble_eq_true rfl⟩ (c_X0_coversWith_1 hR ho hs (ho.2.2.1 s hs).2.2) (fun x_27 g1 hq => ?_)
    obtain ⟨rfl, rfl⟩ := hq
    refine r_callVi (pc := 30) (As := [_, _]) h dX0_bravery_30 k_X0_69 gc_1 rfl ⟨Nat.le_of_ble_eq_true rfl, Nat.le_of_ble_eq_true rfl, Nat.le_of_ble_eq_true rfl⟩ (c_X0_braveryCovered_1 hR ho hi) (fun x_30 g1 hq => ?_)
    obtain ⟨rfl, rfl⟩ := hq
    refine r_ri t (pc := 33) dX0_bravery_33 rfl ?_
    exact ⟨by simp [covOf, cvr, e6], rfl⟩
  · have e6 : c 6 i = 0 := (wz_none (by omega)).mp c12
    refine r_iconst (pc := 15) h dX0_bravery_15 ci_0 ?_
    refine r_goto (pc := 16) (tgt := 30) h dX0_bravery_16 (by decide) ?_
    refine r_callVi (pc := 30) (As := [_, _]) h dX0_bravery_30 k_X0_69 gc_1 rfl ⟨Nat.le_of_ble_eq_true rfl, Nat.le_of_ble_eq_true rfl, Nat.le_of_ble_eq_true rfl⟩ (c_X0_braveryCovered_1 hR ho hi) (fun x_30 g1 hq => ?_)
    obtain ⟨rfl, rfl⟩ := hq
    refine r_ri t (pc := 33) dX0_bravery_33 rfl ?_
    exact ⟨by simp [covOf, cvr, e6], rfl⟩
set_option maxRecDepth 100000 in
set_option maxHeartbeats 4000000 in
theorem c_X0_needs_1 {g : gG} {c : gCt} (hR : Rx1 g c) {i : Nat} (hi : i < c 7 1) : gCi mX0_needs [.ref 1, .int (nI i)] g (fun x g1 => x = neI c i ∧ g1 = g) := by
  refine gCi_of (own := RX0) (ls0 := [.ref 1, .int (nI i)]) ⟨rfl, pl_X0⟩ rfl (Nat.le_of_ble_eq_true rfl) (fun G (h : gR RX0 cX0_needs 0 0 G) (t : gTi cX0_needs .int _ G) => ?_)
  refine r_iconst (pc := 0) h dX0_needs_0 ci_2 ?_
  refine r_aload_n (pc := 1) h dX0_needs_1 rfl ?_
  refine r_getR (pc := 2) h dX0_needs_2 f_X0_27 sh_1 rfl ?_
  refine r_iload_n (pc := 5) h dX0_needs_5 rfl ?_
  refine r_ialoadE (pc := 6) h dX0_needs_6 sh_7 (hR.sa hi) ?_
  refine r_imul (pc := 7) h dX0_needs_7 ?_
  refine r_iconst (pc := 8) h dX0_needs_8 ci_2 ?_
  refine r_iadd (pc := 9) h dX0_needs_9 ?_
  refine r_bipush (pc := 10) h dX0_needs_10 cb_6 ?_
  refine r_isub (pc := 12) h dX0_needs_12 ?_
  refine r_ri t (pc := 13) dX0_needs_13 rfl ?_
  exact ⟨rfl, rfl⟩
set_option maxRecDepth 100000 in
set_option maxHeartbeats 4000000 in
theorem c_X0_can_1 {g : gG} {c : gCt} (hR : Rx1 g c) (ho : gok c) {i : Nat} (hi : i < c 7 1) : gCi mX0_can [.ref 1, .int (nI i)] g (fun x g1 => x = bI (canB c i (covOf c i)) ∧ g1 = g) := by
  refine gCi_of (own := RX0) (ls0 := [.ref 1, .int (nI i)]) ⟨rfl, pl_X0⟩ rfl (Nat.le_of_ble_eq_true rfl) (fun G (h : gR RX0 cX0_can 2 80 G) (t : gTi cX0_can .boolean _ G) => ?_)
  have hk := ho.2.2.2 i hi
  refine r_aload_n (pc := 0) h dX0_can_0 rfl ?_
  refine r_getR (pc := 1) h dX0_can_1 f_X0_27 sh_1 rfl ?_
  refine r_iload_n (pc := 4) h dX0_can_4 rfl ?_
  refine r_ialoadE (pc := 5) h dX0_can_5 sh_7 (hR.sa hi) ?_
  refine r_bipush (pc := 6) h dX0_can_6 cb_6 ?_
  refine r_icmp_ge (pc := 8) (tgt := 28) h dX0_can_8 (by decide) (fun c8 => ?_) (fun c8 => ?_)
  · refine r_iconst (pc := 28) h dX0_can_28 ci_0 ?_
    refine r_ri t (pc := 29) dX0_can_29 (by decide) ?_
    first
      | (have q6 : c 5 i < 6 := Nat.lt_of_not_le fun q => c8 (nI_le q (by omega))
         have q := (canB_lt q6 hk.1 hk.2.1 (covOf_le ho hi)).mp c21
         exact ⟨by rw [q]; rfl, rfl⟩)
      | (have q6 : c 5 i < 6 := Nat.lt_of_not_le fun q => c8 (nI_le q (by omega))
         have q := mt (canB_lt q6 hk.1 hk.2.1 (covOf_le ho hi)).mpr c21
         have q2 : canB c i (covOf c i) = true := by simpa using q
         exact ⟨by rw [q2]; rfl, rfl⟩)
      | (have q6 : 6 ≤ c 5 i := (nI_leI (by decide) (by omega)).mp c8
         exact ⟨by rw [show canB c i (covOf c i) = false by simp [canB]; omega]; rfl, rfl⟩)
  · refine r_aload_n (pc := 11) h dX0_can_11 rfl ?_
    refine r_iload_n (pc := 12) h dX0_can_12 rfl ?_
    refine r_callVi (pc := 13) (As := [_]) h dX0_can_13 k_X0_72 gc_1 rfl ⟨Nat.le_of_ble_eq_true rfl, Nat.le_of_ble_eq_true rfl, Nat.le_of_ble_eq_true rfl⟩ (c_X0_bravery_1 hR ho hi) (fun x_13 g1 hq => ?_)
    obtain ⟨rfl, rfl⟩ := hq
    refine r_aload_n (pc := 16) h dX0_can_16 rfl ?_
    refine r_iload_n (pc := 17) h dX0_can_17 rfl ?_
    refine r_callVi (pc := 18) (As := [_]) h dX0_can_18 k_X0_75 gc_1 rfl ⟨Nat.le_of_ble_eq_true rfl, Nat.le_of_ble_eq_true rfl, Nat.le_of_ble_eq_true rfl⟩ (c_X0_needs_1 hR hi) (fun x_18 g1 hq => ?_)
    obtain ⟨rfl, rfl⟩ := hq
    refine r_icmp_lt (pc := 21) (tgt := 28) h dX0_can_21 (by decide) (fun c21 => ?_) (fun c21 => ?_)
    · refine r_iconst (pc := 28) h dX0_can_28 ci_0 ?_
      refine r_ri t (pc := 29) dX0_can_29 (by decide) ?_
      first
        | (have q6 : c 5 i < 6 := Nat.lt_of_not_le fun q => c8 (nI_le q (by omega))
           have q := (canB_lt q6 hk.1 hk.2.1 (covOf_le ho hi)).mp c21
           exact ⟨by rw [q]; rfl, rfl⟩)
        | (have q6 : c 5 i < 6 := Nat.lt_of_not_le fun q => c8 (nI_le q (by omega))
           have q := mt (canB_lt q6 hk.1 hk.2.1 (covOf_le ho hi)).mpr c21
           have q2 : canB c i (covOf c i) = true := by simpa using q
           exact ⟨by rw [q2]; rfl, rfl⟩)
        | (have q6 : 6 ≤ c 5 i := (nI_leI (by decide) (by omega)).mp c8
           exact ⟨by rw [show canB c i (covOf c i) = false by simp [canB]; omega]; rfl, rfl⟩)
    · refine r_iconst (pc := 24) h dX0_can_24 ci_1 ?_
      refine r_goto (pc := 25) (tgt := 29) h dX0_can_25 (by decide) ?_
      refine r_ri t (pc := 29) dX0_can_29 (by decide) ?_
      first
        | (have q6 : c 5 i < 6 := Nat.lt_of_not_le fun q => c8 (nI_le q (by omega))
           have q := (canB_lt q6 hk.1 hk.2.1 (covOf_le ho hi)).mp c21
           exact ⟨by rw [q]; rfl, rfl⟩)
        | (have q6 : c 5 i < 6 := Nat.lt_of_not_le fun q => c8 (nI_le q (by omega))
           have q := mt (canB_lt q6 hk.1 hk.2.1 (covOf_le ho hi)).mpr c21
           have q2 : canB c i (covOf c i) = true := by simpa using q
           exact ⟨by rw [q2]; rfl, rfl⟩)
        | (have q6 : 6 ≤ c 5 i := (nI_leI (by decide) (by omega)).mp c8
           exact ⟨by rw [show canB c i (covOf c i) = false by simp [canB]; omega]; rfl, rfl⟩)
set_option maxRecDepth 100000 in
set_option maxHeartbeats 4000000 in
theorem c_X0_canCovered_1 {g : gG} {c : gCt} (hR : Rx1 g c) (ho : gok c) {i cov : Nat} (hi : i < c 7 1) (hcov : cov ≤ 31) : gCi mX0_canCovered [.ref 1, .int (nI i), .int (nI cov)] g (fun x g1 => x = bI (canB c i cov) ∧ g1 = g) := by
  refine gCi_of (own := RX0) (ls0 := [.ref 1, .int (nI i), .int (nI cov)]) ⟨rfl, pl_X0⟩ rfl (Nat.le_of_ble_eq_true rfl) (fun G (h : gR RX0 cX0_canCovered 1 40 G) (t : gTi cX0_canCovered .boolean _ G) => ?_)
  have hk := ho.2.2.2 i hi
  refine r_aload_n (pc := 0) h dX0_canCovered_0 rfl ?_
  refine r_getR (pc := 1) h dX0_canCovered_1 f_X0_27 sh_1 rfl ?_
  refine r_iload_n (pc := 4) h dX0_canCovered_4 rfl ?_
  refine r_ialoadE (pc := 5) h dX0_canCovered_5 sh_7 (hR.sa hi) ?_
  refine r_bipush (pc := 6) h dX0_canCovered_6 cb_6 ?_
  refine r_icmp_ge (pc := 8) (tgt := 29) h dX0_canCovered_8 (by decide) (fun c8 => ?_) (fun c8 => ?_)
  · refine r_iconst (pc := 29) h dX0_canCovered_29 ci_0 ?_
    refine r_ri t (pc := 30) dX0_canCovered_30 (by decide) ?_
    first
      | (have q6 : c 5 i < 6 := Nat.lt_of_not_le fun q => c8 (nI_le q (by omega))
         have q := (canB_lt q6 hk.1 hk.2.1 hcov).mp c22
         exact ⟨by rw [q]; rfl, rfl⟩)
      | (have q6 : c 5 i < 6 := Nat.lt_of_not_le fun q => c8 (nI_le q (by omega))
         have q := mt (canB_lt q6 hk.1 hk.2.1 hcov).mpr c22
         have q2 : canB c i cov = true := by simpa using q
         exact ⟨by rw [q2]; rfl, rfl⟩)
      | (have q6 : 6 ≤ c 5 i := (nI_leI (by decide) (by omega)).mp c8
         exact ⟨by rw [show canB c i cov = false by simp [canB]; omega]; rfl, rfl⟩)
  · refine r_aload_n (pc := 11) h dX0_canCovered_11 rfl ?_
    refine r_iload_n (pc := 12) h dX0_canCovered_12 rfl ?_
    refine r_iload_n (pc := 13) h dX0_canCovered_13 rfl ?_
    refine r_callVi (pc := 14) (As := [_, _]) h dX0_canCovered_14 k_X0_69 gc_1 rfl ⟨Nat.le_of_ble_eq_true rfl, Nat.le_of_ble_eq_true rfl, Nat.le_of_ble_eq_true rfl⟩ (c_X0_braveryCovered_1 hR ho hi) (fun x_14 g1 hq => ?_)
    obtain ⟨rfl, rfl⟩ := hq
    refine r_aload_n (pc := 17) h dX0_canCovered_17 rfl ?_
    refine r_iload_n (pc := 18) h dX0_canCovered_18 rfl ?_
    refine r_callVi (pc := 19) (As := [_]) h dX0_canCovered_19 k_X0_75 gc_1 rfl ⟨Nat.le_of_ble_eq_true rfl, Nat.le_of_ble_eq_true rfl, Nat.le_of_ble_eq_true rfl⟩ (c_X0_needs_1 hR hi) (fun x_19 g1 hq => ?_)
    obtain ⟨rfl, rfl⟩ := hq
    refine r_icmp_lt (pc := 22) (tgt := 29) h dX0_canCovered_22 (by decide) (fun c22 => ?_) (fun c22 => ?_)
    · refine r_iconst (pc := 29) h dX0_canCovered_29 ci_0 ?_
      refine r_ri t (pc := 30) dX0_canCovered_30 (by decide) ?_
      first
        | (have q6 : c 5 i < 6 := Nat.lt_of_not_le fun q => c8 (nI_le q (by omega))
           have q := (canB_lt q6 hk.1 hk.2.1 hcov).mp c22
           exact ⟨by rw [q]; rfl, rfl⟩)
        | (have q6 : c 5 i < 6 := Nat.lt_of_not_le fun q => c8 (nI_le q (by omega))
           have q := mt (canB_lt q6 hk.1 hk.2.1 hcov).mpr c22
           have q2 : canB c i cov = true := by simpa using q
           exact ⟨by rw [q2]; rfl, rfl⟩)
        | (have q6 : 6 ≤ c 5 i := (nI_leI (by decide) (by omega)).mp c8
           exact ⟨by rw [show canB c i cov = false by simp [canB]; omega]; rfl, rfl⟩)
    · refine r_iconst (pc := 25) h dX0_canCovered_25 ci_1 ?_
      refine r_goto (pc := 26) (tgt := 30) h dX0_canCovered_26 (by decide) ?_
      refine r_ri t (pc := 30) dX0_canCovered_30 (by decide) ?_
      first
        | (have q6 : c 5 i < 6 := Nat.lt_of_not_le fun q => c8 (nI_le q (by omega))
           have q := (canB_lt q6 hk.1 hk.2.1 hcov).mp c22
           exact ⟨by rw [q]; rfl, rfl⟩)
        | (have q6 : c 5 i < 6 := Nat.lt_of_not_le fun q => c8 (nI_le q (by omega))
           have q := mt (canB_lt q6 hk.1 hk.2.1 hcov).mpr c22
           have q2 : canB c i cov = true := by simpa using q
           exact ⟨by rw [q2]; rfl, rfl⟩)
        | (have q6 : 6 ≤ c 5 i := (nI_leI (by decide) (by omega)).mp c8
           exact ⟨by rw [show canB c i cov = false by simp [canB]; omega]; rfl, rfl⟩)
set_option maxRecDepth 100000 in
set_option maxHeartbeats 4000000 in
theorem c_X0_lacks_1 {g : gG} {c : gCt} (hR : Rx1 g c) (ho : gok c) {i : Nat} (hi : i < c 7 1) : gCi mX0_lacks [.ref 1, .int (nI i)] g (fun x g1 => x = nI (lkN c i) ∧ g1 = g) := by
  refine gCi_of (own := RX0) (ls0 := [.ref 1, .int (nI i)]) ⟨rfl, pl_X0⟩ rfl (Nat.le_of_ble_eq_true rfl) (fun G (h : gR RX0 cX0_lacks 2 80 G) (t : gTi cX0_lacks .int _ G) => ?_)
  have hk := ho.2.2.2 i hi
  refine r_aload_n (pc := 0) h dX0_lacks_0 rfl ?_
  refine r_getR (pc := 1) h dX0_lacks_1 f_X0_27 sh_1 rfl ?_
  refine r_iload_n (pc := 4) h dX0_lacks_4 rfl ?_
  refine r_ialoadE (pc := 5) h dX0_lacks_5 sh_7 (hR.sa hi) ?_
  refine r_bipush (pc := 6) h dX0_lacks_6 cb_6 ?_
  refine r_icmp_lt (pc := 8) (tgt := 15) h dX0_lacks_8 (by decide) (fun c8 => ?_) (fun c8 => ?_)
  · refine r_aload_n (pc := 15) h dX0_lacks_15 rfl ?_
    refine r_iload_n (pc := 16) h dX0_lacks_16 rfl ?_
    refine r_callVi (pc := 17) (As := [_]) h dX0_lacks_17 k_X0_75 gc_1 rfl ⟨Nat.le_of_ble_eq_true rfl, Nat.le_of_ble_eq_true rfl, Nat.le_of_ble_eq_true rfl⟩ (c_X0_needs_1 hR hi) (fun x_17 g1 hq => ?_)
    obtain ⟨rfl, rfl⟩ := hq
    refine r_aload_n (pc := 20) h dX0_lacks_20 rfl ?_
    refine r_iload_n (pc := 21) h dX0_lacks_21 rfl ?_
    refine r_callVi (pc := 22) (As := [_]) h dX0_lacks_22 k_X0_72 gc_1 rfl ⟨Nat.le_of_ble_eq_true rfl, Nat.le_of_ble_eq_true rfl, Nat.le_of_ble_eq_true rfl⟩ (c_X0_bravery_1 hR ho hi) (fun x_22 g1 hq => ?_)
    obtain ⟨rfl, rfl⟩ := hq
    refine r_isub (pc := 25) h dX0_lacks_25 ?_
    refine r_iconst (pc := 26) h dX0_lacks_26 ci_0 ?_
    refine r_mmax (pc := 27) h dX0_lacks_27 k_X0_78 ⟨Nat.le_of_ble_eq_true rfl, Nat.le_of_ble_eq_true rfl⟩ ?_
    refine r_ri t (pc := 30) dX0_lacks_30 rfl ?_
    first
      | (have q6 : c 5 i < 6 := (nI_ltI (by omega) (by decide)).mp c8
         exact ⟨lkN_eq q6 hk.1 hk.2.1 (covOf_le ho hi), rfl⟩)
      | (have q6 : ¬ c 5 i < 6 := fun q => c8 (nI_lt q (by decide))
         exact ⟨by rw [lkN, if_pos (by omega)], rfl⟩)
  · refine r_iconst (pc := 11) h dX0_lacks_11 ci_0 ?_
    refine r_goto (pc := 12) (tgt := 30) h dX0_lacks_12 (by decide) ?_
    refine r_ri t (pc := 30) dX0_lacks_30 rfl ?_
    first
      | (have q6 : c 5 i < 6 := (nI_ltI (by omega) (by decide)).mp c8
         exact ⟨lkN_eq q6 hk.1 hk.2.1 (covOf_le ho hi), rfl⟩)
      | (have q6 : ¬ c 5 i < 6 := fun q => c8 (nI_lt q (by decide))
         exact ⟨by rw [lkN, if_pos (by omega)], rfl⟩)
set_option maxRecDepth 100000 in
set_option maxHeartbeats 4000000 in
theorem c_X0_allSaid_1 {g : gG} {c : gCt} (hR : Rx1 g c) : gCi mX0_allSaid [.ref 1] g (fun x g1 => x = nI (sumN (c 5) (c 7 1)) ∧ g1 = g) := by
  refine gCi_of (own := RX0) (ls0 := [.ref 1, .null, .null]) ⟨rfl, pl_X0⟩ rfl (Nat.le_of_ble_eq_true rfl) (fun G (h : gR RX0 cX0_allSaid 0 0 G) (t : gTi cX0_allSaid .int _ G) => ?_)
  have hn5 := hR.n5
  have loop : ∀ n i a, i + n = c 7 1 → gfold (fun i a => a + c 5 i) n i a = sumN (c 5) (c 7 1) → G 4 [.ref 1, .int (nI a), .int (nI i)] [] g := by
    intro n
    induction n with
    | zero =>
      intro i a hi hw
      refine r_iload_n (pc := 4) h dX0_allSaid_4 rfl ?_
      refine r_aload_n (pc := 5) h dX0_allSaid_5 rfl ?_
      refine r_getE (pc := 6) h dX0_allSaid_6 f_X0_37 sh_1 rfl (hR.nc) ?_
      refine r_icmp_ge (pc := 9) (tgt := 27) h dX0_allSaid_9 (by decide) (fun c9 => ?_) (fun c9 => absurd (nI_le (by omega) (by omega)) c9)
      refine r_iload_n (pc := 27) h dX0_allSaid_27 rfl ?_
      refine r_ri t (pc := 28) dX0_allSaid_28 rfl ?_
      exact ⟨by rw [← hw]; rfl, rfl⟩
    | succ n ih =>
      intro i a hin hw
      have hi : i < c 7 1 := by omega
      refine r_iload_n (pc := 4) h dX0_allSaid_4 rfl ?_
      refine r_aload_n (pc := 5) h dX0_allSaid_5 rfl ?_
      refine r_getE (pc := 6) h dX0_allSaid_6 f_X0_37 sh_1 rfl (hR.nc) ?_
      refine r_icmp_ge (pc := 9) (tgt := 27) h dX0_allSaid_9 (by decide) (fun c9 => absurd c9 (nI_ge hi (by omega))) (fun c9 => ?_)
      refine r_iload_n (pc := 12) h dX0_allSaid_12 rfl ?_
      refine r_aload_n (pc := 13) h dX0_allSaid_13 rfl ?_
      refine r_getR (pc := 14) h dX0_allSaid_14 f_X0_27 sh_1 rfl ?_
      refine r_iload_n (pc := 17) h dX0_allSaid_17 rfl ?_
      refine r_ialoadE (pc := 18) h dX0_allSaid_18 sh_7 (hR.sa hi) ?_
      refine r_iadd (pc := 19) h dX0_allSaid_19 ?_
      refine r_top h (nI_add _ _) ?_
      refine r_istore_n (pc := 20) (ls2 := [_, _, _]) h dX0_allSaid_20 (Nat.le_of_ble_eq_true rfl) rfl ?_
      refine r_iinc (pc := 21) (ls2 := [_, _, _]) h dX0_allSaid_21 rfl (ic1 _) rfl ?_
      refine r_goto (pc := 24) (tgt := 4) h dX0_allSaid_24 (by decide) ?_
      exact ih (i + 1) _ (by omega) hw
  refine r_iconst (pc := 0) h dX0_allSaid_0 ci_0 ?_
  refine r_istore_n (pc := 1) (ls2 := [_, _, _]) h dX0_allSaid_1 (Nat.le_of_ble_eq_true rfl) rfl ?_
  refine r_iconst (pc := 2) h dX0_allSaid_2 ci_0 ?_
  refine r_istore_n (pc := 3) (ls2 := [_, _, _]) h dX0_allSaid_3 (Nat.le_of_ble_eq_true rfl) rfl ?_
  exact loop (c 7 1) 0 0 (by omega) rfl
set_option maxRecDepth 100000 in
set_option maxHeartbeats 4000000 in
theorem c_X0_allFear_1 {g : gG} {c : gCt} (hR : Rx1 g c) : gCi mX0_allFear [.ref 1] g (fun x g1 => x = nI (sumN (c 3) (c 7 1)) ∧ g1 = g) := by
  refine gCi_of (own := RX0) (ls0 := [.ref 1, .null, .null]) ⟨rfl, pl_X0⟩ rfl (Nat.le_of_ble_eq_true rfl) (fun G (h : gR RX0 cX0_allFear 0 0 G) (t : gTi cX0_allFear .int _ G) => ?_)
  have hn5 := hR.n5
  have loop : ∀ n i a, i + n = c 7 1 → gfold (fun i a => a + c 3 i) n i a = sumN (c 3) (c 7 1) → G 4 [.ref 1, .int (nI a), .int (nI i)] [] g := by
    intro n
    induction n with
    | zero =>
      intro i a hi hw
      refine r_iload_n (pc := 4) h dX0_allFear_4 rfl ?_
      refine r_aload_n (pc := 5) h dX0_allFear_5 rfl ?_
      refine r_getE (pc := 6) h dX0_allFear_6 f_X0_37 sh_1 rfl (hR.nc) ?_
      refine r_icmp_ge (pc := 9) (tgt := 27) h dX0_allFear_9 (by decide) (fun c9 => ?_) (fun c9 => absurd (nI_le (by omega) (by omega)) c9)
      refine r_iload_n (pc := 27) h dX0_allFear_27 rfl ?_
      refine r_ri t (pc := 28) dX0_allFear_28 rfl ?_
      exact ⟨by rw [← hw]; rfl, rfl⟩
    | succ n ih =>
      intro i a hin hw
      have hi : i < c 7 1 := by omega
      refine r_iload_n (pc := 4) h dX0_allFear_4 rfl ?_
      refine r_aload_n (pc := 5) h dX0_allFear_5 rfl ?_
      refine r_getE (pc := 6) h dX0_allFear_6 f_X0_37 sh_1 rfl (hR.nc) ?_
      refine r_icmp_ge (pc := 9) (tgt := 27) h dX0_allFear_9 (by decide) (fun c9 => absurd c9 (nI_ge hi (by omega))) (fun c9 => ?_)
      refine r_iload_n (pc := 12) h dX0_allFear_12 rfl ?_
      refine r_aload_n (pc := 13) h dX0_allFear_13 rfl ?_
      refine r_getR (pc := 14) h dX0_allFear_14 f_X0_21 sh_1 rfl ?_
      refine r_iload_n (pc := 17) h dX0_allFear_17 rfl ?_
      refine r_ialoadE (pc := 18) h dX0_allFear_18 sh_5 (hR.fe hi) ?_
      refine r_iadd (pc := 19) h dX0_allFear_19 ?_
      refine r_top h (nI_add _ _) ?_
      refine r_istore_n (pc := 20) (ls2 := [_, _, _]) h dX0_allFear_20 (Nat.le_of_ble_eq_true rfl) rfl ?_
      refine r_iinc (pc := 21) (ls2 := [_, _, _]) h dX0_allFear_21 rfl (ic1 _) rfl ?_
      refine r_goto (pc := 24) (tgt := 4) h dX0_allFear_24 (by decide) ?_
      exact ih (i + 1) _ (by omega) hw
  refine r_iconst (pc := 0) h dX0_allFear_0 ci_0 ?_
  refine r_istore_n (pc := 1) (ls2 := [_, _, _]) h dX0_allFear_1 (Nat.le_of_ble_eq_true rfl) rfl ?_
  refine r_iconst (pc := 2) h dX0_allFear_2 ci_0 ?_
  refine r_istore_n (pc := 3) (ls2 := [_, _, _]) h dX0_allFear_3 (Nat.le_of_ble_eq_true rfl) rfl ?_
  exact loop (c 7 1) 0 0 (by omega) rfl
set_option maxRecDepth 100000 in
set_option maxHeartbeats 4000000 in
theorem c_X0_wearer_9 {g : gG} {c : gCt} (hR : Rx9 g c) (ho : gok c) {s : Nat} (hs : s < 2147483648) : gCi mX0_wearer [.ref 9, .int (nI s)] g (fun x g1 => x = oI (wr c s) ∧ g1 = g) := by
  refine gCi_of (own := RX0) (ls0 := [.ref 9, .int (nI s), .null]) ⟨rfl, pl_X0⟩ rfl (Nat.le_of_ble_eq_true rfl) (fun G (h : gR RX0 cX0_wearer 0 0 G) (t : gTi cX0_wearer .int _ G) => ?_)
  have hn5 := hR.n5
  have hn6 := hR.n6
  have loop : ∀ n i, i + n = c 7 1 → wr c s = gfind (fun i => c 6 i == s + 1) n i → G 2 [.ref 9, .int (nI s), .int (nI i)] [] g := by
    intro n
    induction n with
    | zero =>
      intro i hi hw
      refine r_iload_n (pc := 2) h dX0_wearer_2 rfl ?_
      refine r_aload_n (pc := 3) h dX0_wearer_3 rfl ?_
      refine r_getE (pc := 4) h dX0_wearer_4 f_X0_37 sh_9 rfl (hR.nc) ?_
      refine r_icmp_ge (pc := 7) (tgt := 28) h dX0_wearer_7 (by decide) (fun c7 => ?_) (fun c7 => absurd (nI_le (by omega) (by omega)) c7)
      refine r_bipush (pc := 28) h dX0_wearer_28 cb_m9 ?_
      refine r_ri t (pc := 30) dX0_wearer_30 rfl ?_
      exact ⟨by rw [hw]; rfl, rfl⟩
    | succ n ih =>
      intro i hin hw
      have hi : i < c 7 1 := by omega
      have hw6 : c 6 i < 2147483648 := by have := (ho.2.2.2 i hi).2.2.2; omega
      refine r_iload_n (pc := 2) h dX0_wearer_2 rfl ?_
      refine r_aload_n (pc := 3) h dX0_wearer_3 rfl ?_
      refine r_getE (pc := 4) h dX0_wearer_4 f_X0_37 sh_9 rfl (hR.nc) ?_
      refine r_icmp_ge (pc := 7) (tgt := 28) h dX0_wearer_7 (by decide) (fun c7 => absurd c7 (nI_ge hi (by omega))) (fun c7 => ?_)
      refine r_aload_n (pc := 10) h dX0_wearer_10 rfl ?_
      refine r_getR (pc := 11) h dX0_wearer_11 f_X0_30 sh_9 rfl ?_
      refine r_iload_n (pc := 14) h dX0_wearer_14 rfl ?_
      refine r_ialoadE (pc := 15) h dX0_wearer_15 sh_16 (hR.wo hi) ?_
      refine r_iload_n (pc := 16) h dX0_wearer_16 rfl ?_
      refine r_icmp_ne (pc := 17) (tgt := 22) h dX0_wearer_17 (by decide) (fun c17 => ?_) (fun c17 => ?_)
      · refine r_iinc (pc := 22) (ls2 := [_, _, _]) h dX0_wearer_22 rfl (ic1 _) rfl ?_
        refine r_goto (pc := 25) (tgt := 2) h dX0_wearer_25 (by decide) ?_
        exact ih (i + 1) (by omega) (by rw [hw, gfind, if_neg (by simpa using fun q => c17 ((wz_eq hw6 hs).mpr q))])
      · refine r_iload_n (pc := 20) h dX0_wearer_20 rfl ?_
        refine r_ri t (pc := 21) dX0_wearer_21 rfl ?_
        exact ⟨by rw [hw, gfind, if_pos (by simpa using (wz_eq hw6 hs).mp c17)]; rfl, rfl⟩
  refine r_iconst (pc := 0) h dX0_wearer_0 ci_0 ?_
  refine r_istore_n (pc := 1) (ls2 := [_, _, _]) h dX0_wearer_1 (Nat.le_of_ble_eq_true rfl) rfl ?_
  exact loop (c 7 1) 0 (by omega) rfl
set_option maxRecDepth 100000 in
set_option maxHeartbeats 4000000 in
theorem c_X0_coversWith_9 {g : gG} {c : gCt} (hR : Rx9 g c) (ho : gok c) {s r : Nat} (hs : s < c 7 0) (hr : r ≤ 9) : gCi mX0_coversWith [.ref 9, .int (nI s), .int (nI r)] g (fun x g1 => x = nI (covN (c 0 s) (c 1 s) r) ∧ g1 = g) := by
  refine gCi_of (own := RX0) (ls0 := [.ref 9, .int (nI s), .int (nI r), .null, .null]) ⟨rfl, pl_X0⟩ rfl (Nat.le_of_ble_eq_true rfl) (fun G (h : gR RX0 cX0_coversWith 0 0 G) (t : gTi cX0_coversWith .int _ G) => ?_)
  have hk := ho.2.2.1 s hs
  refine r_aload_n (pc := 0) h dX0_coversWith_0 rfl ?_
  refine r_getR (pc := 1) h dX0_coversWith_1 f_X0_15 sh_9 rfl ?_
  refine r_iload_n (pc := 4) h dX0_coversWith_4 rfl ?_
  refine r_ialoadE (pc := 5) h dX0_coversWith_5 sh_11 (hR.fg hs) ?_
  refine r_iconst (pc := 6) h dX0_coversWith_6 ci_4 ?_
  refine r_iadd (pc := 7) h dX0_coversWith_7 ?_
  refine r_iload_n (pc := 8) h dX0_coversWith_8 rfl ?_
  refine r_isub (pc := 9) h dX0_coversWith_9 ?_
  refine r_istore_n (pc := 10) (ls2 := [_, _, _, _, _]) h dX0_coversWith_10 (Nat.le_of_ble_eq_true rfl) rfl ?_
  refine r_iload_n (pc := 11) h dX0_coversWith_11 rfl ?_
  refine r_if_ge (pc := 12) (tgt := 17) h dX0_coversWith_12 (by decide) (fun c12 => ?_) (fun c12 => ?_)
  · refine r_iload_n (pc := 17) h dX0_coversWith_17 rfl ?_
    refine r_gets (q := 101) (pc := 18) h dX0_coversWith_18 (by decide) (Or.inl ⟨rfl, rfl⟩) ?_
    refine r_aload_n (pc := 21) h dX0_coversWith_21 rfl ?_
    refine r_getR (pc := 22) h dX0_coversWith_22 f_X0_9 sh_9 rfl ?_
    refine r_iload_n (pc := 25) h dX0_coversWith_25 rfl ?_
    refine r_ialoadE (pc := 26) h dX0_coversWith_26 sh_10 (hR.kd hs) ?_
    refine r_tabldE (pc := 27) h dX0_coversWith_27 (by decide) (tabE hk.1) ?_
    refine r_imul (pc := 28) h dX0_coversWith_28 ?_
    refine r_iconst (pc := 29) h dX0_coversWith_29 ci_2 ?_
    refine r_idiv (pc := 30) h dX0_coversWith_30 (by decide) ?_
    refine r_gets (q := 102) (pc := 31) h dX0_coversWith_31 (by decide) (Or.inl ⟨rfl, rfl⟩) ?_
    refine r_aload_n (pc := 34) h dX0_coversWith_34 rfl ?_
    refine r_getR (pc := 35) h dX0_coversWith_35 f_X0_9 sh_9 rfl ?_
    refine r_iload_n (pc := 38) h dX0_coversWith_38 rfl ?_
    refine r_ialoadE (pc := 39) h dX0_coversWith_39 sh_10 (hR.kd hs) ?_
    refine r_tabldE (pc := 40) h dX0_coversWith_40 (by decide) (tabE hk.1) ?_
    refine r_iadd (pc := 41) h dX0_coversWith_41 ?_
    refine r_istore (pc := 42) (ls2 := [_, _, _, _, _]) h dX0_coversWith_42 (Nat.le_of_ble_eq_true rfl) rfl ?_
    refine r_iload (pc := 44) h dX0_coversWith_44 rfl ?_
    refine r_if_ge (pc := 46) (tgt := 53) h dX0_coversWith_46 (by decide) (fun c46 => ?_) (fun c46 => ?_)
    · refine r_iload (pc := 53) h dX0_coversWith_53 rfl ?_
      refine r_ri t (pc := 55) dX0_coversWith_55 rfl ?_
      have e := covL _ hk.1 (c 1 s) (by omega) r (by omega)
      first
        | (rw [if_pos c12, if_pos c46] at e; exact ⟨e, rfl⟩)
        | (rw [if_pos c12, if_neg c46] at e; exact ⟨e, rfl⟩)
        | (rw [if_neg c12, if_pos c46] at e; exact ⟨e, rfl⟩)
        | (rw [if_neg c12, if_neg c46] at e; exact ⟨e, rfl⟩)
    · refine r_iconst (pc := 49) h dX0_coversWith_49 ci_0 ?_
      refine r_goto (pc := 50) (tgt := 55) h dX0_coversWith_50 (by decide) ?_
      refine r_ri t (pc := 55) dX0_coversWith_55 rfl ?_
      have e := covL _ hk.1 (c 1 s) (by omega) r (by omega)
      first
        | (rw [if_pos c12, if_pos c46] at e; exact ⟨e, rfl⟩)
        | (rw [if_pos c12, if_neg c46] at e; exact ⟨e, rfl⟩)
        | (rw [if_neg c12, if_pos c46] at e; exact ⟨e, rfl⟩)
        | (rw [if_neg c12, if_neg c46] at e; exact ⟨e, rfl⟩)
  · refine r_iconst (pc := 15) h dX0_coversWith_15 ci_0 ?_
    refine r_istore_n (pc := 16) (ls2 := [_, _, _, _, _]) h dX0_coversWith_16 (Nat.le_of_ble_eq_true rfl) rfl ?_
    refine r_iload_n (pc := 17) h dX0_coversWith_17 rfl ?_
    refine r_gets (q := 101) (pc := 18) h dX0_coversWith_18 (by decide) (Or.inl ⟨rfl, rfl⟩) ?_
    refine r_aload_n (pc := 21) h dX0_coversWith_21 rfl ?_
    refine r_getR (pc := 22) h dX0_coversWith_22 f_X0_9 sh_9 rfl ?_
    refine r_iload_n (pc := 25) h dX0_coversWith_25 rfl ?_
    refine r_ialoadE (pc := 26) h dX0_coversWith_26 sh_10 (hR.kd hs) ?_
    refine r_tabldE (pc := 27) h dX0_coversWith_27 (by decide) (tabE hk.1) ?_
    refine r_imul (pc := 28) h dX0_coversWith_28 ?_
    refine r_iconst (pc := 29) h dX0_coversWith_29 ci_2 ?_
    refine r_idiv (pc := 30) h dX0_coversWith_30 (by decide) ?_
    refine r_gets (q := 102) (pc := 31) h dX0_coversWith_31 (by decide) (Or.inl ⟨rfl, rfl⟩) ?_
    refine r_aload_n (pc := 34) h dX0_coversWith_34 rfl ?_
    refine r_getR (pc := 35) h dX0_coversWith_35 f_X0_9 sh_9 rfl ?_
    refine r_iload_n (pc := 38) h dX0_coversWith_38 rfl ?_
    refine r_ialoadE (pc := 39) h dX0_coversWith_39 sh_10 (hR.kd hs) ?_
    refine r_tabldE (pc := 40) h dX0_coversWith_40 (by decide) (tabE hk.1) ?_
    refine r_iadd (pc := 41) h dX0_coversWith_41 ?_
    refine r_istore (pc := 42) (ls2 := [_, _, _, _, _]) h dX0_coversWith_42 (Nat.le_of_ble_eq_true rfl) rfl ?_
    refine r_iload (pc := 44) h dX0_coversWith_44 rfl ?_
    refine r_if_ge (pc := 46) (tgt := 53) h dX0_coversWith_46 (by decide) (fun c46 => ?_) (fun c46 => ?_)
    · refine r_iload (pc := 53) h dX0_coversWith_53 rfl ?_
      refine r_ri t (pc := 55) dX0_coversWith_55 rfl ?_
      have e := covL _ hk.1 (c 1 s) (by omega) r (by omega)
      first
        | (rw [if_pos c12, if_pos c46] at e; exact ⟨e, rfl⟩)
        | (rw [if_pos c12, if_neg c46] at e; exact ⟨e, rfl⟩)
        | (rw [if_neg c12, if_pos c46] at e; exact ⟨e, rfl⟩)
        | (rw [if_neg c12, if_neg c46] at e; exact ⟨e, rfl⟩)
    · refine r_iconst (pc := 49) h dX0_coversWith_49 ci_0 ?_
      refine r_goto (pc := 50) (tgt := 55) h dX0_coversWith_50 (by decide) ?_
      refine r_ri t (pc := 55) dX0_coversWith_55 rfl ?_
      have e := covL _ hk.1 (c 1 s) (by omega) r (by omega)
      first
        | (rw [if_pos c12, if_pos c46] at e; exact ⟨e, rfl⟩)
        | (rw [if_pos c12, if_neg c46] at e; exact ⟨e, rfl⟩)
        | (rw [if_neg c12, if_pos c46] at e; exact ⟨e, rfl⟩)
        | (rw [if_neg c12, if_neg c46] at e; exact ⟨e, rfl⟩)
set_option maxRecDepth 100000 in
set_option maxHeartbeats 4000000 in
theorem c_X0_covers_9 {g : gG} {c : gCt} (hR : Rx9 g c) (ho : gok c) {s : Nat} (hs : s < c 7 0) : gCi mX0_covers [.ref 9, .int (nI s)] g (fun x g1 => x = nI (cvr c s) ∧ g1 = g) := by
  refine gCi_of (own := RX0) (ls0 := [.ref 9, .int (nI s)]) ⟨rfl, pl_X0⟩ rfl (Nat.le_of_ble_eq_true rfl) (fun G (h : gR RX0 cX0_covers 1 40 G) (t : gTi cX0_covers .int _ G) => ?_)
  refine r_aload_n (pc := 0) h dX0_covers_0 rfl ?_
  refine r_iload_n (pc := 1) h dX0_covers_1 rfl ?_
  refine r_aload_n (pc := 2) h dX0_covers_2 rfl ?_
  refine r_getR (pc := 3) h dX0_covers_3 f_X0_18 sh_9 rfl ?_
  refine r_iload_n (pc := 6) h dX0_covers_6 rfl ?_
  refine r_ialoadE (pc := 7) h dX0_covers_7 sh_12 (hR.ru hs) ?_
  refine r_callVi (pc := 8) (As := [_, _]) h dX0_covers_8 k_X0_56 gc_9 rfl ⟨Nat.le_of_ble_eq_true rfl, Nat.le_of_ble_eq_true rfl, Nat.le_of_ble_eq_true rfl⟩ (c_X0_coversWith_9 hR ho hs (ho.2.2.1 s hs).2.2) (fun x_8 g1 hq => ?_)
  obtain ⟨rfl, rfl⟩ := hq
  refine r_ri t (pc := 11) dX0_covers_11 rfl ?_
  exact ⟨rfl, rfl⟩
set_option maxRecDepth 100000 in
set_option maxHeartbeats 4000000 in
theorem c_X0_chafe_9 {g : gG} {c : gCt} (hR : Rx9 g c) (ho : gok c) {s d : Nat} (hs : s < c 7 0) (hd : d < 2147483648) : gCi mX0_chafe [.ref 9, .int (nI s), .int (nI d)] g (fun x g1 => x = nI (chaN (c 0 s) (c 2 s) d) ∧ g1 = g) := by
  refine gCi_of (own := RX0) (ls0 := [.ref 9, .int (nI s), .int (nI d), .null]) ⟨rfl, pl_X0⟩ rfl (Nat.le_of_ble_eq_true rfl) (fun G (h : gR RX0 cX0_chafe 0 0 G) (t : gTi cX0_chafe .int _ G) => ?_)
  have hk := ho.2.2.1 s hs
  refine r_gets (q := 103) (pc := 0) h dX0_chafe_0 (by decide) (Or.inl ⟨rfl, rfl⟩) ?_
  refine r_aload_n (pc := 3) h dX0_chafe_3 rfl ?_
  refine r_getR (pc := 4) h dX0_chafe_4 f_X0_9 sh_9 rfl ?_
  refine r_iload_n (pc := 7) h dX0_chafe_7 rfl ?_
  refine r_ialoadE (pc := 8) h dX0_chafe_8 sh_10 (hR.kd hs) ?_
  refine r_tabldE (pc := 9) h dX0_chafe_9 (by decide) (tabE hk.1) ?_
  refine r_istore_n (pc := 10) (ls2 := [_, _, _, _]) h dX0_chafe_10 (Nat.le_of_ble_eq_true rfl) rfl ?_
  refine r_aload_n (pc := 11) h dX0_chafe_11 rfl ?_
  refine r_getR (pc := 12) h dX0_chafe_12 f_X0_9 sh_9 rfl ?_
  refine r_iload_n (pc := 15) h dX0_chafe_15 rfl ?_
  refine r_ialoadE (pc := 16) h dX0_chafe_16 sh_10 (hR.kd hs) ?_
  refine r_iconst (pc := 17) h dX0_chafe_17 ci_4 ?_
  refine r_icmp_ne (pc := 18) (tgt := 32) h dX0_chafe_18 (by decide) (fun c18 => ?_) (fun c18 => ?_)
  · refine r_aload_n (pc := 32) h dX0_chafe_32 rfl ?_
    refine r_getR (pc := 33) h dX0_chafe_33 f_X0_9 sh_9 rfl ?_
    refine r_iload_n (pc := 36) h dX0_chafe_36 rfl ?_
    refine r_ialoadE (pc := 37) h dX0_chafe_37 sh_10 (hR.kd hs) ?_
    refine r_iconst (pc := 38) h dX0_chafe_38 ci_5 ?_
    refine r_icmp_ne (pc := 39) (tgt := 50) h dX0_chafe_39 (by decide) (fun c39 => ?_) (fun c39 => ?_)
    · refine r_iload_n (pc := 50) h dX0_chafe_50 rfl ?_
      refine r_ri t (pc := 51) dX0_chafe_51 rfl ?_
      have n4 : ¬ c 0 s = 4 := fun q => c18 (by rw [q])
      first
        | (have e5 : c 0 s = 5 := (nI_eq (by omega) (by decide)).mp c39
           have e := (chaL _ hk.1).2.1 e5
           refine ⟨?_, rfl⟩
           rw [e, pk_rem (by omega) (by decide) (by decide), nI_add, e5]
           rfl)
        | (have n5 : ¬ c 0 s = 5 := fun q => c39 (by rw [q])
           have e := (chaL _ hk.1).2.2 n4 n5 (c 2 s) (by omega) 0 (by decide)
           refine ⟨?_, rfl⟩
           rw [e]
           unfold chaN
           simp only [n4, if_false]
           have := hk.1
           repeat' split
           all_goals first | rfl | omega)
    · refine r_iload_n (pc := 42) h dX0_chafe_42 rfl ?_
      refine r_iload_n (pc := 43) h dX0_chafe_43 rfl ?_
      refine r_iconst (pc := 44) h dX0_chafe_44 ci_2 ?_
      refine r_irem (pc := 45) h dX0_chafe_45 (by decide) ?_
      refine r_iadd (pc := 46) h dX0_chafe_46 ?_
      refine r_goto (pc := 47) (tgt := 51) h dX0_chafe_47 (by decide) ?_
      refine r_ri t (pc := 51) dX0_chafe_51 rfl ?_
      have n4 : ¬ c 0 s = 4 := fun q => c18 (by rw [q])
      first
        | (have e5 : c 0 s = 5 := (nI_eq (by omega) (by decide)).mp c39
           have e := (chaL _ hk.1).2.1 e5
           refine ⟨?_, rfl⟩
           rw [e, pk_rem (by omega) (by decide) (by decide), nI_add, e5]
           rfl)
        | (have n5 : ¬ c 0 s = 5 := fun q => c39 (by rw [q])
           have e := (chaL _ hk.1).2.2 n4 n5 (c 2 s) (by omega) 0 (by decide)
           refine ⟨?_, rfl⟩
           rw [e]
           unfold chaN
           simp only [n4, if_false]
           have := hk.1
           repeat' split
           all_goals first | rfl | omega)
  · refine r_iload_n (pc := 21) h dX0_chafe_21 rfl ?_
    refine r_aload_n (pc := 22) h dX0_chafe_22 rfl ?_
    refine r_getR (pc := 23) h dX0_chafe_23 f_X0_18 sh_9 rfl ?_
    refine r_iload_n (pc := 26) h dX0_chafe_26 rfl ?_
    refine r_ialoadE (pc := 27) h dX0_chafe_27 sh_12 (hR.ru hs) ?_
    refine r_iconst (pc := 28) h dX0_chafe_28 ci_3 ?_
    refine r_idiv (pc := 29) h dX0_chafe_29 (by decide) ?_
    refine r_iadd (pc := 30) h dX0_chafe_30 ?_
    refine r_ri t (pc := 31) dX0_chafe_31 rfl ?_
    have e4 : c 0 s = 4 := (nI_eq (by omega) (by decide)).mp c18
    have e := (chaL _ hk.1).1 e4
    refine ⟨?_, rfl⟩
    rw [e, pk_div (by omega) (by decide) (by decide), nI_add, e4]
    rfl
set_option maxRecDepth 100000 in
set_option maxHeartbeats 4000000 in
theorem c_X0_braveryCovered_9 {g : gG} {c : gCt} (hR : Rx9 g c) (ho : gok c) {i cov : Nat} (hi : i < c 7 1) : gCi mX0_braveryCovered [.ref 9, .int (nI i), .int (nI cov)] g (fun x g1 => x = brI c i cov ∧ g1 = g) := by
  refine gCi_of (own := RX0) (ls0 := [.ref 9, .int (nI i), .int (nI cov)]) ⟨rfl, pl_X0⟩ rfl (Nat.le_of_ble_eq_true rfl) (fun G (h : gR RX0 cX0_braveryCovered 0 0 G) (t : gTi cX0_braveryCovered .int _ G) => ?_)
  have hk := ho.2.2.2 i hi
  refine r_iload_n (pc := 0) h dX0_braveryCovered_0 rfl ?_
  refine r_aload_n (pc := 1) h dX0_braveryCovered_1 rfl ?_
  refine r_getR (pc := 2) h dX0_braveryCovered_2 f_X0_27 sh_9 rfl ?_
  refine r_iload_n (pc := 5) h dX0_braveryCovered_5 rfl ?_
  refine r_ialoadE (pc := 6) h dX0_braveryCovered_6 sh_15 (hR.sa hi) ?_
  refine r_iadd (pc := 7) h dX0_braveryCovered_7 ?_
  refine r_aload_n (pc := 8) h dX0_braveryCovered_8 rfl ?_
  refine r_getR (pc := 9) h dX0_braveryCovered_9 f_X0_21 sh_9 rfl ?_
  refine r_iload_n (pc := 12) h dX0_braveryCovered_12 rfl ?_
  refine r_ialoadE (pc := 13) h dX0_braveryCovered_13 sh_13 (hR.fe hi) ?_
  refine r_isub (pc := 14) h dX0_braveryCovered_14 ?_
  refine r_aload_n (pc := 15) h dX0_braveryCovered_15 rfl ?_
  refine r_getR (pc := 16) h dX0_braveryCovered_16 f_X0_24 sh_9 rfl ?_
  refine r_iload_n (pc := 19) h dX0_braveryCovered_19 rfl ?_
  refine r_ialoadE (pc := 20) h dX0_braveryCovered_20 sh_14 (hR.so hi) ?_
  refine r_iconst (pc := 21) h dX0_braveryCovered_21 ci_3 ?_
  refine r_idiv (pc := 22) h dX0_braveryCovered_22 (by decide) ?_
  refine r_isub (pc := 23) h dX0_braveryCovered_23 ?_
  refine r_ri t (pc := 24) dX0_braveryCovered_24 rfl ?_
  exact ⟨by rw [pk_div (by omega) (by decide) (by decide)]; rfl, rfl⟩
set_option maxRecDepth 100000 in
set_option maxHeartbeats 4000000 in
theorem c_X0_bravery_9 {g : gG} {c : gCt} (hR : Rx9 g c) (ho : gok c) {i : Nat} (hi : i < c 7 1) : gCi mX0_bravery [.ref 9, .int (nI i)] g (fun x g1 => x = brI c i (covOf c i) ∧ g1 = g) := by
  refine gCi_of (own := RX0) (ls0 := [.ref 9, .int (nI i), .null]) ⟨rfl, pl_X0⟩ rfl (Nat.le_of_ble_eq_true rfl) (fun G (h : gR RX0 cX0_bravery 1 40 G) (t : gTi cX0_bravery .int _ G) => ?_)
  have hk := ho.2.2.2 i hi
  have hn6 := hR.n6
  refine r_aload_n (pc := 0) h dX0_bravery_0 rfl ?_
  refine r_getR (pc := 1) h dX0_bravery_1 f_X0_30 sh_9 rfl ?_
  refine r_iload_n (pc := 4) h dX0_bravery_4 rfl ?_
  refine r_ialoadE (pc := 5) h dX0_bravery_5 sh_16 (hR.wo hi) ?_
  refine r_istore_n (pc := 6) (ls2 := [_, _, _]) h dX0_bravery_6 (Nat.le_of_ble_eq_true rfl) rfl ?_
  refine r_aload_n (pc := 7) h dX0_bravery_7 rfl ?_
  refine r_iload_n (pc := 8) h dX0_bravery_8 rfl ?_
  refine r_iload_n (pc := 9) h dX0_bravery_9 rfl ?_
  refine r_bipush (pc := 10) h dX0_bravery_10 cb_m9 ?_
  refine r_icmp_ne (pc := 12) (tgt := 19) h dX0_bravery_12 (by decide) (fun c12 => ?_) (fun c12 => ?_)
  · obtain ⟨s, e6⟩ : ∃ s, c 6 i = s + 1 := ⟨c 6 i - 1, by have n0 : ¬ c 6 i = 0 := fun q => c12 ((wz_none (by omega)).mpr q); omega⟩
    have hs : s < c 7 0 := by omega
    rw [show wz (c 6 i) = nI s by rw [e6]; exact wz_s s]
    refine r_aload_n (pc := 19) h dX0_bravery_19 rfl ?_
    refine r_iload_n (pc := 20) h dX0_bravery_20 rfl ?_
    refine r_aload_n (pc := 21) h dX0_bravery_21 rfl ?_
    refine r_getR (pc := 22) h dX0_bravery_22 f_X0_18 sh_9 rfl ?_
    refine r_iload_n (pc := 25) h dX0_bravery_25 rfl ?_
    refine r_ialoadE (pc := 26) h dX0_bravery_26 sh_12 (hR.ru hs) ?_
    refine r_callVi (pc := 27) (As := [_, _]) h dX0_bravery_27 k_X0_56 gc_9 rfl ⟨Nat.le_of_ble_eq_true rfl, Nat.le_of_ble_eq_true rfl, Nat.le_of_ble_eq_true rfl⟩ (c_X0_coversWith_9 hR ho hs (ho.2.2.1 s hs).2.2) (fun x_27 g1 hq => ?_)
    obtain ⟨rfl, rfl⟩ := hq
    refine r_callVi (pc := 30) (As := [_, _]) h dX0_bravery_30 k_X0_69 gc_9 rfl ⟨Nat.le_of_ble_eq_true rfl, Nat.le_of_ble_eq_true rfl, Nat.le_of_ble_eq_true rfl⟩ (c_X0_braveryCovered_9 hR ho hi) (fun x_30 g1 hq => ?_)
    obtain ⟨rfl, rfl⟩ := hq
    refine r_ri t (pc := 33) dX0_bravery_33 rfl ?_
    exact ⟨by simp [covOf, cvr, e6], rfl⟩
  · have e6 : c 6 i = 0 := (wz_none (by omega)).mp c12
    refine r_iconst (pc := 15) h dX0_bravery_15 ci_0 ?_
    refine r_goto (pc := 16) (tgt := 30) h dX0_bravery_16 (by decide) ?_
    refine r_callVi (pc := 30) (As := [_, _]) h dX0_bravery_30 k_X0_69 gc_9 rfl ⟨Nat.le_of_ble_eq_true rfl, Nat.le_of_ble_eq_true rfl, Nat.le_of_ble_eq_true rfl⟩ (c_X0_braveryCovered_9 hR ho hi) (fun x_30 g1 hq => ?_)
    obtain ⟨rfl, rfl⟩ := hq
    refine r_ri t (pc := 33) dX0_bravery_33 rfl ?_
    exact ⟨by simp [covOf, cvr, e6], rfl⟩
set_option maxRecDepth 100000 in
set_option maxHeartbeats 4000000 in
theorem c_X0_needs_9 {g : gG} {c : gCt} (hR : Rx9 g c) {i : Nat} (hi : i < c 7 1) : gCi mX0_needs [.ref 9, .int (nI i)] g (fun x g1 => x = neI c i ∧ g1 = g) := by
  refine gCi_of (own := RX0) (ls0 := [.ref 9, .int (nI i)]) ⟨rfl, pl_X0⟩ rfl (Nat.le_of_ble_eq_true rfl) (fun G (h : gR RX0 cX0_needs 0 0 G) (t : gTi cX0_needs .int _ G) => ?_)
  refine r_iconst (pc := 0) h dX0_needs_0 ci_2 ?_
  refine r_aload_n (pc := 1) h dX0_needs_1 rfl ?_
  refine r_getR (pc := 2) h dX0_needs_2 f_X0_27 sh_9 rfl ?_
  refine r_iload_n (pc := 5) h dX0_needs_5 rfl ?_
  refine r_ialoadE (pc := 6) h dX0_needs_6 sh_15 (hR.sa hi) ?_
  refine r_imul (pc := 7) h dX0_needs_7 ?_
  refine r_iconst (pc := 8) h dX0_needs_8 ci_2 ?_
  refine r_iadd (pc := 9) h dX0_needs_9 ?_
  refine r_bipush (pc := 10) h dX0_needs_10 cb_6 ?_
  refine r_isub (pc := 12) h dX0_needs_12 ?_
  refine r_ri t (pc := 13) dX0_needs_13 rfl ?_
  exact ⟨rfl, rfl⟩
set_option maxRecDepth 100000 in
set_option maxHeartbeats 4000000 in
theorem c_X0_can_9 {g : gG} {c : gCt} (hR : Rx9 g c) (ho : gok c) {i : Nat} (hi : i < c 7 1) : gCi mX0_can [.ref 9, .int (nI i)] g (fun x g1 => x = bI (canB c i (covOf c i)) ∧ g1 = g) := by
  refine gCi_of (own := RX0) (ls0 := [.ref 9, .int (nI i)]) ⟨rfl, pl_X0⟩ rfl (Nat.le_of_ble_eq_true rfl) (fun G (h : gR RX0 cX0_can 2 80 G) (t : gTi cX0_can .boolean _ G) => ?_)
  have hk := ho.2.2.2 i hi
  refine r_aload_n (pc := 0) h dX0_can_0 rfl ?_
  refine r_getR (pc := 1) h dX0_can_1 f_X0_27 sh_9 rfl ?_
  refine r_iload_n (pc := 4) h dX0_can_4 rfl ?_
  refine r_ialoadE (pc := 5) h dX0_can_5 sh_15 (hR.sa hi) ?_
  refine r_bipush (pc := 6) h dX0_can_6 cb_6 ?_
  refine r_icmp_ge (pc := 8) (tgt := 28) h dX0_can_8 (by decide) (fun c8 => ?_) (fun c8 => ?_)
  · refine r_iconst (pc := 28) h dX0_can_28 ci_0 ?_
    refine r_ri t (pc := 29) dX0_can_29 (by decide) ?_
    first
      | (have q6 : c 5 i < 6 := Nat.lt_of_not_le fun q => c8 (nI_le q (by omega))
         have q := (canB_lt q6 hk.1 hk.2.1 (covOf_le ho hi)).mp c21
         exact ⟨by rw [q]; rfl, rfl⟩)
      | (have q6 : c 5 i < 6 := Nat.lt_of_not_le fun q => c8 (nI_le q (by omega))
         have q := mt (canB_lt q6 hk.1 hk.2.1 (covOf_le ho hi)).mpr c21
         have q2 : canB c i (covOf c i) = true := by simpa using q
         exact ⟨by rw [q2]; rfl, rfl⟩)
      | (have q6 : 6 ≤ c 5 i := (nI_leI (by decide) (by omega)).mp c8
         exact ⟨by rw [show canB c i (covOf c i) = false by simp [canB]; omega]; rfl, rfl⟩)
  · refine r_aload_n (pc := 11) h dX0_can_11 rfl ?_
    refine r_iload_n (pc := 12) h dX0_can_12 rfl ?_
    refine r_callVi (pc := 13) (As := [_]) h dX0_can_13 k_X0_72 gc_9 rfl ⟨Nat.le_of_ble_eq_true rfl, Nat.le_of_ble_eq_true rfl, Nat.le_of_ble_eq_true rfl⟩ (c_X0_bravery_9 hR ho hi) (fun x_13 g1 hq => ?_)
    obtain ⟨rfl, rfl⟩ := hq
    refine r_aload_n (pc := 16) h dX0_can_16 rfl ?_
    refine r_iload_n (pc := 17) h dX0_can_17 rfl ?_
    refine r_callVi (pc := 18) (As := [_]) h dX0_can_18 k_X0_75 gc_9 rfl ⟨Nat.le_of_ble_eq_true rfl, Nat.le_of_ble_eq_true rfl, Nat.le_of_ble_eq_true rfl⟩ (c_X0_needs_9 hR hi) (fun x_18 g1 hq => ?_)
    obtain ⟨rfl, rfl⟩ := hq
    refine r_icmp_lt (pc := 21) (tgt := 28) h dX0_can_21 (by decide) (fun c21 => ?_) (fun c21 => ?_)
    · refine r_iconst (pc := 28) h dX0_can_28 ci_0 ?_
      refine r_ri t (pc := 29) dX0_can_29 (by decide) ?_
      first
        | (have q6 : c 5 i < 6 := Nat.lt_of_not_le fun q => c8 (nI_le q (by omega))
           have q := (canB_lt q6 hk.1 hk.2.1 (covOf_le ho hi)).mp c21
           exact ⟨by rw [q]; rfl, rfl⟩)
        | (have q6 : c 5 i < 6 := Nat.lt_of_not_le fun q => c8 (nI_le q (by omega))
           have q := mt (canB_lt q6 hk.1 hk.2.1 (covOf_le ho hi)).mpr c21
           have q2 : canB c i (covOf c i) = true := by simpa using q
           exact ⟨by rw [q2]; rfl, rfl⟩)
        | (have q6 : 6 ≤ c 5 i := (nI_leI (by decide) (by omega)).mp c8
           exact ⟨by rw [show canB c i (covOf c i) = false by simp [canB]; omega]; rfl, rfl⟩)
    · refine r_iconst (pc := 24) h dX0_can_24 ci_1 ?_
      refine r_goto (pc := 25) (tgt := 29) h dX0_can_25 (by decide) ?_
      refine r_ri t (pc := 29) dX0_can_29 (by decide) ?_
      first
        | (have q6 : c 5 i < 6 := Nat.lt_of_not_le fun q => c8 (nI_le q (by omega))
           have q := (canB_lt q6 hk.1 hk.2.1 (covOf_le ho hi)).mp c21
           exact ⟨by rw [q]; rfl, rfl⟩)
        | (have q6 : c 5 i < 6 := Nat.lt_of_not_le fun q => c8 (nI_le q (by omega))
           have q := mt (canB_lt q6 hk.1 hk.2.1 (covOf_le ho hi)).mpr c21
           have q2 : canB c i (covOf c i) = true := by simpa using q
           exact ⟨by rw [q2]; rfl, rfl⟩)
        | (have q6 : 6 ≤ c 5 i := (nI_leI (by decide) (by omega)).mp c8
           exact ⟨by rw [show canB c i (covOf c i) = false by simp [canB]; omega]; rfl, rfl⟩)
set_option maxRecDepth 100000 in
set_option maxHeartbeats 4000000 in
theorem c_X0_canCovered_9 {g : gG} {c : gCt} (hR : Rx9 g c) (ho : gok c) {i cov : Nat} (hi : i < c 7 1) (hcov : cov ≤ 31) : gCi mX0_canCovered [.ref 9, .int (nI i), .int (nI cov)] g (fun x g1 => x = bI (canB c i cov) ∧ g1 = g) := by
  refine gCi_of (own := RX0) (ls0 := [.ref 9, .int (nI i), .int (nI cov)]) ⟨rfl, pl_X0⟩ rfl (Nat.le_of_ble_eq_true rfl) (fun G (h : gR RX0 cX0_canCovered 1 40 G) (t : gTi cX0_canCovered .boolean _ G) => ?_)
  have hk := ho.2.2.2 i hi
  refine r_aload_n (pc := 0) h dX0_canCovered_0 rfl ?_
  refine r_getR (pc := 1) h dX0_canCovered_1 f_X0_27 sh_9 rfl ?_
  refine r_iload_n (pc := 4) h dX0_canCovered_4 rfl ?_
  refine r_ialoadE (pc := 5) h dX0_canCovered_5 sh_15 (hR.sa hi) ?_
  refine r_bipush (pc := 6) h dX0_canCovered_6 cb_6 ?_
  refine r_icmp_ge (pc := 8) (tgt := 29) h dX0_canCovered_8 (by decide) (fun c8 => ?_) (fun c8 => ?_)
  · refine r_iconst (pc := 29) h dX0_canCovered_29 ci_0 ?_
    refine r_ri t (pc := 30) dX0_canCovered_30 (by decide) ?_
    first
      | (have q6 : c 5 i < 6 := Nat.lt_of_not_le fun q => c8 (nI_le q (by omega))
         have q := (canB_lt q6 hk.1 hk.2.1 hcov).mp c22
         exact ⟨by rw [q]; rfl, rfl⟩)
      | (have q6 : c 5 i < 6 := Nat.lt_of_not_le fun q => c8 (nI_le q (by omega))
         have q := mt (canB_lt q6 hk.1 hk.2.1 hcov).mpr c22
         have q2 : canB c i cov = true := by simpa using q
         exact ⟨by rw [q2]; rfl, rfl⟩)
      | (have q6 : 6 ≤ c 5 i := (nI_leI (by decide) (by omega)).mp c8
         exact ⟨by rw [show canB c i cov = false by simp [canB]; omega]; rfl, rfl⟩)
  · refine r_aload_n (pc := 11) h dX0_canCovered_11 rfl ?_
    refine r_iload_n (pc := 12) h dX0_canCovered_12 rfl ?_
    refine r_iload_n (pc := 13) h dX0_canCovered_13 rfl ?_
    refine r_callVi (pc := 14) (As := [_, _]) h dX0_canCovered_14 k_X0_69 gc_9 rfl ⟨Nat.le_of_ble_eq_true rfl, Nat.le_of_ble_eq_true rfl, Nat.le_of_ble_eq_true rfl⟩ (c_X0_braveryCovered_9 hR ho hi) (fun x_14 g1 hq => ?_)
    obtain ⟨rfl, rfl⟩ := hq
    refine r_aload_n (pc := 17) h dX0_canCovered_17 rfl ?_
    refine r_iload_n (pc := 18) h dX0_canCovered_18 rfl ?_
    refine r_callVi (pc := 19) (As := [_]) h dX0_canCovered_19 k_X0_75 gc_9 rfl ⟨Nat.le_of_ble_eq_true rfl, Nat.le_of_ble_eq_true rfl, Nat.le_of_ble_eq_true rfl⟩ (c_X0_needs_9 hR hi) (fun x_19 g1 hq => ?_)
    obtain ⟨rfl, rfl⟩ := hq
    refine r_icmp_lt (pc := 22) (tgt := 29) h dX0_canCovered_22 (by decide) (fun c22 => ?_) (fun c22 => ?_)
    · refine r_iconst (pc := 29) h dX0_canCovered_29 ci_0 ?_
      refine r_ri t (pc := 30) dX0_canCovered_30 (by decide) ?_
      first
        | (have q6 : c 5 i < 6 := Nat.lt_of_not_le fun q => c8 (nI_le q (by omega))
           have q := (canB_lt q6 hk.1 hk.2.1 hcov).mp c22
           exact ⟨by rw [q]; rfl, rfl⟩)
        | (have q6 : c 5 i < 6 := Nat.lt_of_not_le fun q => c8 (nI_le q (by omega))
           have q := mt (canB_lt q6 hk.1 hk.2.1 hcov).mpr c22
           have q2 : canB c i cov = true := by simpa using q
           exact ⟨by rw [q2]; rfl, rfl⟩)
        | (have q6 : 6 ≤ c 5 i := (nI_leI (by decide) (by omega)).mp c8
           exact ⟨by rw [show canB c i cov = false by simp [canB]; omega]; rfl, rfl⟩)
    · refine r_iconst (pc := 25) h dX0_canCovered_25 ci_1 ?_
      refine r_goto (pc := 26) (tgt := 30) h dX0_canCovered_26 (by decide) ?_
      refine r_ri t (pc := 30) dX0_canCovered_30 (by decide) ?_
      first
        | (have q6 : c 5 i < 6 := Nat.lt_of_not_le fun q => c8 (nI_le q (by omega))
           have q := (canB_lt q6 hk.1 hk.2.1 hcov).mp c22
           exact ⟨by rw [q]; rfl, rfl⟩)
        | (have q6 : c 5 i < 6 := Nat.lt_of_not_le fun q => c8 (nI_le q (by omega))
           have q := mt (canB_lt q6 hk.1 hk.2.1 hcov).mpr c22
           have q2 : canB c i cov = true := by simpa using q
           exact ⟨by rw [q2]; rfl, rfl⟩)
        | (have q6 : 6 ≤ c 5 i := (nI_leI (by decide) (by omega)).mp c8
           exact ⟨by rw [show canB c i cov = false by simp [canB]; omega]; rfl, rfl⟩)
set_option maxRecDepth 100000 in
set_option maxHeartbeats 4000000 in
theorem c_X0_lacks_9 {g : gG} {c : gCt} (hR : Rx9 g c) (ho : gok c) {i : Nat} (hi : i < c 7 1) : gCi mX0_lacks [.ref 9, .int (nI i)] g (fun x g1 => x = nI (lkN c i) ∧ g1 = g) := by
  refine gCi_of (own := RX0) (ls0 := [.ref 9, .int (nI i)]) ⟨rfl, pl_X0⟩ rfl (Nat.le_of_ble_eq_true rfl) (fun G (h : gR RX0 cX0_lacks 2 80 G) (t : gTi cX0_lacks .int _ G) => ?_)
  have hk := ho.2.2.2 i hi
  refine r_aload_n (pc := 0) h dX0_lacks_0 rfl ?_
  refine r_getR (pc := 1) h dX0_lacks_1 f_X0_27 sh_9 rfl ?_
  refine r_iload_n (pc := 4) h dX0_lacks_4 rfl ?_
  refine r_ialoadE (pc := 5) h dX0_lacks_5 sh_15 (hR.sa hi) ?_
  refine r_bipush (pc := 6) h dX0_lacks_6 cb_6 ?_
  refine r_icmp_lt (pc := 8) (tgt := 15) h dX0_lacks_8 (by decide) (fun c8 => ?_) (fun c8 => ?_)
  · refine r_aload_n (pc := 15) h dX0_lacks_15 rfl ?_
    refine r_iload_n (pc := 16) h dX0_lacks_16 rfl ?_
    refine r_callVi (pc := 17) (As := [_]) h dX0_lacks_17 k_X0_75 gc_9 rfl ⟨Nat.le_of_ble_eq_true rfl, Nat.le_of_ble_eq_true rfl, Nat.le_of_ble_eq_true rfl⟩ (c_X0_needs_9 hR hi) (fun x_17 g1 hq => ?_)
    obtain ⟨rfl, rfl⟩ := hq
    refine r_aload_n (pc := 20) h dX0_lacks_20 rfl ?_
    refine r_iload_n (pc := 21) h dX0_lacks_21 rfl ?_
    refine r_callVi (pc := 22) (As := [_]) h dX0_lacks_22 k_X0_72 gc_9 rfl ⟨Nat.le_of_ble_eq_true rfl, Nat.le_of_ble_eq_true rfl, Nat.le_of_ble_eq_true rfl⟩ (c_X0_bravery_9 hR ho hi) (fun x_22 g1 hq => ?_)
    obtain ⟨rfl, rfl⟩ := hq
    refine r_isub (pc := 25) h dX0_lacks_25 ?_
    refine r_iconst (pc := 26) h dX0_lacks_26 ci_0 ?_
    refine r_mmax (pc := 27) h dX0_lacks_27 k_X0_78 ⟨Nat.le_of_ble_eq_true rfl, Nat.le_of_ble_eq_true rfl⟩ ?_
    refine r_ri t (pc := 30) dX0_lacks_30 rfl ?_
    first
      | (have q6 : c 5 i < 6 := (nI_ltI (by omega) (by decide)).mp c8
         exact ⟨lkN_eq q6 hk.1 hk.2.1 (covOf_le ho hi), rfl⟩)
      | (have q6 : ¬ c 5 i < 6 := fun q => c8 (nI_lt q (by decide))
         exact ⟨by rw [lkN, if_pos (by omega)], rfl⟩)
  · refine r_iconst (pc := 11) h dX0_lacks_11 ci_0 ?_
    refine r_goto (pc := 12) (tgt := 30) h dX0_lacks_12 (by decide) ?_
    refine r_ri t (pc := 30) dX0_lacks_30 rfl ?_
    first
      | (have q6 : c 5 i < 6 := (nI_ltI (by omega) (by decide)).mp c8
         exact ⟨lkN_eq q6 hk.1 hk.2.1 (covOf_le ho hi), rfl⟩)
      | (have q6 : ¬ c 5 i < 6 := fun q => c8 (nI_lt q (by decide))
         exact ⟨by rw [lkN, if_pos (by omega)], rfl⟩)
set_option maxRecDepth 100000 in
set_option maxHeartbeats 4000000 in
theorem c_X0_allSaid_9 {g : gG} {c : gCt} (hR : Rx9 g c) : gCi mX0_allSaid [.ref 9] g (fun x g1 => x = nI (sumN (c 5) (c 7 1)) ∧ g1 = g) := by
  refine gCi_of (own := RX0) (ls0 := [.ref 9, .null, .null]) ⟨rfl, pl_X0⟩ rfl (Nat.le_of_ble_eq_true rfl) (fun G (h : gR RX0 cX0_allSaid 0 0 G) (t : gTi cX0_allSaid .int _ G) => ?_)
  have hn5 := hR.n5
  have loop : ∀ n i a, i + n = c 7 1 → gfold (fun i a => a + c 5 i) n i a = sumN (c 5) (c 7 1) → G 4 [.ref 9, .int (nI a), .int (nI i)] [] g := by
    intro n
    induction n with
    | zero =>
      intro i a hi hw
      refine r_iload_n (pc := 4) h dX0_allSaid_4 rfl ?_
      refine r_aload_n (pc := 5) h dX0_allSaid_5 rfl ?_
      refine r_getE (pc := 6) h dX0_allSaid_6 f_X0_37 sh_9 rfl (hR.nc) ?_
      refine r_icmp_ge (pc := 9) (tgt := 27) h dX0_allSaid_9 (by decide) (fun c9 => ?_) (fun c9 => absurd (nI_le (by omega) (by omega)) c9)
      refine r_iload_n (pc := 27) h dX0_allSaid_27 rfl ?_
      refine r_ri t (pc := 28) dX0_allSaid_28 rfl ?_
      exact ⟨by rw [← hw]; rfl, rfl⟩
    | succ n ih =>
      intro i a hin hw
      have hi : i < c 7 1 := by omega
      refine r_iload_n (pc := 4) h dX0_allSaid_4 rfl ?_
      refine r_aload_n (pc := 5) h dX0_allSaid_5 rfl ?_
      refine r_getE (pc := 6) h dX0_allSaid_6 f_X0_37 sh_9 rfl (hR.nc) ?_
      refine r_icmp_ge (pc := 9) (tgt := 27) h dX0_allSaid_9 (by decide) (fun c9 => absurd c9 (nI_ge hi (by omega))) (fun c9 => ?_)
      refine r_iload_n (pc := 12) h dX0_allSaid_12 rfl ?_
      refine r_aload_n (pc := 13) h dX0_allSaid_13 rfl ?_
      refine r_getR (pc := 14) h dX0_allSaid_14 f_X0_27 sh_9 rfl ?_
      refine r_iload_n (pc := 17) h dX0_allSaid_17 rfl ?_
      refine r_ialoadE (pc := 18) h dX0_allSaid_18 sh_15 (hR.sa hi) ?_
      refine r_iadd (pc := 19) h dX0_allSaid_19 ?_
      refine r_top h (nI_add _ _) ?_
      refine r_istore_n (pc := 20) (ls2 := [_, _, _]) h dX0_allSaid_20 (Nat.le_of_ble_eq_true rfl) rfl ?_
      refine r_iinc (pc := 21) (ls2 := [_, _, _]) h dX0_allSaid_21 rfl (ic1 _) rfl ?_
      refine r_goto (pc := 24) (tgt := 4) h dX0_allSaid_24 (by decide) ?_
      exact ih (i + 1) _ (by omega) hw
  refine r_iconst (pc := 0) h dX0_allSaid_0 ci_0 ?_
  refine r_istore_n (pc := 1) (ls2 := [_, _, _]) h dX0_allSaid_1 (Nat.le_of_ble_eq_true rfl) rfl ?_
  refine r_iconst (pc := 2) h dX0_allSaid_2 ci_0 ?_
  refine r_istore_n (pc := 3) (ls2 := [_, _, _]) h dX0_allSaid_3 (Nat.le_of_ble_eq_true rfl) rfl ?_
  exact loop (c 7 1) 0 0 (by omega) rfl
set_option maxRecDepth 100000 in
set_option maxHeartbeats 4000000 in
theorem c_X0_allFear_9 {g : gG} {c : gCt} (hR : Rx9 g c) : gCi mX0_allFear [.ref 9] g (fun x g1 => x = nI (sumN (c 3) (c 7 1)) ∧ g1 = g) := by
  refine gCi_of (own := RX0) (ls0 := [.ref 9, .null, .null]) ⟨rfl, pl_X0⟩ rfl (Nat.le_of_ble_eq_true rfl) (fun G (h : gR RX0 cX0_allFear 0 0 G) (t : gTi cX0_allFear .int _ G) => ?_)
  have hn5 := hR.n5
  have loop : ∀ n i a, i + n = c 7 1 → gfold (fun i a => a + c 3 i) n i a = sumN (c 3) (c 7 1) → G 4 [.ref 9, .int (nI a), .int (nI i)] [] g := by
    intro n
    induction n with
    | zero =>
      intro i a hi hw
      refine r_iload_n (pc := 4) h dX0_allFear_4 rfl ?_
      refine r_aload_n (pc := 5) h dX0_allFear_5 rfl ?_
      refine r_getE (pc := 6) h dX0_allFear_6 f_X0_37 sh_9 rfl (hR.nc) ?_
      refine r_icmp_ge (pc := 9) (tgt := 27) h dX0_allFear_9 (by decide) (fun c9 => ?_) (fun c9 => absurd (nI_le (by omega) (by omega)) c9)
      refine r_iload_n (pc := 27) h dX0_allFear_27 rfl ?_
      refine r_ri t (pc := 28) dX0_allFear_28 rfl ?_
      exact ⟨by rw [← hw]; rfl, rfl⟩
    | succ n ih =>
      intro i a hin hw
      have hi : i < c 7 1 := by omega
      refine r_iload_n (pc := 4) h dX0_allFear_4 rfl ?_
      refine r_aload_n (pc := 5) h dX0_allFear_5 rfl ?_
      refine r_getE (pc := 6) h dX0_allFear_6 f_X0_37 sh_9 rfl (hR.nc) ?_
      refine r_icmp_ge (pc := 9) (tgt := 27) h dX0_allFear_9 (by decide) (fun c9 => absurd c9 (nI_ge hi (by omega))) (fun c9 => ?_)
      refine r_iload_n (pc := 12) h dX0_allFear_12 rfl ?_
      refine r_aload_n (pc := 13) h dX0_allFear_13 rfl ?_
      refine r_getR (pc := 14) h dX0_allFear_14 f_X0_21 sh_9 rfl ?_
      refine r_iload_n (pc := 17) h dX0_allFear_17 rfl ?_
      refine r_ialoadE (pc := 18) h dX0_allFear_18 sh_13 (hR.fe hi) ?_
      refine r_iadd (pc := 19) h dX0_allFear_19 ?_
      refine r_top h (nI_add _ _) ?_
      refine r_istore_n (pc := 20) (ls2 := [_, _, _]) h dX0_allFear_20 (Nat.le_of_ble_eq_true rfl) rfl ?_
      refine r_iinc (pc := 21) (ls2 := [_, _, _]) h dX0_allFear_21 rfl (ic1 _) rfl ?_
      refine r_goto (pc := 24) (tgt := 4) h dX0_allFear_24 (by decide) ?_
      exact ih (i + 1) _ (by omega) hw
  refine r_iconst (pc := 0) h dX0_allFear_0 ci_0 ?_
  refine r_istore_n (pc := 1) (ls2 := [_, _, _]) h dX0_allFear_1 (Nat.le_of_ble_eq_true rfl) rfl ?_
  refine r_iconst (pc := 2) h dX0_allFear_2 ci_0 ?_
  refine r_istore_n (pc := 3) (ls2 := [_, _, _]) h dX0_allFear_3 (Nat.le_of_ble_eq_true rfl) rfl ?_
  exact loop (c 7 1) 0 0 (by omega) rfl
end
section
set_option maxRecDepth 100000 in
set_option maxHeartbeats 4000000 in
theorem c_X0_addSuit_9 {g : gG} {c : gCt} (hR : Rx9 g c) (k f : Nat) : gCi mX0_addSuit [.ref 9, .int (nI k), .int (nI f)] g (fun x g1 => x = bI (decide (c 7 0 < 6)) ∧ (c 7 0 < 6 → Rx9 g1 (addS c k f)) ∧ frm 9 17 g g1) := by
  refine gCi_of (own := RX0) (ls0 := [.ref 9, .int (nI k), .int (nI f)]) ⟨rfl, pl_X0⟩ rfl (Nat.le_of_ble_eq_true rfl) (fun G (h : gR RX0 cX0_addSuit 0 0 G) (t : gTi cX0_addSuit .boolean _ G) => ?_)
  have hn6 := hR.n6
  refine r_aload_n (pc := 0) h dX0_addSuit_0 rfl ?_
  refine r_getE (pc := 1) h dX0_addSuit_1 f_X0_33 sh_9 rfl (hR.ns) ?_
  refine r_bipush (pc := 4) h dX0_addSuit_4 cb_6 ?_
  refine r_icmp_lt (pc := 6) (tgt := 11) h dX0_addSuit_6 (by decide) (fun c6 => ?_) (fun c6 => ?_)
  · have h6 : c 7 0 < 6 := (nI_ltI (by omega) (by decide)).mp c6
    have hin : vp_in (nI (c 7 0)) 6 := vp_in_nI h6 (by decide)
    refine r_aload_n (pc := 11) h dX0_addSuit_11 rfl ?_
    refine r_getR (pc := 12) h dX0_addSuit_12 f_X0_9 sh_9 rfl ?_
    refine r_aload_n (pc := 15) h dX0_addSuit_15 rfl ?_
    refine r_getE (pc := 16) h dX0_addSuit_16 f_X0_33 sh_9 rfl (hR.ns) ?_
    refine r_iload_n (pc := 19) h dX0_addSuit_19 rfl ?_
    refine r_iastore (pc := 20) h dX0_addSuit_20 sh_10 (hin) ?_
    refine r_aload_n (pc := 21) h dX0_addSuit_21 rfl ?_
    refine r_getR (pc := 22) h dX0_addSuit_22 f_X0_15 sh_9 rfl ?_
    refine r_aload_n (pc := 25) h dX0_addSuit_25 rfl ?_
    refine r_getE (pc := 26) h dX0_addSuit_26 f_X0_33 sh_9 rfl ((by rw [gup_ne (by decide)]; exact hR.ns : _ = nI (c 7 0))) ?_
    refine r_iload_n (pc := 29) h dX0_addSuit_29 rfl ?_
    refine r_iastore (pc := 30) h dX0_addSuit_30 sh_11 (hin) ?_
    refine r_aload_n (pc := 31) h dX0_addSuit_31 rfl ?_
    refine r_getR (pc := 32) h dX0_addSuit_32 f_X0_18 sh_9 rfl ?_
    refine r_aload_n (pc := 35) h dX0_addSuit_35 rfl ?_
    refine r_getE (pc := 36) h dX0_addSuit_36 f_X0_33 sh_9 rfl ((by rw [gup_ne (by decide), gup_ne (by decide)]; exact hR.ns : _ = nI (c 7 0))) ?_
    refine r_iconst (pc := 39) h dX0_addSuit_39 ci_0 ?_
    refine r_iastore (pc := 40) h dX0_addSuit_40 sh_12 (hin) ?_
    refine r_aload_n (pc := 41) h dX0_addSuit_41 rfl ?_
    refine r_dup (pc := 42) h dX0_addSuit_42 rfl ?_
    refine r_getE (pc := 43) h dX0_addSuit_43 f_X0_33 sh_9 rfl ((by rw [gup_ne (by decide), gup_ne (by decide), gup_ne (by decide)]; exact hR.ns : _ = nI (c 7 0))) ?_
    refine r_iconst (pc := 46) h dX0_addSuit_46 ci_1 ?_
    refine r_iadd (pc := 47) h dX0_addSuit_47 ?_
    refine r_top (y := nI (c 7 0 + 1)) h (nI_add _ _) ?_
    refine r_putI (pc := 48) h dX0_addSuit_48 fw_X0_33 sh_9 rfl rfl rfl ?_
    refine r_iconst (pc := 51) h dX0_addSuit_51 ci_1 ?_
    refine r_ri t (pc := 52) dX0_addSuit_52 (by decide) ?_
    refine ⟨by simp [h6, bI], fun _ => ?_, (((frm.rf.up (by decide)).up (by decide)).up (by decide)).up (by decide)⟩
    obtain ⟨⟨h1, h2, h3, h4⟩, h5, h6', h7⟩ := hR
    have ei : (nI (c 7 0)).toNatClampNeg = c 7 0 := nI_clamp (by omega)
    unfold addS
    refine ⟨⟨by simp [gup, cup, ei], by simp [gup, cup, ei, h2], by simp [gup, cup, ei, h3], by simp [gup, cup, ei, h4]⟩, by simp [cup]; omega, fun j hj => ?_, fun j hj => ?_⟩
    · by_cases e : j = c 7 0
      · subst e; simp [gup, cup, ei]
      · obtain ⟨a, b, d⟩ := h6' j (by simp [cup] at hj; omega)
        simp [gup, cup, ei, e, a, b, d]
    · obtain ⟨a, b, d, f⟩ := h7 j (by simpa [cup] using hj)
      simp [gup, cup, ei, a, b, d, f]
  · have h6 : ¬ c 7 0 < 6 := fun q => c6 (nI_lt q (by decide))
    refine r_iconst (pc := 9) h dX0_addSuit_9 ci_0 ?_
    refine r_ri t (pc := 10) dX0_addSuit_10 (by decide) ?_
    exact ⟨by simp [h6, bI], fun q => absurd q h6, frm.rf⟩
set_option maxRecDepth 100000 in
set_option maxHeartbeats 4000000 in
theorem c_X0_addCaller_9 {g : gG} {c : gCt} (hR : Rx9 g c) {f : Nat} (hf : f < 2147483648) : gCi mX0_addCaller [.ref 9, .int (nI f)] g (fun x g1 => x = bI (decide (c 7 1 < 5 ∧ f ≤ 20)) ∧ (c 7 1 < 5 ∧ f ≤ 20 → Rx9 g1 (addC c f)) ∧ frm 9 17 g g1) := by
  refine gCi_of (own := RX0) (ls0 := [.ref 9, .int (nI f)]) ⟨rfl, pl_X0⟩ rfl (Nat.le_of_ble_eq_true rfl) (fun G (h : gR RX0 cX0_addCaller 0 0 G) (t : gTi cX0_addCaller .boolean _ G) => ?_)
  have hn5 := hR.n5
  refine r_aload_n (pc := 0) h dX0_addCaller_0 rfl ?_
  refine r_getE (pc := 1) h dX0_addCaller_1 f_X0_37 sh_9 rfl (hR.nc) ?_
  refine r_iconst (pc := 4) h dX0_addCaller_4 ci_5 ?_
  refine r_icmp_ge (pc := 5) (tgt := 14) h dX0_addCaller_5 (by decide) (fun c5 => ?_) (fun c5 => ?_)
  · have h5 : ¬ (c 7 1 < 5 ∧ f ≤ 20) := fun q => nI_ge q.1 (by decide) c5
    refine r_iconst (pc := 14) h dX0_addCaller_14 ci_0 ?_
    refine r_ri t (pc := 15) dX0_addCaller_15 (by decide) ?_
    exact ⟨by simp [h5, bI], fun q => absurd q h5, frm.rf⟩
  · have h5a : c 7 1 < 5 := Nat.lt_of_not_le fun q => c5 (nI_le q (by omega))
    refine r_iload_n (pc := 8) h dX0_addCaller_8 rfl ?_
    refine r_bipush (pc := 9) h dX0_addCaller_9 cb_20 ?_
    refine r_icmp_le (pc := 11) (tgt := 16) h dX0_addCaller_11 (by decide) (fun c11 => ?_) (fun c11 => ?_)
    · have h5 : c 7 1 < 5 ∧ f ≤ 20 := ⟨h5a, (nI_leI hf (by decide)).mp c11⟩
      have hin : vp_in (nI (c 7 1)) 5 := vp_in_nI h5a (by decide)
      refine r_aload_n (pc := 16) h dX0_addCaller_16 rfl ?_
      refine r_getR (pc := 17) h dX0_addCaller_17 f_X0_21 sh_9 rfl ?_
      refine r_aload_n (pc := 20) h dX0_addCaller_20 rfl ?_
      refine r_getE (pc := 21) h dX0_addCaller_21 f_X0_37 sh_9 rfl (hR.nc) ?_
      refine r_iload_n (pc := 24) h dX0_addCaller_24 rfl ?_
      refine r_iastore (pc := 25) h dX0_addCaller_25 sh_13 (hin) ?_
      refine r_aload_n (pc := 26) h dX0_addCaller_26 rfl ?_
      refine r_getR (pc := 27) h dX0_addCaller_27 f_X0_24 sh_9 rfl ?_
      refine r_aload_n (pc := 30) h dX0_addCaller_30 rfl ?_
      refine r_getE (pc := 31) h dX0_addCaller_31 f_X0_37 sh_9 rfl ((by rw [gup_ne (by decide)]; exact hR.nc : _ = nI (c 7 1))) ?_
      refine r_iconst (pc := 34) h dX0_addCaller_34 ci_0 ?_
      refine r_iastore (pc := 35) h dX0_addCaller_35 sh_14 (hin) ?_
      refine r_aload_n (pc := 36) h dX0_addCaller_36 rfl ?_
      refine r_getR (pc := 37) h dX0_addCaller_37 f_X0_27 sh_9 rfl ?_
      refine r_aload_n (pc := 40) h dX0_addCaller_40 rfl ?_
      refine r_getE (pc := 41) h dX0_addCaller_41 f_X0_37 sh_9 rfl ((by rw [gup_ne (by decide), gup_ne (by decide)]; exact hR.nc : _ = nI (c 7 1))) ?_
      refine r_iconst (pc := 44) h dX0_addCaller_44 ci_0 ?_
      refine r_iastore (pc := 45) h dX0_addCaller_45 sh_15 (hin) ?_
      refine r_aload_n (pc := 46) h dX0_addCaller_46 rfl ?_
      refine r_getR (pc := 47) h dX0_addCaller_47 f_X0_30 sh_9 rfl ?_
      refine r_aload_n (pc := 50) h dX0_addCaller_50 rfl ?_
      refine r_getE (pc := 51) h dX0_addCaller_51 f_X0_37 sh_9 rfl ((by rw [gup_ne (by decide), gup_ne (by decide), gup_ne (by decide)]; exact hR.nc : _ = nI (c 7 1))) ?_
      refine r_bipush (pc := 54) h dX0_addCaller_54 cb_m9 ?_
      refine r_iastore (pc := 56) h dX0_addCaller_56 sh_16 (hin) ?_
      refine r_aload_n (pc := 57) h dX0_addCaller_57 rfl ?_
      refine r_dup (pc := 58) h dX0_addCaller_58 rfl ?_
      refine r_getE (pc := 59) h dX0_addCaller_59 f_X0_37 sh_9 rfl ((by rw [gup_ne (by decide), gup_ne (by decide), gup_ne (by decide), gup_ne (by decide)]; exact hR.nc : _ = nI (c 7 1))) ?_
      refine r_iconst (pc := 62) h dX0_addCaller_62 ci_1 ?_
      refine r_iadd (pc := 63) h dX0_addCaller_63 ?_
      refine r_top (y := nI (c 7 1 + 1)) h (nI_add _ _) ?_
      refine r_putI (pc := 64) h dX0_addCaller_64 fw_X0_37 sh_9 rfl rfl rfl ?_
      refine r_iconst (pc := 67) h dX0_addCaller_67 ci_1 ?_
      refine r_ri t (pc := 68) dX0_addCaller_68 (by decide) ?_
      refine ⟨by simp [h5, bI], fun _ => ?_, ((((frm.rf.up (by decide)).up (by decide)).up (by decide)).up (by decide)).up (by decide)⟩
      obtain ⟨⟨h1, h2, h3, h4⟩, h5', h6, h7⟩ := hR
      have ei : (nI (c 7 1)).toNatClampNeg = c 7 1 := nI_clamp (by omega)
      unfold addC
      refine ⟨⟨by simp [gup, cup, ei, h1], by simp [gup, cup, ei], by simp [gup, cup, ei, h3], by simp [gup, cup, ei, h4]⟩, by simp [cup]; omega, fun j hj => ?_, fun j hj => ?_⟩
      · obtain ⟨a, b, d⟩ := h6 j (by simpa [cup] using hj)
        simp [gup, cup, ei, a, b, d]
      · by_cases e : j = c 7 1
        · subst e; simp [gup, cup, ei, wz]
        · obtain ⟨a, b, d, f⟩ := h7 j (by simp [cup] at hj; omega)
          simp [gup, cup, ei, e, a, b, d, f]
    · have h5 : ¬ (c 7 1 < 5 ∧ f ≤ 20) := fun q => c11 (nI_le q.2 (by decide))
      refine r_iconst (pc := 14) h dX0_addCaller_14 ci_0 ?_
      refine r_ri t (pc := 15) dX0_addCaller_15 (by decide) ?_
      exact ⟨by simp [h5, bI], fun q => absurd q h5, frm.rf⟩
set_option maxRecDepth 100000 in
set_option maxHeartbeats 4000000 in
theorem c_X0_rainOnAll_9 {g : gG} {c : gCt} (hR : Rx9 g c) (ho : gok c) : gCv mX0_rainOnAll [.ref 9] g (fun g1 => Rx9 g1 (rainC c) ∧ frm 9 17 g g1) := by
  refine gCv_of (own := RX0) (ls0 := [.ref 9, .null]) ⟨rfl, pl_X0⟩ rfl (Nat.le_of_ble_eq_true rfl) (fun G (h : gR RX0 cX0_rainOnAll 1 40 G) (t : gTv cX0_rainOnAll _ G) => ?_)
  have loop : ∀ n i (d : gCt) (g2 : gG), i + n = d 7 0 → Rx9 g2 d → gok d → frm 9 17 g g2 → gfold (fun s c => cup c 2 s (cap (c 2 s + 1) 9)) n i d = rainC c → G 2 [.ref 9, .int (nI i)] [] g2 := by
    intro n
    induction n with
    | zero =>
      intro i d g2 hi hR ho hF hw
      have hn6 := hR.n6
      refine r_iload_n (pc := 2) h dX0_rainOnAll_2 rfl ?_
      refine r_aload_n (pc := 3) h dX0_rainOnAll_3 rfl ?_
      refine r_getE (pc := 4) h dX0_rainOnAll_4 f_X0_33 sh_9 rfl (hR.ns) ?_
      refine r_icmp_ge (pc := 7) (tgt := 35) h dX0_rainOnAll_7 (by decide) (fun c7 => ?_) (fun c7 => absurd (nI_le (by omega) (by omega)) c7)
      refine r_rv t (pc := 35) dX0_rainOnAll_35 ?_
      exact ⟨by rw [← hw]; exact hR, hF⟩
    | succ n ih =>
      intro i d g2 hin hR ho hF hw
      have hn6 := hR.n6
      have hi : i < d 7 0 := by omega
      have hk := ho.2.2.1 i hi
      refine r_iload_n (pc := 2) h dX0_rainOnAll_2 rfl ?_
      refine r_aload_n (pc := 3) h dX0_rainOnAll_3 rfl ?_
      refine r_getE (pc := 4) h dX0_rainOnAll_4 f_X0_33 sh_9 rfl (hR.ns) ?_
      refine r_icmp_ge (pc := 7) (tgt := 35) h dX0_rainOnAll_7 (by decide) (fun c7 => absurd c7 (nI_ge hi (by omega))) (fun c7 => ?_)
      refine r_aload_n (pc := 10) h dX0_rainOnAll_10 rfl ?_
      refine r_getR (pc := 11) h dX0_rainOnAll_11 f_X0_18 sh_9 rfl ?_
      refine r_iload_n (pc := 14) h dX0_rainOnAll_14 rfl ?_
      refine r_aload_n (pc := 15) h dX0_rainOnAll_15 rfl ?_
      refine r_getR (pc := 16) h dX0_rainOnAll_16 f_X0_18 sh_9 rfl ?_
      refine r_iload_n (pc := 19) h dX0_rainOnAll_19 rfl ?_
      refine r_ialoadE (pc := 20) h dX0_rainOnAll_20 sh_12 (hR.ru hi) ?_
      refine r_iconst (pc := 21) h dX0_rainOnAll_21 ci_1 ?_
      refine r_iadd (pc := 22) h dX0_rainOnAll_22 ?_
      refine r_bipush (pc := 23) h dX0_rainOnAll_23 cb_9 ?_
      refine r_mmin (pc := 25) h dX0_rainOnAll_25 k_X0_93 ⟨Nat.le_of_ble_eq_true rfl, Nat.le_of_ble_eq_true rfl⟩ ?_
      refine r_top (y := nI (cap (d 2 i + 1) 9)) h (by rw [nI_add]; exact nI_cap (by omega) (by decide)) ?_
      refine r_iastore (pc := 28) h dX0_rainOnAll_28 sh_12 (hR.si hi) ?_
      obtain ⟨hR, hF⟩ := Rx9.wr hF (hR.u_ru hi _) (by decide)
      generalize gup g2 12 _ _ = g2 at hR hF ⊢
      refine r_iinc (pc := 29) (ls2 := [_, _]) h dX0_rainOnAll_29 rfl (ic1 _) rfl ?_
      refine r_goto (pc := 32) (tgt := 2) h dX0_rainOnAll_32 (by decide) ?_
      exact ih (i + 1) _ _ (by simp [cup]; omega) hR (gok_2 ho (cap_le _ _)) hF hw
  refine r_iconst (pc := 0) h dX0_rainOnAll_0 ci_0 ?_
  refine r_istore_n (pc := 1) (ls2 := [_, _]) h dX0_rainOnAll_1 (Nat.le_of_ble_eq_true rfl) rfl ?_
  exact loop (c 7 0) 0 c g (by omega) hR ho frm.rf rfl
set_option maxRecDepth 100000 in
set_option maxHeartbeats 4000000 in
theorem c_X0_putIn_1 {g : gG} {c : gCt} (hR : Rx1 g c) (ho : gok c) {i s : Nat} (hi : i < c 7 1) (hs : s < c 7 0) : gCv mX0_putIn [.ref 1, .int (nI i), .int (nI s)] g (fun g1 => Rx1 g1 (put c i s) ∧ frm 1 9 g g1) := by
  refine gCv_of (own := RX0) (ls0 := [.ref 1, .int (nI i), .int (nI s), .null]) ⟨rfl, pl_X0⟩ rfl (Nat.le_of_ble_eq_true rfl) (fun G (h : gR RX0 cX0_putIn 1 40 G) (t : gTv cX0_putIn _ G) => ?_)
  have hn5 := hR.n5
  have hn6 := hR.n6
  suffices H : ∀ g2 : gG, Rx1 g2 c → frm 1 9 g g2 → G 0 [.ref 1, .int (nI i), .int (nI s), .null] [] g2 from H g hR frm.rf
  intro g2 hR hF
  refine r_aload_n (pc := 0) h dX0_putIn_0 rfl ?_
  refine r_iload_n (pc := 1) h dX0_putIn_1 rfl ?_
  refine r_callVi (pc := 2) (As := [_]) h dX0_putIn_2 k_X0_52 gc_1 rfl ⟨Nat.le_of_ble_eq_true rfl, Nat.le_of_ble_eq_true rfl, Nat.le_of_ble_eq_true rfl⟩ (c_X0_wearer_1 hR ho (by omega)) (fun x_2 g1 hq => ?_)
  obtain ⟨rfl, hg1⟩ := hq
  rw [hg1]
  refine r_istore_n (pc := 5) (ls2 := [_, _, _, _]) h dX0_putIn_5 (Nat.le_of_ble_eq_true rfl) rfl ?_
  refine r_iload_n (pc := 6) h dX0_putIn_6 rfl ?_
  refine r_bipush (pc := 7) h dX0_putIn_7 cb_m9 ?_
  refine r_icmp_eq (pc := 9) (tgt := 20) h dX0_putIn_9 (by decide) (fun c9 => ?_) (fun c9 => ?_)
  · have hw : wr c s = none := (wr_9 hn5).mp c9
    refine r_aload_n (pc := 20) h dX0_putIn_20 rfl ?_
    refine r_getR (pc := 21) h dX0_putIn_21 f_X0_30 sh_1 rfl ?_
    refine r_iload_n (pc := 24) h dX0_putIn_24 rfl ?_
    refine r_iload_n (pc := 25) h dX0_putIn_25 rfl ?_
    refine r_top (y := wz (s + 1)) h (wz_s s).symm ?_
    refine r_iastore (pc := 26) h dX0_putIn_26 sh_8 (hR.ci hi) ?_
    obtain ⟨hR, hF⟩ := Rx1.wr hF (hR.u_wo hi (s + 1)) (by decide)
    generalize gup g2 8 _ _ = g2 at hR hF ⊢
    refine r_rv t (pc := 27) dX0_putIn_27 ?_
    refine ⟨?_, hF⟩
    unfold put
    rw [hw]
    exact hR
  · obtain ⟨k, hw⟩ : ∃ k, wr c s = some k := Option.ne_none_iff_exists'.mp (fun q => c9 ((wr_9 hn5).mpr q))
    have hk : k < c 7 1 := (wr_lt hw).1
    rw [show oI (wr c s) = nI k by rw [hw]; rfl]
    refine r_aload_n (pc := 12) h dX0_putIn_12 rfl ?_
    refine r_getR (pc := 13) h dX0_putIn_13 f_X0_30 sh_1 rfl ?_
    refine r_iload_n (pc := 16) h dX0_putIn_16 rfl ?_
    refine r_bipush (pc := 17) h dX0_putIn_17 cb_m9 ?_
    refine r_top (y := wz 0) h rfl ?_
    refine r_iastore (pc := 19) h dX0_putIn_19 sh_8 (hR.ci hk) ?_
    obtain ⟨hR, hF⟩ := Rx1.wr hF (hR.u_wo hk 0) (by decide)
    generalize gup g2 8 _ _ = g2 at hR hF ⊢
    refine r_aload_n (pc := 20) h dX0_putIn_20 rfl ?_
    refine r_getR (pc := 21) h dX0_putIn_21 f_X0_30 sh_1 rfl ?_
    refine r_iload_n (pc := 24) h dX0_putIn_24 rfl ?_
    refine r_iload_n (pc := 25) h dX0_putIn_25 rfl ?_
    refine r_top (y := wz (s + 1)) h (wz_s s).symm ?_
    refine r_iastore (pc := 26) h dX0_putIn_26 sh_8 (hR.ci hi) ?_
    obtain ⟨hR, hF⟩ := Rx1.wr hF (hR.u_wo hi (s + 1)) (by decide)
    generalize gup g2 8 _ _ = g2 at hR hF ⊢
    refine r_rv t (pc := 27) dX0_putIn_27 ?_
    refine ⟨?_, hF⟩
    unfold put
    rw [hw]
    exact hR
set_option maxRecDepth 100000 in
set_option maxHeartbeats 4000000 in
theorem c_X0_liveDay_1 {g : gG} {c : gCt} (hR : Rx1 g c) (ho : gok c) {i : Nat} (hi : i < c 7 1) : gCv mX0_liveDay [.ref 1, .int (nI i)] g (fun g1 => Rx1 g1 (live c i) ∧ frm 1 9 g g1) := by
  refine gCv_of (own := RX0) (ls0 := [.ref 1, .int (nI i), .null]) ⟨rfl, pl_X0⟩ rfl (Nat.le_of_ble_eq_true rfl) (fun G (h : gR RX0 cX0_liveDay 3 120 G) (t : gTv cX0_liveDay _ G) => ?_)
  have hn5 := hR.n5
  have hn6 := hR.n6
  have hk4 := ho.2.2.2 i hi
  have hpd := ho.1
  have hdy := ho.2.1
  suffices H : ∀ g2 : gG, Rx1 g2 c → frm 1 9 g g2 → G 0 [.ref 1, .int (nI i), .null] [] g2 from H g hR frm.rf
  intro g2 hR hF
  refine r_aload_n (pc := 0) h dX0_liveDay_0 rfl ?_
  refine r_getR (pc := 1) h dX0_liveDay_1 f_X0_30 sh_1 rfl ?_
  refine r_iload_n (pc := 4) h dX0_liveDay_4 rfl ?_
  refine r_ialoadE (pc := 5) h dX0_liveDay_5 sh_8 (hR.wo hi) ?_
  refine r_istore_n (pc := 6) (ls2 := [_, _, _]) h dX0_liveDay_6 (Nat.le_of_ble_eq_true rfl) rfl ?_
  refine r_iload_n (pc := 7) h dX0_liveDay_7 rfl ?_
  refine r_bipush (pc := 8) h dX0_liveDay_8 cb_m9 ?_
  refine r_icmp_ne (pc := 10) (tgt := 32) h dX0_liveDay_10 (by decide) (fun c10 => ?_) (fun c10 => ?_)
  · obtain ⟨s, e6⟩ : ∃ s, c 6 i = s + 1 := ⟨c 6 i - 1, by have n0 : ¬ c 6 i = 0 := fun q => c10 ((wz_none (by omega)).mpr q); omega⟩
    have hs : s < c 7 0 := by omega
    have es : c 6 i - 1 = s := by omega
    have hk := ho.2.2.1 s hs
    have hpr := priN_le (c 0 s)
    have hch := chaN_le hk.2.2 (k := c 0 s) (c 7 3)
    have ec : covOf c i = cvr c s := by simp [covOf, e6]
    rw [show wz (c 6 i) = nI s by rw [e6]; exact wz_s s]
    refine r_aload_n (pc := 32) h dX0_liveDay_32 rfl ?_
    refine r_aload_n (pc := 33) h dX0_liveDay_33 rfl ?_
    refine r_getE (pc := 34) h dX0_liveDay_34 f_X0_40 sh_1 rfl (hR.pd) ?_
    refine r_gets (q := 100) (pc := 37) h dX0_liveDay_37 (by decide) (Or.inl ⟨rfl, rfl⟩) ?_
    refine r_aload_n (pc := 40) h dX0_liveDay_40 rfl ?_
    refine r_getR (pc := 41) h dX0_liveDay_41 f_X0_9 sh_1 rfl ?_
    refine r_iload_n (pc := 44) h dX0_liveDay_44 rfl ?_
    refine r_ialoadE (pc := 45) h dX0_liveDay_45 sh_2 (hR.kd hs) ?_
    refine r_tabldE (pc := 46) h dX0_liveDay_46 (by decide) (tabP hk.1) ?_
    refine r_iadd (pc := 47) h dX0_liveDay_47 ?_
    refine r_sipush (pc := 48) h dX0_liveDay_48 cs_9999 ?_
    refine r_mmin (pc := 51) h dX0_liveDay_51 k_X0_93 ⟨Nat.le_of_ble_eq_true rfl, Nat.le_of_ble_eq_true rfl⟩ ?_
    refine r_top (y := nI (cap (c 7 2 + priN (c 0 s)) 9999)) h (by rw [nI_add]; exact nI_cap (by omega) (by decide)) ?_
    refine r_putI (pc := 54) h dX0_liveDay_54 fw_X0_40 sh_1 rfl rfl rfl ?_
    obtain ⟨hR, hF⟩ := Rx1.wr hF (hR.u_pd _) (by decide)
    generalize gup g2 1 _ _ = g2 at hR hF ⊢
    refine r_aload_n (pc := 57) h dX0_liveDay_57 rfl ?_
    refine r_iload_n (pc := 58) h dX0_liveDay_58 rfl ?_
    refine r_callVi (pc := 59) (As := [_]) h dX0_liveDay_59 k_X0_96 gc_1 rfl ⟨Nat.le_of_ble_eq_true rfl, Nat.le_of_ble_eq_true rfl, Nat.le_of_ble_eq_true rfl⟩ (c_X0_can_1 hR (gok_72 ho (cap_le _ _)) hi) (fun x_59 g1 hq => ?_)
    obtain ⟨rfl, hg1⟩ := hq
    rw [hg1]
    refine r_if_eq (pc := 62) (tgt := 96) h dX0_liveDay_62 (by decide) (fun c62 => ?_) (fun c62 => ?_)
    · have hc : canB c i (covOf c i) = false := (bI_0 (canB c i (covOf c i))).mp c62
      rw [ec] at hc
      refine r_aload_n (pc := 96) h dX0_liveDay_96 rfl ?_
      refine r_getR (pc := 97) h dX0_liveDay_97 f_X0_21 sh_1 rfl ?_
      refine r_iload_n (pc := 100) h dX0_liveDay_100 rfl ?_
      refine r_aload_n (pc := 101) h dX0_liveDay_101 rfl ?_
      refine r_getR (pc := 102) h dX0_liveDay_102 f_X0_21 sh_1 rfl ?_
      refine r_iload_n (pc := 105) h dX0_liveDay_105 rfl ?_
      refine r_ialoadE (pc := 106) h dX0_liveDay_106 sh_5 (hR.fe hi) ?_
      refine r_iconst (pc := 107) h dX0_liveDay_107 ci_1 ?_
      refine r_iadd (pc := 108) h dX0_liveDay_108 ?_
      refine r_bipush (pc := 109) h dX0_liveDay_109 cb_20 ?_
      refine r_mmin (pc := 111) h dX0_liveDay_111 k_X0_93 ⟨Nat.le_of_ble_eq_true rfl, Nat.le_of_ble_eq_true rfl⟩ ?_
      refine r_top (y := nI (cap (c 3 i + 1) 20)) h (by rw [nI_add]; exact nI_cap (a := c 3 i + 1) (b := 20) (by omega) (by decide)) ?_
      refine r_iastore (pc := 114) h dX0_liveDay_114 sh_5 (hR.ci hi) ?_
      obtain ⟨hR, hF⟩ := Rx1.wr hF (hR.u_fe hi _) (by decide)
      generalize gup g2 5 _ _ = g2 at hR hF ⊢
      refine r_aload_n (pc := 115) h dX0_liveDay_115 rfl ?_
      refine r_getR (pc := 116) h dX0_liveDay_116 f_X0_24 sh_1 rfl ?_
      refine r_iload_n (pc := 119) h dX0_liveDay_119 rfl ?_
      refine r_aload_n (pc := 120) h dX0_liveDay_120 rfl ?_
      refine r_getR (pc := 121) h dX0_liveDay_121 f_X0_24 sh_1 rfl ?_
      refine r_iload_n (pc := 124) h dX0_liveDay_124 rfl ?_
      refine r_ialoadE (pc := 125) h dX0_liveDay_125 sh_6 (hR.so hi) ?_
      refine r_aload_n (pc := 126) h dX0_liveDay_126 rfl ?_
      refine r_iload_n (pc := 127) h dX0_liveDay_127 rfl ?_
      refine r_aload_n (pc := 128) h dX0_liveDay_128 rfl ?_
      refine r_getE (pc := 129) h dX0_liveDay_129 f_X0_43 sh_1 rfl (hR.dy) ?_
      refine r_callVi (pc := 132) (As := [_, _]) h dX0_liveDay_132 k_X0_100 gc_1 rfl ⟨Nat.le_of_ble_eq_true rfl, Nat.le_of_ble_eq_true rfl, Nat.le_of_ble_eq_true rfl⟩ (c_X0_chafe_1 hR (by first | exact gok_3 (gok_5 (gok_72 ho (cap_le _ _)) h56) (by omega) | exact gok_3 (gok_72 ho (cap_le _ _)) (cap_le _ _)) hs (Nat.lt_of_le_of_lt hdy (by decide))) (fun x_132 g1 hq => ?_)
      obtain ⟨rfl, hg1⟩ := hq
      rw [hg1]
      refine r_iadd (pc := 135) h dX0_liveDay_135 ?_
      refine r_bipush (pc := 136) h dX0_liveDay_136 cb_20 ?_
      refine r_mmin (pc := 138) h dX0_liveDay_138 k_X0_93 ⟨Nat.le_of_ble_eq_true rfl, Nat.le_of_ble_eq_true rfl⟩ ?_
      have hS20 : liveS c i ≤ 20 := cap_le _ _
      refine r_top (y := nI (liveS c i)) h (by unfold liveS; rw [es, nI_add]; exact nI_cap (a := c 4 i + chaN (c 0 s) (c 2 s) (c 7 3)) (b := 20) (by omega) (by decide)) ?_
      refine r_iastore (pc := 141) h dX0_liveDay_141 sh_6 (hR.ci hi) ?_
      obtain ⟨hR, hF⟩ := Rx1.wr hF (hR.u_so hi _) (by decide)
      generalize gup g2 6 _ _ = g2 at hR hF ⊢
      refine r_aload_n (pc := 142) h dX0_liveDay_142 rfl ?_
      refine r_getR (pc := 143) h dX0_liveDay_143 f_X0_24 sh_1 rfl ?_
      refine r_iload_n (pc := 146) h dX0_liveDay_146 rfl ?_
      refine r_ialoadE (pc := 147) h dX0_liveDay_147 sh_6 (hR.so hi) ?_
      refine r_top (y := nI (liveS c i)) h (by rw [cup_same]) ?_
      refine r_bipush (pc := 148) h dX0_liveDay_148 cb_15 ?_
      refine r_icmp_lt (pc := 150) (tgt := 161) h dX0_liveDay_150 (by decide) (fun c150 => ?_) (fun c150 => ?_)
      · have h15 : ¬ 15 ≤ liveS c i := Nat.not_le_of_lt ((nI_ltI (Nat.lt_of_le_of_lt hS20 (by decide)) (by decide)).mp c150)
        refine r_rv t (pc := 161) dX0_liveDay_161 ?_
        refine ⟨?_, hF⟩
        have h0 : ¬ c 6 i = 0 := by omega
        unfold live liveQ liveP
        rw [if_neg h0, es]
        first
          | (rw [if_pos h15, if_pos hc]; exact hR)
          | (rw [if_neg h15, if_pos hc]; exact hR)
          | (rw [if_pos h15, if_neg (by rw [hc]; decide)]; exact hR)
          | (rw [if_neg h15, if_neg (by rw [hc]; decide)]; exact hR)
      · have h15 : 15 ≤ liveS c i := Nat.le_of_not_lt fun q => c150 (nI_lt q (by decide))
        refine r_aload_n (pc := 153) h dX0_liveDay_153 rfl ?_
        refine r_getR (pc := 154) h dX0_liveDay_154 f_X0_30 sh_1 rfl ?_
        refine r_iload_n (pc := 157) h dX0_liveDay_157 rfl ?_
        refine r_bipush (pc := 158) h dX0_liveDay_158 cb_m9 ?_
        refine r_top (y := wz 0) h rfl ?_
        refine r_iastore (pc := 160) h dX0_liveDay_160 sh_8 (hR.ci hi) ?_
        obtain ⟨hR, hF⟩ := Rx1.wr hF (hR.u_wo hi 0) (by decide)
        generalize gup g2 8 _ _ = g2 at hR hF ⊢
        refine r_rv t (pc := 161) dX0_liveDay_161 ?_
        refine ⟨?_, hF⟩
        have h0 : ¬ c 6 i = 0 := by omega
        unfold live liveQ liveP
        rw [if_neg h0, es]
        first
          | (rw [if_pos h15, if_pos hc]; exact hR)
          | (rw [if_neg h15, if_pos hc]; exact hR)
          | (rw [if_pos h15, if_neg (by rw [hc]; decide)]; exact hR)
          | (rw [if_neg h15, if_neg (by rw [hc]; decide)]; exact hR)
    · have hc : canB c i (covOf c i) = true := by simpa using mt (bI_0 (canB c i (covOf c i))).mpr c62
      rw [ec] at hc
      have h56 : c 5 i + 1 ≤ 6 := canB_6 hc
      refine r_aload_n (pc := 65) h dX0_liveDay_65 rfl ?_
      refine r_getR (pc := 66) h dX0_liveDay_66 f_X0_27 sh_1 rfl ?_
      refine r_iload_n (pc := 69) h dX0_liveDay_69 rfl ?_
      refine r_dup2 (pc := 70) h dX0_liveDay_70 rfl rfl ?_
      refine r_ialoadE (pc := 71) h dX0_liveDay_71 sh_7 (hR.sa hi) ?_
      refine r_iconst (pc := 72) h dX0_liveDay_72 ci_1 ?_
      refine r_iadd (pc := 73) h dX0_liveDay_73 ?_
      refine r_top (y := nI (c 5 i + 1)) h (nI_add _ _) ?_
      refine r_iastore (pc := 74) h dX0_liveDay_74 sh_7 (hR.ci hi) ?_
      obtain ⟨hR, hF⟩ := Rx1.wr hF (hR.u_sa hi _) (by decide)
      generalize gup g2 7 _ _ = g2 at hR hF ⊢
      refine r_aload_n (pc := 75) h dX0_liveDay_75 rfl ?_
      refine r_getR (pc := 76) h dX0_liveDay_76 f_X0_21 sh_1 rfl ?_
      refine r_iload_n (pc := 79) h dX0_liveDay_79 rfl ?_
      refine r_aload_n (pc := 80) h dX0_liveDay_80 rfl ?_
      refine r_getR (pc := 81) h dX0_liveDay_81 f_X0_21 sh_1 rfl ?_
      refine r_iload_n (pc := 84) h dX0_liveDay_84 rfl ?_
      refine r_ialoadE (pc := 85) h dX0_liveDay_85 sh_5 (hR.fe hi) ?_
      refine r_iconst (pc := 86) h dX0_liveDay_86 ci_1 ?_
      refine r_isub (pc := 87) h dX0_liveDay_87 ?_
      refine r_iconst (pc := 88) h dX0_liveDay_88 ci_0 ?_
      refine r_mmax (pc := 89) h dX0_liveDay_89 k_X0_78 ⟨Nat.le_of_ble_eq_true rfl, Nat.le_of_ble_eq_true rfl⟩ ?_
      refine r_top (y := nI (c 3 i - 1)) h (nI_low (a := c 3 i) (b := 1) (by omega) (by decide)) ?_
      refine r_iastore (pc := 92) h dX0_liveDay_92 sh_5 (hR.ci hi) ?_
      obtain ⟨hR, hF⟩ := Rx1.wr hF (hR.u_fe hi _) (by decide)
      generalize gup g2 5 _ _ = g2 at hR hF ⊢
      refine r_goto (pc := 93) (tgt := 115) h dX0_liveDay_93 (by decide) ?_
      refine r_aload_n (pc := 115) h dX0_liveDay_115 rfl ?_
      refine r_getR (pc := 116) h dX0_liveDay_116 f_X0_24 sh_1 rfl ?_
      refine r_iload_n (pc := 119) h dX0_liveDay_119 rfl ?_
      refine r_aload_n (pc := 120) h dX0_liveDay_120 rfl ?_
      refine r_getR (pc := 121) h dX0_liveDay_121 f_X0_24 sh_1 rfl ?_
      refine r_iload_n (pc := 124) h dX0_liveDay_124 rfl ?_
      refine r_ialoadE (pc := 125) h dX0_liveDay_125 sh_6 (hR.so hi) ?_
      refine r_aload_n (pc := 126) h dX0_liveDay_126 rfl ?_
      refine r_iload_n (pc := 127) h dX0_liveDay_127 rfl ?_
      refine r_aload_n (pc := 128) h dX0_liveDay_128 rfl ?_
      refine r_getE (pc := 129) h dX0_liveDay_129 f_X0_43 sh_1 rfl (hR.dy) ?_
      refine r_callVi (pc := 132) (As := [_, _]) h dX0_liveDay_132 k_X0_100 gc_1 rfl ⟨Nat.le_of_ble_eq_true rfl, Nat.le_of_ble_eq_true rfl, Nat.le_of_ble_eq_true rfl⟩ (c_X0_chafe_1 hR (by first | exact gok_3 (gok_5 (gok_72 ho (cap_le _ _)) h56) (by omega) | exact gok_3 (gok_72 ho (cap_le _ _)) (cap_le _ _)) hs (Nat.lt_of_le_of_lt hdy (by decide))) (fun x_132 g1 hq => ?_)
      obtain ⟨rfl, hg1⟩ := hq
      rw [hg1]
      refine r_iadd (pc := 135) h dX0_liveDay_135 ?_
      refine r_bipush (pc := 136) h dX0_liveDay_136 cb_20 ?_
      refine r_mmin (pc := 138) h dX0_liveDay_138 k_X0_93 ⟨Nat.le_of_ble_eq_true rfl, Nat.le_of_ble_eq_true rfl⟩ ?_
      have hS20 : liveS c i ≤ 20 := cap_le _ _
      refine r_top (y := nI (liveS c i)) h (by unfold liveS; rw [es, nI_add]; exact nI_cap (a := c 4 i + chaN (c 0 s) (c 2 s) (c 7 3)) (b := 20) (by omega) (by decide)) ?_
      refine r_iastore (pc := 141) h dX0_liveDay_141 sh_6 (hR.ci hi) ?_
      obtain ⟨hR, hF⟩ := Rx1.wr hF (hR.u_so hi _) (by decide)
      generalize gup g2 6 _ _ = g2 at hR hF ⊢
      refine r_aload_n (pc := 142) h dX0_liveDay_142 rfl ?_
      refine r_getR (pc := 143) h dX0_liveDay_143 f_X0_24 sh_1 rfl ?_
      refine r_iload_n (pc := 146) h dX0_liveDay_146 rfl ?_
      refine r_ialoadE (pc := 147) h dX0_liveDay_147 sh_6 (hR.so hi) ?_
      refine r_top (y := nI (liveS c i)) h (by rw [cup_same]) ?_
      refine r_bipush (pc := 148) h dX0_liveDay_148 cb_15 ?_
      refine r_icmp_lt (pc := 150) (tgt := 161) h dX0_liveDay_150 (by decide) (fun c150 => ?_) (fun c150 => ?_)
      · have h15 : ¬ 15 ≤ liveS c i := Nat.not_le_of_lt ((nI_ltI (Nat.lt_of_le_of_lt hS20 (by decide)) (by decide)).mp c150)
        refine r_rv t (pc := 161) dX0_liveDay_161 ?_
        refine ⟨?_, hF⟩
        have h0 : ¬ c 6 i = 0 := by omega
        unfold live liveQ liveP
        rw [if_neg h0, es]
        first
          | (rw [if_pos h15, if_pos hc]; exact hR)
          | (rw [if_neg h15, if_pos hc]; exact hR)
          | (rw [if_pos h15, if_neg (by rw [hc]; decide)]; exact hR)
          | (rw [if_neg h15, if_neg (by rw [hc]; decide)]; exact hR)
      · have h15 : 15 ≤ liveS c i := Nat.le_of_not_lt fun q => c150 (nI_lt q (by decide))
        refine r_aload_n (pc := 153) h dX0_liveDay_153 rfl ?_
        refine r_getR (pc := 154) h dX0_liveDay_154 f_X0_30 sh_1 rfl ?_
        refine r_iload_n (pc := 157) h dX0_liveDay_157 rfl ?_
        refine r_bipush (pc := 158) h dX0_liveDay_158 cb_m9 ?_
        refine r_top (y := wz 0) h rfl ?_
        refine r_iastore (pc := 160) h dX0_liveDay_160 sh_8 (hR.ci hi) ?_
        obtain ⟨hR, hF⟩ := Rx1.wr hF (hR.u_wo hi 0) (by decide)
        generalize gup g2 8 _ _ = g2 at hR hF ⊢
        refine r_rv t (pc := 161) dX0_liveDay_161 ?_
        refine ⟨?_, hF⟩
        have h0 : ¬ c 6 i = 0 := by omega
        unfold live liveQ liveP
        rw [if_neg h0, es]
        first
          | (rw [if_pos h15, if_pos hc]; exact hR)
          | (rw [if_neg h15, if_pos hc]; exact hR)
          | (rw [if_pos h15, if_neg (by rw [hc]; decide)]; exact hR)
          | (rw [if_neg h15, if_neg (by rw [hc]; decide)]; exact hR)
  · have e6 : c 6 i = 0 := (wz_none (by omega)).mp c10
    refine r_aload_n (pc := 13) h dX0_liveDay_13 rfl ?_
    refine r_getR (pc := 14) h dX0_liveDay_14 f_X0_24 sh_1 rfl ?_
    refine r_iload_n (pc := 17) h dX0_liveDay_17 rfl ?_
    refine r_aload_n (pc := 18) h dX0_liveDay_18 rfl ?_
    refine r_getR (pc := 19) h dX0_liveDay_19 f_X0_24 sh_1 rfl ?_
    refine r_iload_n (pc := 22) h dX0_liveDay_22 rfl ?_
    refine r_ialoadE (pc := 23) h dX0_liveDay_23 sh_6 (hR.so hi) ?_
    refine r_iconst (pc := 24) h dX0_liveDay_24 ci_1 ?_
    refine r_isub (pc := 25) h dX0_liveDay_25 ?_
    refine r_iconst (pc := 26) h dX0_liveDay_26 ci_0 ?_
    refine r_mmax (pc := 27) h dX0_liveDay_27 k_X0_78 ⟨Nat.le_of_ble_eq_true rfl, Nat.le_of_ble_eq_true rfl⟩ ?_
    refine r_top (y := nI (c 4 i - 1)) h (nI_low (by omega) (by decide)) ?_
    refine r_iastore (pc := 30) h dX0_liveDay_30 sh_6 (hR.ci hi) ?_
    obtain ⟨hR, hF⟩ := Rx1.wr hF (hR.u_so hi _) (by decide)
    generalize gup g2 6 _ _ = g2 at hR hF ⊢
    refine r_rv t (pc := 31) dX0_liveDay_31 ?_
    exact ⟨by rw [live, if_pos e6]; exact hR, hF⟩
set_option maxRecDepth 100000 in
set_option maxHeartbeats 4000000 in
theorem c_X0_rustUnworn_1 {g : gG} {c : gCt} (hR : Rx1 g c) (ho : gok c) : gCv mX0_rustUnworn [.ref 1] g (fun g1 => Rx1 g1 (rstU c) ∧ frm 1 9 g g1) := by
  refine gCv_of (own := RX0) (ls0 := [.ref 1, .null]) ⟨rfl, pl_X0⟩ rfl (Nat.le_of_ble_eq_true rfl) (fun G (h : gR RX0 cX0_rustUnworn 1 40 G) (t : gTv cX0_rustUnworn _ G) => ?_)
  have loop : ∀ n i (d : gCt) (g2 : gG), i + n = d 7 0 → Rx1 g2 d → gok d → frm 1 9 g g2 → gfold rstF n i d = rstU c → G 2 [.ref 1, .int (nI i)] [] g2 := by
    intro n
    induction n with
    | zero =>
      intro i d g2 hi hR ho hF hw
      have hn6 := hR.n6
      refine r_iload_n (pc := 2) h dX0_rustUnworn_2 rfl ?_
      refine r_aload_n (pc := 3) h dX0_rustUnworn_3 rfl ?_
      refine r_getE (pc := 4) h dX0_rustUnworn_4 f_X0_33 sh_1 rfl (hR.ns) ?_
      refine r_icmp_ge (pc := 7) (tgt := 45) h dX0_rustUnworn_7 (by decide) (fun c7 => ?_) (fun c7 => absurd (nI_le (by omega) (by omega)) c7)
      refine r_rv t (pc := 45) dX0_rustUnworn_45 ?_
      exact ⟨by rw [← hw]; exact hR, hF⟩
    | succ n ih =>
      intro i d g2 hin hR ho hF hw
      have hn6 := hR.n6
      have hn5 := hR.n5
      have hi : i < d 7 0 := by omega
      have hk := ho.2.2.1 i hi
      have h7 := rstF_7 d i
      refine r_iload_n (pc := 2) h dX0_rustUnworn_2 rfl ?_
      refine r_aload_n (pc := 3) h dX0_rustUnworn_3 rfl ?_
      refine r_getE (pc := 4) h dX0_rustUnworn_4 f_X0_33 sh_1 rfl (hR.ns) ?_
      refine r_icmp_ge (pc := 7) (tgt := 45) h dX0_rustUnworn_7 (by decide) (fun c7 => absurd c7 (nI_ge hi (by omega))) (fun c7 => ?_)
      refine r_aload_n (pc := 10) h dX0_rustUnworn_10 rfl ?_
      refine r_iload_n (pc := 11) h dX0_rustUnworn_11 rfl ?_
      refine r_callVi (pc := 12) (As := [_]) h dX0_rustUnworn_12 k_X0_52 gc_1 rfl ⟨Nat.le_of_ble_eq_true rfl, Nat.le_of_ble_eq_true rfl, Nat.le_of_ble_eq_true rfl⟩ (c_X0_wearer_1 hR ho (by omega)) (fun x_12 g1 hq => ?_)
      obtain ⟨rfl, hg1⟩ := hq
      rw [hg1]
      refine r_bipush (pc := 15) h dX0_rustUnworn_15 cb_m9 ?_
      refine r_icmp_ne (pc := 17) (tgt := 39) h dX0_rustUnworn_17 (by decide) (fun c17 => ?_) (fun c17 => ?_)
      · have e : rstF i d = d := by unfold rstF; exact if_neg (fun q => c17 ((wr_9 hn5).mpr q))
        refine r_iinc (pc := 39) (ls2 := [_, _]) h dX0_rustUnworn_39 rfl (ic1 _) rfl ?_
        refine r_goto (pc := 42) (tgt := 2) h dX0_rustUnworn_42 (by decide) ?_
        exact ih (i + 1) (rstF i d) _ (by rw [h7.1]; omega) (by rw [e]; exact hR) (rstF_gok ho i) hF hw
      · have e : rstF i d = cup d 2 i (cap (d 2 i + 1) 9) := by unfold rstF; exact if_pos ((wr_9 hn5).mp c17)
        refine r_aload_n (pc := 20) h dX0_rustUnworn_20 rfl ?_
        refine r_getR (pc := 21) h dX0_rustUnworn_21 f_X0_18 sh_1 rfl ?_
        refine r_iload_n (pc := 24) h dX0_rustUnworn_24 rfl ?_
        refine r_aload_n (pc := 25) h dX0_rustUnworn_25 rfl ?_
        refine r_getR (pc := 26) h dX0_rustUnworn_26 f_X0_18 sh_1 rfl ?_
        refine r_iload_n (pc := 29) h dX0_rustUnworn_29 rfl ?_
        refine r_ialoadE (pc := 30) h dX0_rustUnworn_30 sh_4 (hR.ru hi) ?_
        refine r_iconst (pc := 31) h dX0_rustUnworn_31 ci_1 ?_
        refine r_iadd (pc := 32) h dX0_rustUnworn_32 ?_
        refine r_bipush (pc := 33) h dX0_rustUnworn_33 cb_9 ?_
        refine r_mmin (pc := 35) h dX0_rustUnworn_35 k_X0_93 ⟨Nat.le_of_ble_eq_true rfl, Nat.le_of_ble_eq_true rfl⟩ ?_
        refine r_top (y := nI (cap (d 2 i + 1) 9)) h (by rw [nI_add]; exact nI_cap (by omega) (by decide)) ?_
        refine r_iastore (pc := 38) h dX0_rustUnworn_38 sh_4 (hR.si hi) ?_
        obtain ⟨hR, hF⟩ := Rx1.wr hF (hR.u_ru hi _) (by decide)
        generalize gup g2 4 _ _ = g2 at hR hF ⊢
        refine r_iinc (pc := 39) (ls2 := [_, _]) h dX0_rustUnworn_39 rfl (ic1 _) rfl ?_
        refine r_goto (pc := 42) (tgt := 2) h dX0_rustUnworn_42 (by decide) ?_
        exact ih (i + 1) (rstF i d) _ (by rw [h7.1]; omega) (by rw [e]; exact hR) (rstF_gok ho i) hF hw
  refine r_iconst (pc := 0) h dX0_rustUnworn_0 ci_0 ?_
  refine r_istore_n (pc := 1) (ls2 := [_, _]) h dX0_rustUnworn_1 (Nat.le_of_ble_eq_true rfl) rfl ?_
  exact loop (c 7 0) 0 c g (by omega) hR ho frm.rf rfl
set_option maxRecDepth 100000 in
set_option maxHeartbeats 4000000 in
theorem c_X0_passDays_1 {g : gG} {c : gCt} (hR : Rx1 g c) (ho : gok c) {n : Nat} (hd : c 7 3 + n ≤ 2000) : gCv mX0_passDays [.ref 1, .int (nI n)] g (fun g1 => Rx1 g1 (daysC n c) ∧ frm 1 9 g g1) := by
  refine gCv_of (own := RX0) (ls0 := [.ref 1, .int (nI n), .null, .null]) ⟨rfl, pl_X0⟩ rfl (Nat.le_of_ble_eq_true rfl) (fun G (h : gR RX0 cX0_passDays 4 160 G) (t : gTv cX0_passDays _ G) => ?_)
  have loop : ∀ m k (v : Value) (d : gCt) (g2 : gG), k + m = n → Rx1 g2 d → gok d → d 7 3 + m ≤ 2000 → frm 1 9 g g2 → gfold (fun _ c => dayC c) m k d = daysC n c → G 2 [.ref 1, .int (nI n), .int (nI k), v] [] g2 := by
    intro m
    induction m with
    | zero =>
      intro k v d g2 hk hR ho hd2 hF hw
      refine r_iload_n (pc := 2) h dX0_passDays_2 rfl ?_
      refine r_iload_n (pc := 3) h dX0_passDays_3 rfl ?_
      refine r_icmp_ge (pc := 4) (tgt := 57) h dX0_passDays_4 (by decide) (fun c4 => ?_) (fun c4 => absurd (nI_le (by omega) (by omega)) c4)
      refine r_rv t (pc := 57) dX0_passDays_57 ?_
      exact ⟨by rw [← hw]; exact hR, hF⟩
    | succ m ih =>
      intro k v d g2 hk hR ho hd2 hF hw
      have hd7 := dayC_ok ho (by omega)
      have hn5 := hR.n5
      have inner : ∀ q i (b : gCt) (g2 : gG), i + q = b 7 1 → Rx1 g2 b → gok b → frm 1 9 g g2 → gfold (fun i c => live c i) q i b = gfold (fun i c => live c i) (d 7 1) 0 (cup d 7 3 (d 7 3 + 1)) → G 19 [.ref 1, .int (nI n), .int (nI k), .int (nI i)] [] g2 := by
        intro q
        induction q with
        | zero =>
          intro i b g2 hi hR ho2 hF hw2
          have hn5 := hR.n5
          have hb : b = gfold (fun i c => live c i) (d 7 1) 0 (cup d 7 3 (d 7 3 + 1)) := hw2
          have hdy := ho2.2.1
          refine r_iload_n (pc := 19) h dX0_passDays_19 rfl ?_
          refine r_aload_n (pc := 20) h dX0_passDays_20 rfl ?_
          refine r_getE (pc := 21) h dX0_passDays_21 f_X0_37 sh_1 rfl (hR.nc) ?_
          refine r_icmp_ge (pc := 24) (tgt := 38) h dX0_passDays_24 (by decide) (fun c24 => ?_) (fun c24 => absurd (nI_le (by omega) (by omega)) c24)
          refine r_aload_n (pc := 38) h dX0_passDays_38 rfl ?_
          refine r_getE (pc := 39) h dX0_passDays_39 f_X0_43 sh_1 rfl (hR.dy) ?_
          refine r_iconst (pc := 42) h dX0_passDays_42 ci_5 ?_
          refine r_irem (pc := 43) h dX0_passDays_43 (by decide) ?_
          refine r_top (y := nI (b 7 3 % 5)) h (pk_rem (by omega) (by decide) (by decide)) ?_
          refine r_if_ne (pc := 44) (tgt := 51) h dX0_passDays_44 (by decide) (fun c44 => ?_) (fun c44 => ?_)
          · have h5 : ¬ b 7 3 % 5 = 0 := fun q => c44 (by rw [q]; rfl)
            have e : dayC d = b := by unfold dayC; dsimp only; rw [← hb, if_neg h5]
            refine r_iinc (pc := 51) (ls2 := [_, _, _, _]) h dX0_passDays_51 rfl (ic1 _) rfl ?_
            refine r_goto (pc := 54) (tgt := 2) h dX0_passDays_54 (by decide) ?_
            exact ih (k + 1) _ (dayC d) _ (by omega) (by rw [e]; exact hR) hd7.2.2.2 (by omega) hF hw
          · have h5 : b 7 3 % 5 = 0 := (nI_eq0 (by omega)).mp c44
            have e : dayC d = rstU b := by unfold dayC; dsimp only; rw [← hb, if_pos h5]
            refine r_aload_n (pc := 47) h dX0_passDays_47 rfl ?_
            refine r_callVv (pc := 48) (As := []) h dX0_passDays_48 k_X0_87 gc_1 rfl ⟨Nat.le_of_ble_eq_true rfl, Nat.le_of_ble_eq_true rfl, Nat.le_of_ble_eq_true rfl⟩ (c_X0_rustUnworn_1 hR ho2) (fun g1 hq => ?_)
            obtain ⟨hR, hF1⟩ := hq
            have hF := hF.tr hF1
            refine r_iinc (pc := 51) (ls2 := [_, _, _, _]) h dX0_passDays_51 rfl (ic1 _) rfl ?_
            refine r_goto (pc := 54) (tgt := 2) h dX0_passDays_54 (by decide) ?_
            exact ih (k + 1) _ (dayC d) _ (by omega) (by rw [e]; exact hR) hd7.2.2.2 (by omega) hF hw
        | succ q ih2 =>
          intro i b g2 hin hR ho2 hF hw2
          have hn5 := hR.n5
          have hi : i < b 7 1 := by omega
          refine r_iload_n (pc := 19) h dX0_passDays_19 rfl ?_
          refine r_aload_n (pc := 20) h dX0_passDays_20 rfl ?_
          refine r_getE (pc := 21) h dX0_passDays_21 f_X0_37 sh_1 rfl (hR.nc) ?_
          refine r_icmp_ge (pc := 24) (tgt := 38) h dX0_passDays_24 (by decide) (fun c24 => absurd c24 (nI_ge hi (by omega))) (fun c24 => ?_)
          refine r_aload_n (pc := 27) h dX0_passDays_27 rfl ?_
          refine r_iload_n (pc := 28) h dX0_passDays_28 rfl ?_
          refine r_callVv (pc := 29) (As := [_]) h dX0_passDays_29 k_X0_83 gc_1 rfl ⟨Nat.le_of_ble_eq_true rfl, Nat.le_of_ble_eq_true rfl, Nat.le_of_ble_eq_true rfl⟩ (c_X0_liveDay_1 hR ho2 hi) (fun g1 hq => ?_)
          obtain ⟨hR, hF1⟩ := hq
          have hF := hF.tr hF1
          refine r_iinc (pc := 32) (ls2 := [_, _, _, _]) h dX0_passDays_32 rfl (ic1 _) rfl ?_
          refine r_goto (pc := 35) (tgt := 19) h dX0_passDays_35 (by decide) ?_
          exact ih2 (i + 1) (live b i) _ (by rw [(live_7 b i).2.1]; omega) hR (live_gok ho2 hi) hF hw2
      refine r_iload_n (pc := 2) h dX0_passDays_2 rfl ?_
      refine r_iload_n (pc := 3) h dX0_passDays_3 rfl ?_
      refine r_icmp_ge (pc := 4) (tgt := 57) h dX0_passDays_4 (by decide) (fun c4 => absurd c4 (nI_ge (show k < n by omega) (by omega))) (fun c4 => ?_)
      refine r_aload_n (pc := 7) h dX0_passDays_7 rfl ?_
      refine r_dup (pc := 8) h dX0_passDays_8 rfl ?_
      refine r_getE (pc := 9) h dX0_passDays_9 f_X0_43 sh_1 rfl (hR.dy) ?_
      refine r_iconst (pc := 12) h dX0_passDays_12 ci_1 ?_
      refine r_iadd (pc := 13) h dX0_passDays_13 ?_
      refine r_top (y := nI (d 7 3 + 1)) h (nI_add _ _) ?_
      refine r_putI (pc := 14) h dX0_passDays_14 fw_X0_43 sh_1 rfl rfl rfl ?_
      obtain ⟨hR, hF⟩ := Rx1.wr hF (hR.u_dy _) (by decide)
      generalize gup g2 1 _ _ = g2 at hR hF ⊢
      refine r_iconst (pc := 17) h dX0_passDays_17 ci_0 ?_
      refine r_istore_n (pc := 18) (ls2 := [_, _, _, _]) h dX0_passDays_18 (Nat.le_of_ble_eq_true rfl) rfl ?_
      exact inner (d 7 1) 0 _ _ (by simp [cup]) hR (gok_73 ho (by omega)) hF rfl
  refine r_iconst (pc := 0) h dX0_passDays_0 ci_0 ?_
  refine r_istore_n (pc := 1) (ls2 := [_, _, _, _]) h dX0_passDays_1 (Nat.le_of_ble_eq_true rfl) rfl ?_
  exact loop n 0 _ c g (by omega) hR ho hd frm.rf rfl
set_option maxRecDepth 100000 in
set_option maxHeartbeats 4000000 in
theorem c_X0_putIn_9 {g : gG} {c : gCt} (hR : Rx9 g c) (ho : gok c) {i s : Nat} (hi : i < c 7 1) (hs : s < c 7 0) : gCv mX0_putIn [.ref 9, .int (nI i), .int (nI s)] g (fun g1 => Rx9 g1 (put c i s) ∧ frm 9 17 g g1) := by
  refine gCv_of (own := RX0) (ls0 := [.ref 9, .int (nI i), .int (nI s), .null]) ⟨rfl, pl_X0⟩ rfl (Nat.le_of_ble_eq_true rfl) (fun G (h : gR RX0 cX0_putIn 1 40 G) (t : gTv cX0_putIn _ G) => ?_)
  have hn5 := hR.n5
  have hn6 := hR.n6
  suffices H : ∀ g2 : gG, Rx9 g2 c → frm 9 17 g g2 → G 0 [.ref 9, .int (nI i), .int (nI s), .null] [] g2 from H g hR frm.rf
  intro g2 hR hF
  refine r_aload_n (pc := 0) h dX0_putIn_0 rfl ?_
  refine r_iload_n (pc := 1) h dX0_putIn_1 rfl ?_
  refine r_callVi (pc := 2) (As := [_]) h dX0_putIn_2 k_X0_52 gc_9 rfl ⟨Nat.le_of_ble_eq_true rfl, Nat.le_of_ble_eq_true rfl, Nat.le_of_ble_eq_true rfl⟩ (c_X0_wearer_9 hR ho (by omega)) (fun x_2 g1 hq => ?_)
  obtain ⟨rfl, hg1⟩ := hq
  rw [hg1]
  refine r_istore_n (pc := 5) (ls2 := [_, _, _, _]) h dX0_putIn_5 (Nat.le_of_ble_eq_true rfl) rfl ?_
  refine r_iload_n (pc := 6) h dX0_putIn_6 rfl ?_
  refine r_bipush (pc := 7) h dX0_putIn_7 cb_m9 ?_
  refine r_icmp_eq (pc := 9) (tgt := 20) h dX0_putIn_9 (by decide) (fun c9 => ?_) (fun c9 => ?_)
  · have hw : wr c s = none := (wr_9 hn5).mp c9
    refine r_aload_n (pc := 20) h dX0_putIn_20 rfl ?_
    refine r_getR (pc := 21) h dX0_putIn_21 f_X0_30 sh_9 rfl ?_
    refine r_iload_n (pc := 24) h dX0_putIn_24 rfl ?_
    refine r_iload_n (pc := 25) h dX0_putIn_25 rfl ?_
    refine r_top (y := wz (s + 1)) h (wz_s s).symm ?_
    refine r_iastore (pc := 26) h dX0_putIn_26 sh_16 (hR.ci hi) ?_
    obtain ⟨hR, hF⟩ := Rx9.wr hF (hR.u_wo hi (s + 1)) (by decide)
    generalize gup g2 16 _ _ = g2 at hR hF ⊢
    refine r_rv t (pc := 27) dX0_putIn_27 ?_
    refine ⟨?_, hF⟩
    unfold put
    rw [hw]
    exact hR
  · obtain ⟨k, hw⟩ : ∃ k, wr c s = some k := Option.ne_none_iff_exists'.mp (fun q => c9 ((wr_9 hn5).mpr q))
    have hk : k < c 7 1 := (wr_lt hw).1
    rw [show oI (wr c s) = nI k by rw [hw]; rfl]
    refine r_aload_n (pc := 12) h dX0_putIn_12 rfl ?_
    refine r_getR (pc := 13) h dX0_putIn_13 f_X0_30 sh_9 rfl ?_
    refine r_iload_n (pc := 16) h dX0_putIn_16 rfl ?_
    refine r_bipush (pc := 17) h dX0_putIn_17 cb_m9 ?_
    refine r_top (y := wz 0) h rfl ?_
    refine r_iastore (pc := 19) h dX0_putIn_19 sh_16 (hR.ci hk) ?_
    obtain ⟨hR, hF⟩ := Rx9.wr hF (hR.u_wo hk 0) (by decide)
    generalize gup g2 16 _ _ = g2 at hR hF ⊢
    refine r_aload_n (pc := 20) h dX0_putIn_20 rfl ?_
    refine r_getR (pc := 21) h dX0_putIn_21 f_X0_30 sh_9 rfl ?_
    refine r_iload_n (pc := 24) h dX0_putIn_24 rfl ?_
    refine r_iload_n (pc := 25) h dX0_putIn_25 rfl ?_
    refine r_top (y := wz (s + 1)) h (wz_s s).symm ?_
    refine r_iastore (pc := 26) h dX0_putIn_26 sh_16 (hR.ci hi) ?_
    obtain ⟨hR, hF⟩ := Rx9.wr hF (hR.u_wo hi (s + 1)) (by decide)
    generalize gup g2 16 _ _ = g2 at hR hF ⊢
    refine r_rv t (pc := 27) dX0_putIn_27 ?_
    refine ⟨?_, hF⟩
    unfold put
    rw [hw]
    exact hR
set_option maxRecDepth 100000 in
set_option maxHeartbeats 4000000 in
theorem c_X0_liveDay_9 {g : gG} {c : gCt} (hR : Rx9 g c) (ho : gok c) {i : Nat} (hi : i < c 7 1) : gCv mX0_liveDay [.ref 9, .int (nI i)] g (fun g1 => Rx9 g1 (live c i) ∧ frm 9 17 g g1) := by
  refine gCv_of (own := RX0) (ls0 := [.ref 9, .int (nI i), .null]) ⟨rfl, pl_X0⟩ rfl (Nat.le_of_ble_eq_true rfl) (fun G (h : gR RX0 cX0_liveDay 3 120 G) (t : gTv cX0_liveDay _ G) => ?_)
  have hn5 := hR.n5
  have hn6 := hR.n6
  have hk4 := ho.2.2.2 i hi
  have hpd := ho.1
  have hdy := ho.2.1
  suffices H : ∀ g2 : gG, Rx9 g2 c → frm 9 17 g g2 → G 0 [.ref 9, .int (nI i), .null] [] g2 from H g hR frm.rf
  intro g2 hR hF
  refine r_aload_n (pc := 0) h dX0_liveDay_0 rfl ?_
  refine r_getR (pc := 1) h dX0_liveDay_1 f_X0_30 sh_9 rfl ?_
  refine r_iload_n (pc := 4) h dX0_liveDay_4 rfl ?_
  refine r_ialoadE (pc := 5) h dX0_liveDay_5 sh_16 (hR.wo hi) ?_
  refine r_istore_n (pc := 6) (ls2 := [_, _, _]) h dX0_liveDay_6 (Nat.le_of_ble_eq_true rfl) rfl ?_
  refine r_iload_n (pc := 7) h dX0_liveDay_7 rfl ?_
  refine r_bipush (pc := 8) h dX0_liveDay_8 cb_m9 ?_
  refine r_icmp_ne (pc := 10) (tgt := 32) h dX0_liveDay_10 (by decide) (fun c10 => ?_) (fun c10 => ?_)
  · obtain ⟨s, e6⟩ : ∃ s, c 6 i = s + 1 := ⟨c 6 i - 1, by have n0 : ¬ c 6 i = 0 := fun q => c10 ((wz_none (by omega)).mpr q); omega⟩
    have hs : s < c 7 0 := by omega
    have es : c 6 i - 1 = s := by omega
    have hk := ho.2.2.1 s hs
    have hpr := priN_le (c 0 s)
    have hch := chaN_le hk.2.2 (k := c 0 s) (c 7 3)
    have ec : covOf c i = cvr c s := by simp [covOf, e6]
    rw [show wz (c 6 i) = nI s by rw [e6]; exact wz_s s]
    refine r_aload_n (pc := 32) h dX0_liveDay_32 rfl ?_
    refine r_aload_n (pc := 33) h dX0_liveDay_33 rfl ?_
    refine r_getE (pc := 34) h dX0_liveDay_34 f_X0_40 sh_9 rfl (hR.pd) ?_
    refine r_gets (q := 100) (pc := 37) h dX0_liveDay_37 (by decide) (Or.inl ⟨rfl, rfl⟩) ?_
    refine r_aload_n (pc := 40) h dX0_liveDay_40 rfl ?_
    refine r_getR (pc := 41) h dX0_liveDay_41 f_X0_9 sh_9 rfl ?_
    refine r_iload_n (pc := 44) h dX0_liveDay_44 rfl ?_
    refine r_ialoadE (pc := 45) h dX0_liveDay_45 sh_10 (hR.kd hs) ?_
    refine r_tabldE (pc := 46) h dX0_liveDay_46 (by decide) (tabP hk.1) ?_
    refine r_iadd (pc := 47) h dX0_liveDay_47 ?_
    refine r_sipush (pc := 48) h dX0_liveDay_48 cs_9999 ?_
    refine r_mmin (pc := 51) h dX0_liveDay_51 k_X0_93 ⟨Nat.le_of_ble_eq_true rfl, Nat.le_of_ble_eq_true rfl⟩ ?_
    refine r_top (y := nI (cap (c 7 2 + priN (c 0 s)) 9999)) h (by rw [nI_add]; exact nI_cap (by omega) (by decide)) ?_
    refine r_putI (pc := 54) h dX0_liveDay_54 fw_X0_40 sh_9 rfl rfl rfl ?_
    obtain ⟨hR, hF⟩ := Rx9.wr hF (hR.u_pd _) (by decide)
    generalize gup g2 9 _ _ = g2 at hR hF ⊢
    refine r_aload_n (pc := 57) h dX0_liveDay_57 rfl ?_
    refine r_iload_n (pc := 58) h dX0_liveDay_58 rfl ?_
    refine r_callVi (pc := 59) (As := [_]) h dX0_liveDay_59 k_X0_96 gc_9 rfl ⟨Nat.le_of_ble_eq_true rfl, Nat.le_of_ble_eq_true rfl, Nat.le_of_ble_eq_true rfl⟩ (c_X0_can_9 hR (gok_72 ho (cap_le _ _)) hi) (fun x_59 g1 hq => ?_)
    obtain ⟨rfl, hg1⟩ := hq
    rw [hg1]
    refine r_if_eq (pc := 62) (tgt := 96) h dX0_liveDay_62 (by decide) (fun c62 => ?_) (fun c62 => ?_)
    · have hc : canB c i (covOf c i) = false := (bI_0 (canB c i (covOf c i))).mp c62
      rw [ec] at hc
      refine r_aload_n (pc := 96) h dX0_liveDay_96 rfl ?_
      refine r_getR (pc := 97) h dX0_liveDay_97 f_X0_21 sh_9 rfl ?_
      refine r_iload_n (pc := 100) h dX0_liveDay_100 rfl ?_
      refine r_aload_n (pc := 101) h dX0_liveDay_101 rfl ?_
      refine r_getR (pc := 102) h dX0_liveDay_102 f_X0_21 sh_9 rfl ?_
      refine r_iload_n (pc := 105) h dX0_liveDay_105 rfl ?_
      refine r_ialoadE (pc := 106) h dX0_liveDay_106 sh_13 (hR.fe hi) ?_
      refine r_iconst (pc := 107) h dX0_liveDay_107 ci_1 ?_
      refine r_iadd (pc := 108) h dX0_liveDay_108 ?_
      refine r_bipush (pc := 109) h dX0_liveDay_109 cb_20 ?_
      refine r_mmin (pc := 111) h dX0_liveDay_111 k_X0_93 ⟨Nat.le_of_ble_eq_true rfl, Nat.le_of_ble_eq_true rfl⟩ ?_
      refine r_top (y := nI (cap (c 3 i + 1) 20)) h (by rw [nI_add]; exact nI_cap (a := c 3 i + 1) (b := 20) (by omega) (by decide)) ?_
      refine r_iastore (pc := 114) h dX0_liveDay_114 sh_13 (hR.ci hi) ?_
      obtain ⟨hR, hF⟩ := Rx9.wr hF (hR.u_fe hi _) (by decide)
      generalize gup g2 13 _ _ = g2 at hR hF ⊢
      refine r_aload_n (pc := 115) h dX0_liveDay_115 rfl ?_
      refine r_getR (pc := 116) h dX0_liveDay_116 f_X0_24 sh_9 rfl ?_
      refine r_iload_n (pc := 119) h dX0_liveDay_119 rfl ?_
      refine r_aload_n (pc := 120) h dX0_liveDay_120 rfl ?_
      refine r_getR (pc := 121) h dX0_liveDay_121 f_X0_24 sh_9 rfl ?_
      refine r_iload_n (pc := 124) h dX0_liveDay_124 rfl ?_
      refine r_ialoadE (pc := 125) h dX0_liveDay_125 sh_14 (hR.so hi) ?_
      refine r_aload_n (pc := 126) h dX0_liveDay_126 rfl ?_
      refine r_iload_n (pc := 127) h dX0_liveDay_127 rfl ?_
      refine r_aload_n (pc := 128) h dX0_liveDay_128 rfl ?_
      refine r_getE (pc := 129) h dX0_liveDay_129 f_X0_43 sh_9 rfl (hR.dy) ?_
      refine r_callVi (pc := 132) (As := [_, _]) h dX0_liveDay_132 k_X0_100 gc_9 rfl ⟨Nat.le_of_ble_eq_true rfl, Nat.le_of_ble_eq_true rfl, Nat.le_of_ble_eq_true rfl⟩ (c_X0_chafe_9 hR (by first | exact gok_3 (gok_5 (gok_72 ho (cap_le _ _)) h56) (by omega) | exact gok_3 (gok_72 ho (cap_le _ _)) (cap_le _ _)) hs (Nat.lt_of_le_of_lt hdy (by decide))) (fun x_132 g1 hq => ?_)
      obtain ⟨rfl, hg1⟩ := hq
      rw [hg1]
      refine r_iadd (pc := 135) h dX0_liveDay_135 ?_
      refine r_bipush (pc := 136) h dX0_liveDay_136 cb_20 ?_
      refine r_mmin (pc := 138) h dX0_liveDay_138 k_X0_93 ⟨Nat.le_of_ble_eq_true rfl, Nat.le_of_ble_eq_true rfl⟩ ?_
      have hS20 : liveS c i ≤ 20 := cap_le _ _
      refine r_top (y := nI (liveS c i)) h (by unfold liveS; rw [es, nI_add]; exact nI_cap (a := c 4 i + chaN (c 0 s) (c 2 s) (c 7 3)) (b := 20) (by omega) (by decide)) ?_
      refine r_iastore (pc := 141) h dX0_liveDay_141 sh_14 (hR.ci hi) ?_
      obtain ⟨hR, hF⟩ := Rx9.wr hF (hR.u_so hi _) (by decide)
      generalize gup g2 14 _ _ = g2 at hR hF ⊢
      refine r_aload_n (pc := 142) h dX0_liveDay_142 rfl ?_
      refine r_getR (pc := 143) h dX0_liveDay_143 f_X0_24 sh_9 rfl ?_
      refine r_iload_n (pc := 146) h dX0_liveDay_146 rfl ?_
      refine r_ialoadE (pc := 147) h dX0_liveDay_147 sh_14 (hR.so hi) ?_
      refine r_top (y := nI (liveS c i)) h (by rw [cup_same]) ?_
      refine r_bipush (pc := 148) h dX0_liveDay_148 cb_15 ?_
      refine r_icmp_lt (pc := 150) (tgt := 161) h dX0_liveDay_150 (by decide) (fun c150 => ?_) (fun c150 => ?_)
      · have h15 : ¬ 15 ≤ liveS c i := Nat.not_le_of_lt ((nI_ltI (Nat.lt_of_le_of_lt hS20 (by decide)) (by decide)).mp c150)
        refine r_rv t (pc := 161) dX0_liveDay_161 ?_
        refine ⟨?_, hF⟩
        have h0 : ¬ c 6 i = 0 := by omega
        unfold live liveQ liveP
        rw [if_neg h0, es]
        first
          | (rw [if_pos h15, if_pos hc]; exact hR)
          | (rw [if_neg h15, if_pos hc]; exact hR)
          | (rw [if_pos h15, if_neg (by rw [hc]; decide)]; exact hR)
          | (rw [if_neg h15, if_neg (by rw [hc]; decide)]; exact hR)
      · have h15 : 15 ≤ liveS c i := Nat.le_of_not_lt fun q => c150 (nI_lt q (by decide))
        refine r_aload_n (pc := 153) h dX0_liveDay_153 rfl ?_
        refine r_getR (pc := 154) h dX0_liveDay_154 f_X0_30 sh_9 rfl ?_
        refine r_iload_n (pc := 157) h dX0_liveDay_157 rfl ?_
        refine r_bipush (pc := 158) h dX0_liveDay_158 cb_m9 ?_
        refine r_top (y := wz 0) h rfl ?_
        refine r_iastore (pc := 160) h dX0_liveDay_160 sh_16 (hR.ci hi) ?_
        obtain ⟨hR, hF⟩ := Rx9.wr hF (hR.u_wo hi 0) (by decide)
        generalize gup g2 16 _ _ = g2 at hR hF ⊢
        refine r_rv t (pc := 161) dX0_liveDay_161 ?_
        refine ⟨?_, hF⟩
        have h0 : ¬ c 6 i = 0 := by omega
        unfold live liveQ liveP
        rw [if_neg h0, es]
        first
          | (rw [if_pos h15, if_pos hc]; exact hR)
          | (rw [if_neg h15, if_pos hc]; exact hR)
          | (rw [if_pos h15, if_neg (by rw [hc]; decide)]; exact hR)
          | (rw [if_neg h15, if_neg (by rw [hc]; decide)]; exact hR)
    · have hc : canB c i (covOf c i) = true := by simpa using mt (bI_0 (canB c i (covOf c i))).mpr c62
      rw [ec] at hc
      have h56 : c 5 i + 1 ≤ 6 := canB_6 hc
      refine r_aload_n (pc := 65) h dX0_liveDay_65 rfl ?_
      refine r_getR (pc := 66) h dX0_liveDay_66 f_X0_27 sh_9 rfl ?_
      refine r_iload_n (pc := 69) h dX0_liveDay_69 rfl ?_
      refine r_dup2 (pc := 70) h dX0_liveDay_70 rfl rfl ?_
      refine r_ialoadE (pc := 71) h dX0_liveDay_71 sh_15 (hR.sa hi) ?_
      refine r_iconst (pc := 72) h dX0_liveDay_72 ci_1 ?_
      refine r_iadd (pc := 73) h dX0_liveDay_73 ?_
      refine r_top (y := nI (c 5 i + 1)) h (nI_add _ _) ?_
      refine r_iastore (pc := 74) h dX0_liveDay_74 sh_15 (hR.ci hi) ?_
      obtain ⟨hR, hF⟩ := Rx9.wr hF (hR.u_sa hi _) (by decide)
      generalize gup g2 15 _ _ = g2 at hR hF ⊢
      refine r_aload_n (pc := 75) h dX0_liveDay_75 rfl ?_
      refine r_getR (pc := 76) h dX0_liveDay_76 f_X0_21 sh_9 rfl ?_
      refine r_iload_n (pc := 79) h dX0_liveDay_79 rfl ?_
      refine r_aload_n (pc := 80) h dX0_liveDay_80 rfl ?_
      refine r_getR (pc := 81) h dX0_liveDay_81 f_X0_21 sh_9 rfl ?_
      refine r_iload_n (pc := 84) h dX0_liveDay_84 rfl ?_
      refine r_ialoadE (pc := 85) h dX0_liveDay_85 sh_13 (hR.fe hi) ?_
      refine r_iconst (pc := 86) h dX0_liveDay_86 ci_1 ?_
      refine r_isub (pc := 87) h dX0_liveDay_87 ?_
      refine r_iconst (pc := 88) h dX0_liveDay_88 ci_0 ?_
      refine r_mmax (pc := 89) h dX0_liveDay_89 k_X0_78 ⟨Nat.le_of_ble_eq_true rfl, Nat.le_of_ble_eq_true rfl⟩ ?_
      refine r_top (y := nI (c 3 i - 1)) h (nI_low (a := c 3 i) (b := 1) (by omega) (by decide)) ?_
      refine r_iastore (pc := 92) h dX0_liveDay_92 sh_13 (hR.ci hi) ?_
      obtain ⟨hR, hF⟩ := Rx9.wr hF (hR.u_fe hi _) (by decide)
      generalize gup g2 13 _ _ = g2 at hR hF ⊢
      refine r_goto (pc := 93) (tgt := 115) h dX0_liveDay_93 (by decide) ?_
      refine r_aload_n (pc := 115) h dX0_liveDay_115 rfl ?_
      refine r_getR (pc := 116) h dX0_liveDay_116 f_X0_24 sh_9 rfl ?_
      refine r_iload_n (pc := 119) h dX0_liveDay_119 rfl ?_
      refine r_aload_n (pc := 120) h dX0_liveDay_120 rfl ?_
      refine r_getR (pc := 121) h dX0_liveDay_121 f_X0_24 sh_9 rfl ?_
      refine r_iload_n (pc := 124) h dX0_liveDay_124 rfl ?_
      refine r_ialoadE (pc := 125) h dX0_liveDay_125 sh_14 (hR.so hi) ?_
      refine r_aload_n (pc := 126) h dX0_liveDay_126 rfl ?_
      refine r_iload_n (pc := 127) h dX0_liveDay_127 rfl ?_
      refine r_aload_n (pc := 128) h dX0_liveDay_128 rfl ?_
      refine r_getE (pc := 129) h dX0_liveDay_129 f_X0_43 sh_9 rfl (hR.dy) ?_
      refine r_callVi (pc := 132) (As := [_, _]) h dX0_liveDay_132 k_X0_100 gc_9 rfl ⟨Nat.le_of_ble_eq_true rfl, Nat.le_of_ble_eq_true rfl, Nat.le_of_ble_eq_true rfl⟩ (c_X0_chafe_9 hR (by first | exact gok_3 (gok_5 (gok_72 ho (cap_le _ _)) h56) (by omega) | exact gok_3 (gok_72 ho (cap_le _ _)) (cap_le _ _)) hs (Nat.lt_of_le_of_lt hdy (by decide))) (fun x_132 g1 hq => ?_)
      obtain ⟨rfl, hg1⟩ := hq
      rw [hg1]
      refine r_iadd (pc := 135) h dX0_liveDay_135 ?_
      refine r_bipush (pc := 136) h dX0_liveDay_136 cb_20 ?_
      refine r_mmin (pc := 138) h dX0_liveDay_138 k_X0_93 ⟨Nat.le_of_ble_eq_true rfl, Nat.le_of_ble_eq_true rfl⟩ ?_
      have hS20 : liveS c i ≤ 20 := cap_le _ _
      refine r_top (y := nI (liveS c i)) h (by unfold liveS; rw [es, nI_add]; exact nI_cap (a := c 4 i + chaN (c 0 s) (c 2 s) (c 7 3)) (b := 20) (by omega) (by decide)) ?_
      refine r_iastore (pc := 141) h dX0_liveDay_141 sh_14 (hR.ci hi) ?_
      obtain ⟨hR, hF⟩ := Rx9.wr hF (hR.u_so hi _) (by decide)
      generalize gup g2 14 _ _ = g2 at hR hF ⊢
      refine r_aload_n (pc := 142) h dX0_liveDay_142 rfl ?_
      refine r_getR (pc := 143) h dX0_liveDay_143 f_X0_24 sh_9 rfl ?_
      refine r_iload_n (pc := 146) h dX0_liveDay_146 rfl ?_
      refine r_ialoadE (pc := 147) h dX0_liveDay_147 sh_14 (hR.so hi) ?_
      refine r_top (y := nI (liveS c i)) h (by rw [cup_same]) ?_
      refine r_bipush (pc := 148) h dX0_liveDay_148 cb_15 ?_
      refine r_icmp_lt (pc := 150) (tgt := 161) h dX0_liveDay_150 (by decide) (fun c150 => ?_) (fun c150 => ?_)
      · have h15 : ¬ 15 ≤ liveS c i := Nat.not_le_of_lt ((nI_ltI (Nat.lt_of_le_of_lt hS20 (by decide)) (by decide)).mp c150)
        refine r_rv t (pc := 161) dX0_liveDay_161 ?_
        refine ⟨?_, hF⟩
        have h0 : ¬ c 6 i = 0 := by omega
        unfold live liveQ liveP
        rw [if_neg h0, es]
        first
          | (rw [if_pos h15, if_pos hc]; exact hR)
          | (rw [if_neg h15, if_pos hc]; exact hR)
          | (rw [if_pos h15, if_neg (by rw [hc]; decide)]; exact hR)
          | (rw [if_neg h15, if_neg (by rw [hc]; decide)]; exact hR)
      · have h15 : 15 ≤ liveS c i := Nat.le_of_not_lt fun q => c150 (nI_lt q (by decide))
        refine r_aload_n (pc := 153) h dX0_liveDay_153 rfl ?_
        refine r_getR (pc := 154) h dX0_liveDay_154 f_X0_30 sh_9 rfl ?_
        refine r_iload_n (pc := 157) h dX0_liveDay_157 rfl ?_
        refine r_bipush (pc := 158) h dX0_liveDay_158 cb_m9 ?_
        refine r_top (y := wz 0) h rfl ?_
        refine r_iastore (pc := 160) h dX0_liveDay_160 sh_16 (hR.ci hi) ?_
        obtain ⟨hR, hF⟩ := Rx9.wr hF (hR.u_wo hi 0) (by decide)
        generalize gup g2 16 _ _ = g2 at hR hF ⊢
        refine r_rv t (pc := 161) dX0_liveDay_161 ?_
        refine ⟨?_, hF⟩
        have h0 : ¬ c 6 i = 0 := by omega
        unfold live liveQ liveP
        rw [if_neg h0, es]
        first
          | (rw [if_pos h15, if_pos hc]; exact hR)
          | (rw [if_neg h15, if_pos hc]; exact hR)
          | (rw [if_pos h15, if_neg (by rw [hc]; decide)]; exact hR)
          | (rw [if_neg h15, if_neg (by rw [hc]; decide)]; exact hR)
  · have e6 : c 6 i = 0 := (wz_none (by omega)).mp c10
    refine r_aload_n (pc := 13) h dX0_liveDay_13 rfl ?_
    refine r_getR (pc := 14) h dX0_liveDay_14 f_X0_24 sh_9 rfl ?_
    refine r_iload_n (pc := 17) h dX0_liveDay_17 rfl ?_
    refine r_aload_n (pc := 18) h dX0_liveDay_18 rfl ?_
    refine r_getR (pc := 19) h dX0_liveDay_19 f_X0_24 sh_9 rfl ?_
    refine r_iload_n (pc := 22) h dX0_liveDay_22 rfl ?_
    refine r_ialoadE (pc := 23) h dX0_liveDay_23 sh_14 (hR.so hi) ?_
    refine r_iconst (pc := 24) h dX0_liveDay_24 ci_1 ?_
    refine r_isub (pc := 25) h dX0_liveDay_25 ?_
    refine r_iconst (pc := 26) h dX0_liveDay_26 ci_0 ?_
    refine r_mmax (pc := 27) h dX0_liveDay_27 k_X0_78 ⟨Nat.le_of_ble_eq_true rfl, Nat.le_of_ble_eq_true rfl⟩ ?_
    refine r_top (y := nI (c 4 i - 1)) h (nI_low (by omega) (by decide)) ?_
    refine r_iastore (pc := 30) h dX0_liveDay_30 sh_14 (hR.ci hi) ?_
    obtain ⟨hR, hF⟩ := Rx9.wr hF (hR.u_so hi _) (by decide)
    generalize gup g2 14 _ _ = g2 at hR hF ⊢
    refine r_rv t (pc := 31) dX0_liveDay_31 ?_
    exact ⟨by rw [live, if_pos e6]; exact hR, hF⟩
set_option maxRecDepth 100000 in
set_option maxHeartbeats 4000000 in
theorem c_X0_rustUnworn_9 {g : gG} {c : gCt} (hR : Rx9 g c) (ho : gok c) : gCv mX0_rustUnworn [.ref 9] g (fun g1 => Rx9 g1 (rstU c) ∧ frm 9 17 g g1) := by
  refine gCv_of (own := RX0) (ls0 := [.ref 9, .null]) ⟨rfl, pl_X0⟩ rfl (Nat.le_of_ble_eq_true rfl) (fun G (h : gR RX0 cX0_rustUnworn 1 40 G) (t : gTv cX0_rustUnworn _ G) => ?_)
  have loop : ∀ n i (d : gCt) (g2 : gG), i + n = d 7 0 → Rx9 g2 d → gok d → frm 9 17 g g2 → gfold rstF n i d = rstU c → G 2 [.ref 9, .int (nI i)] [] g2 := by
    intro n
    induction n with
    | zero =>
      intro i d g2 hi hR ho hF hw
      have hn6 := hR.n6
      refine r_iload_n (pc := 2) h dX0_rustUnworn_2 rfl ?_
      refine r_aload_n (pc := 3) h dX0_rustUnworn_3 rfl ?_
      refine r_getE (pc := 4) h dX0_rustUnworn_4 f_X0_33 sh_9 rfl (hR.ns) ?_
      refine r_icmp_ge (pc := 7) (tgt := 45) h dX0_rustUnworn_7 (by decide) (fun c7 => ?_) (fun c7 => absurd (nI_le (by omega) (by omega)) c7)
      refine r_rv t (pc := 45) dX0_rustUnworn_45 ?_
      exact ⟨by rw [← hw]; exact hR, hF⟩
    | succ n ih =>
      intro i d g2 hin hR ho hF hw
      have hn6 := hR.n6
      have hn5 := hR.n5
      have hi : i < d 7 0 := by omega
      have hk := ho.2.2.1 i hi
      have h7 := rstF_7 d i
      refine r_iload_n (pc := 2) h dX0_rustUnworn_2 rfl ?_
      refine r_aload_n (pc := 3) h dX0_rustUnworn_3 rfl ?_
      refine r_getE (pc := 4) h dX0_rustUnworn_4 f_X0_33 sh_9 rfl (hR.ns) ?_
      refine r_icmp_ge (pc := 7) (tgt := 45) h dX0_rustUnworn_7 (by decide) (fun c7 => absurd c7 (nI_ge hi (by omega))) (fun c7 => ?_)
      refine r_aload_n (pc := 10) h dX0_rustUnworn_10 rfl ?_
      refine r_iload_n (pc := 11) h dX0_rustUnworn_11 rfl ?_
      refine r_callVi (pc := 12) (As := [_]) h dX0_rustUnworn_12 k_X0_52 gc_9 rfl ⟨Nat.le_of_ble_eq_true rfl, Nat.le_of_ble_eq_true rfl, Nat.le_of_ble_eq_true rfl⟩ (c_X0_wearer_9 hR ho (by omega)) (fun x_12 g1 hq => ?_)
      obtain ⟨rfl, hg1⟩ := hq
      rw [hg1]
      refine r_bipush (pc := 15) h dX0_rustUnworn_15 cb_m9 ?_
      refine r_icmp_ne (pc := 17) (tgt := 39) h dX0_rustUnworn_17 (by decide) (fun c17 => ?_) (fun c17 => ?_)
      · have e : rstF i d = d := by unfold rstF; exact if_neg (fun q => c17 ((wr_9 hn5).mpr q))
        refine r_iinc (pc := 39) (ls2 := [_, _]) h dX0_rustUnworn_39 rfl (ic1 _) rfl ?_
        refine r_goto (pc := 42) (tgt := 2) h dX0_rustUnworn_42 (by decide) ?_
        exact ih (i + 1) (rstF i d) _ (by rw [h7.1]; omega) (by rw [e]; exact hR) (rstF_gok ho i) hF hw
      · have e : rstF i d = cup d 2 i (cap (d 2 i + 1) 9) := by unfold rstF; exact if_pos ((wr_9 hn5).mp c17)
        refine r_aload_n (pc := 20) h dX0_rustUnworn_20 rfl ?_
        refine r_getR (pc := 21) h dX0_rustUnworn_21 f_X0_18 sh_9 rfl ?_
        refine r_iload_n (pc := 24) h dX0_rustUnworn_24 rfl ?_
        refine r_aload_n (pc := 25) h dX0_rustUnworn_25 rfl ?_
        refine r_getR (pc := 26) h dX0_rustUnworn_26 f_X0_18 sh_9 rfl ?_
        refine r_iload_n (pc := 29) h dX0_rustUnworn_29 rfl ?_
        refine r_ialoadE (pc := 30) h dX0_rustUnworn_30 sh_12 (hR.ru hi) ?_
        refine r_iconst (pc := 31) h dX0_rustUnworn_31 ci_1 ?_
        refine r_iadd (pc := 32) h dX0_rustUnworn_32 ?_
        refine r_bipush (pc := 33) h dX0_rustUnworn_33 cb_9 ?_
        refine r_mmin (pc := 35) h dX0_rustUnworn_35 k_X0_93 ⟨Nat.le_of_ble_eq_true rfl, Nat.le_of_ble_eq_true rfl⟩ ?_
        refine r_top (y := nI (cap (d 2 i + 1) 9)) h (by rw [nI_add]; exact nI_cap (by omega) (by decide)) ?_
        refine r_iastore (pc := 38) h dX0_rustUnworn_38 sh_12 (hR.si hi) ?_
        obtain ⟨hR, hF⟩ := Rx9.wr hF (hR.u_ru hi _) (by decide)
        generalize gup g2 12 _ _ = g2 at hR hF ⊢
        refine r_iinc (pc := 39) (ls2 := [_, _]) h dX0_rustUnworn_39 rfl (ic1 _) rfl ?_
        refine r_goto (pc := 42) (tgt := 2) h dX0_rustUnworn_42 (by decide) ?_
        exact ih (i + 1) (rstF i d) _ (by rw [h7.1]; omega) (by rw [e]; exact hR) (rstF_gok ho i) hF hw
  refine r_iconst (pc := 0) h dX0_rustUnworn_0 ci_0 ?_
  refine r_istore_n (pc := 1) (ls2 := [_, _]) h dX0_rustUnworn_1 (Nat.le_of_ble_eq_true rfl) rfl ?_
  exact loop (c 7 0) 0 c g (by omega) hR ho frm.rf rfl
set_option maxRecDepth 100000 in
set_option maxHeartbeats 4000000 in
theorem c_X0_passDays_9 {g : gG} {c : gCt} (hR : Rx9 g c) (ho : gok c) {n : Nat} (hd : c 7 3 + n ≤ 2000) : gCv mX0_passDays [.ref 9, .int (nI n)] g (fun g1 => Rx9 g1 (daysC n c) ∧ frm 9 17 g g1) := by
  refine gCv_of (own := RX0) (ls0 := [.ref 9, .int (nI n), .null, .null]) ⟨rfl, pl_X0⟩ rfl (Nat.le_of_ble_eq_true rfl) (fun G (h : gR RX0 cX0_passDays 4 160 G) (t : gTv cX0_passDays _ G) => ?_)
  have loop : ∀ m k (v : Value) (d : gCt) (g2 : gG), k + m = n → Rx9 g2 d → gok d → d 7 3 + m ≤ 2000 → frm 9 17 g g2 → gfold (fun _ c => dayC c) m k d = daysC n c → G 2 [.ref 9, .int (nI n), .int (nI k), v] [] g2 := by
    intro m
    induction m with
    | zero =>
      intro k v d g2 hk hR ho hd2 hF hw
      refine r_iload_n (pc := 2) h dX0_passDays_2 rfl ?_
      refine r_iload_n (pc := 3) h dX0_passDays_3 rfl ?_
      refine r_icmp_ge (pc := 4) (tgt := 57) h dX0_passDays_4 (by decide) (fun c4 => ?_) (fun c4 => absurd (nI_le (by omega) (by omega)) c4)
      refine r_rv t (pc := 57) dX0_passDays_57 ?_
      exact ⟨by rw [← hw]; exact hR, hF⟩
    | succ m ih =>
      intro k v d g2 hk hR ho hd2 hF hw
      have hd7 := dayC_ok ho (by omega)
      have hn5 := hR.n5
      have inner : ∀ q i (b : gCt) (g2 : gG), i + q = b 7 1 → Rx9 g2 b → gok b → frm 9 17 g g2 → gfold (fun i c => live c i) q i b = gfold (fun i c => live c i) (d 7 1) 0 (cup d 7 3 (d 7 3 + 1)) → G 19 [.ref 9, .int (nI n), .int (nI k), .int (nI i)] [] g2 := by
        intro q
        induction q with
        | zero =>
          intro i b g2 hi hR ho2 hF hw2
          have hn5 := hR.n5
          have hb : b = gfold (fun i c => live c i) (d 7 1) 0 (cup d 7 3 (d 7 3 + 1)) := hw2
          have hdy := ho2.2.1
          refine r_iload_n (pc := 19) h dX0_passDays_19 rfl ?_
          refine r_aload_n (pc := 20) h dX0_passDays_20 rfl ?_
          refine r_getE (pc := 21) h dX0_passDays_21 f_X0_37 sh_9 rfl (hR.nc) ?_
          refine r_icmp_ge (pc := 24) (tgt := 38) h dX0_passDays_24 (by decide) (fun c24 => ?_) (fun c24 => absurd (nI_le (by omega) (by omega)) c24)
          refine r_aload_n (pc := 38) h dX0_passDays_38 rfl ?_
          refine r_getE (pc := 39) h dX0_passDays_39 f_X0_43 sh_9 rfl (hR.dy) ?_
          refine r_iconst (pc := 42) h dX0_passDays_42 ci_5 ?_
          refine r_irem (pc := 43) h dX0_passDays_43 (by decide) ?_
          refine r_top (y := nI (b 7 3 % 5)) h (pk_rem (by omega) (by decide) (by decide)) ?_
          refine r_if_ne (pc := 44) (tgt := 51) h dX0_passDays_44 (by decide) (fun c44 => ?_) (fun c44 => ?_)
          · have h5 : ¬ b 7 3 % 5 = 0 := fun q => c44 (by rw [q]; rfl)
            have e : dayC d = b := by unfold dayC; dsimp only; rw [← hb, if_neg h5]
            refine r_iinc (pc := 51) (ls2 := [_, _, _, _]) h dX0_passDays_51 rfl (ic1 _) rfl ?_
            refine r_goto (pc := 54) (tgt := 2) h dX0_passDays_54 (by decide) ?_
            exact ih (k + 1) _ (dayC d) _ (by omega) (by rw [e]; exact hR) hd7.2.2.2 (by omega) hF hw
          · have h5 : b 7 3 % 5 = 0 := (nI_eq0 (by omega)).mp c44
            have e : dayC d = rstU b := by unfold dayC; dsimp only; rw [← hb, if_pos h5]
            refine r_aload_n (pc := 47) h dX0_passDays_47 rfl ?_
            refine r_callVv (pc := 48) (As := []) h dX0_passDays_48 k_X0_87 gc_9 rfl ⟨Nat.le_of_ble_eq_true rfl, Nat.le_of_ble_eq_true rfl, Nat.le_of_ble_eq_true rfl⟩ (c_X0_rustUnworn_9 hR ho2) (fun g1 hq => ?_)
            obtain ⟨hR, hF1⟩ := hq
            have hF := hF.tr hF1
            refine r_iinc (pc := 51) (ls2 := [_, _, _, _]) h dX0_passDays_51 rfl (ic1 _) rfl ?_
            refine r_goto (pc := 54) (tgt := 2) h dX0_passDays_54 (by decide) ?_
            exact ih (k + 1) _ (dayC d) _ (by omega) (by rw [e]; exact hR) hd7.2.2.2 (by omega) hF hw
        | succ q ih2 =>
          intro i b g2 hin hR ho2 hF hw2
          have hn5 := hR.n5
          have hi : i < b 7 1 := by omega
          refine r_iload_n (pc := 19) h dX0_passDays_19 rfl ?_
          refine r_aload_n (pc := 20) h dX0_passDays_20 rfl ?_
          refine r_getE (pc := 21) h dX0_passDays_21 f_X0_37 sh_9 rfl (hR.nc) ?_
          refine r_icmp_ge (pc := 24) (tgt := 38) h dX0_passDays_24 (by decide) (fun c24 => absurd c24 (nI_ge hi (by omega))) (fun c24 => ?_)
          refine r_aload_n (pc := 27) h dX0_passDays_27 rfl ?_
          refine r_iload_n (pc := 28) h dX0_passDays_28 rfl ?_
          refine r_callVv (pc := 29) (As := [_]) h dX0_passDays_29 k_X0_83 gc_9 rfl ⟨Nat.le_of_ble_eq_true rfl, Nat.le_of_ble_eq_true rfl, Nat.le_of_ble_eq_true rfl⟩ (c_X0_liveDay_9 hR ho2 hi) (fun g1 hq => ?_)
          obtain ⟨hR, hF1⟩ := hq
          have hF := hF.tr hF1
          refine r_iinc (pc := 32) (ls2 := [_, _, _, _]) h dX0_passDays_32 rfl (ic1 _) rfl ?_
          refine r_goto (pc := 35) (tgt := 19) h dX0_passDays_35 (by decide) ?_
          exact ih2 (i + 1) (live b i) _ (by rw [(live_7 b i).2.1]; omega) hR (live_gok ho2 hi) hF hw2
      refine r_iload_n (pc := 2) h dX0_passDays_2 rfl ?_
      refine r_iload_n (pc := 3) h dX0_passDays_3 rfl ?_
      refine r_icmp_ge (pc := 4) (tgt := 57) h dX0_passDays_4 (by decide) (fun c4 => absurd c4 (nI_ge (show k < n by omega) (by omega))) (fun c4 => ?_)
      refine r_aload_n (pc := 7) h dX0_passDays_7 rfl ?_
      refine r_dup (pc := 8) h dX0_passDays_8 rfl ?_
      refine r_getE (pc := 9) h dX0_passDays_9 f_X0_43 sh_9 rfl (hR.dy) ?_
      refine r_iconst (pc := 12) h dX0_passDays_12 ci_1 ?_
      refine r_iadd (pc := 13) h dX0_passDays_13 ?_
      refine r_top (y := nI (d 7 3 + 1)) h (nI_add _ _) ?_
      refine r_putI (pc := 14) h dX0_passDays_14 fw_X0_43 sh_9 rfl rfl rfl ?_
      obtain ⟨hR, hF⟩ := Rx9.wr hF (hR.u_dy _) (by decide)
      generalize gup g2 9 _ _ = g2 at hR hF ⊢
      refine r_iconst (pc := 17) h dX0_passDays_17 ci_0 ?_
      refine r_istore_n (pc := 18) (ls2 := [_, _, _, _]) h dX0_passDays_18 (Nat.le_of_ble_eq_true rfl) rfl ?_
      exact inner (d 7 1) 0 _ _ (by simp [cup]) hR (gok_73 ho (by omega)) hF rfl
  refine r_iconst (pc := 0) h dX0_passDays_0 ci_0 ?_
  refine r_istore_n (pc := 1) (ls2 := [_, _, _, _]) h dX0_passDays_1 (Nat.le_of_ble_eq_true rfl) rfl ?_
  exact loop n 0 _ c g (by omega) hR ho hd frm.rf rfl
set_option maxRecDepth 100000 in
set_option maxHeartbeats 4000000 in
theorem c_X0_passDayOf_9 {g : gG} {c : gCt} (hR : Rx9 g c) (ho : gok c) {i : Nat} (hi : i < c 7 1) (hd : c 7 3 + 1 ≤ 2000) : gCv mX0_passDayOf [.ref 9, .int (nI i)] g (fun g1 => Rx9 g1 (live (cup c 7 3 (c 7 3 + 1)) i) ∧ frm 9 17 g g1) := by
  refine gCv_of (own := RX0) (ls0 := [.ref 9, .int (nI i)]) ⟨rfl, pl_X0⟩ rfl (Nat.le_of_ble_eq_true rfl) (fun G (h : gR RX0 cX0_passDayOf 4 160 G) (t : gTv cX0_passDayOf _ G) => ?_)
  suffices H : ∀ g2 : gG, Rx9 g2 c → frm 9 17 g g2 → G 0 [.ref 9, .int (nI i)] [] g2 from H g hR frm.rf
  intro g2 hR hF
  refine r_aload_n (pc := 0) h dX0_passDayOf_0 rfl ?_
  refine r_dup (pc := 1) h dX0_passDayOf_1 rfl ?_
  refine r_getE (pc := 2) h dX0_passDayOf_2 f_X0_43 sh_9 rfl (hR.dy) ?_
  refine r_iconst (pc := 5) h dX0_passDayOf_5 ci_1 ?_
  refine r_iadd (pc := 6) h dX0_passDayOf_6 ?_
  refine r_top (y := nI (c 7 3 + 1)) h (nI_add _ _) ?_
  refine r_putI (pc := 7) h dX0_passDayOf_7 fw_X0_43 sh_9 rfl rfl rfl ?_
  obtain ⟨hR, hF⟩ := Rx9.wr hF (hR.u_dy _) (by decide)
  generalize gup g2 9 _ _ = g2 at hR hF ⊢
  refine r_aload_n (pc := 10) h dX0_passDayOf_10 rfl ?_
  refine r_iload_n (pc := 11) h dX0_passDayOf_11 rfl ?_
  refine r_callVv (pc := 12) (As := [_]) h dX0_passDayOf_12 k_X0_83 gc_9 rfl ⟨Nat.le_of_ble_eq_true rfl, Nat.le_of_ble_eq_true rfl, Nat.le_of_ble_eq_true rfl⟩ (c_X0_liveDay_9 hR (gok_73 ho hd) hi) (fun g1 hq => ?_)
  obtain ⟨hR, hF1⟩ := hq
  have hF := hF.tr hF1
  refine r_rv t (pc := 15) dX0_passDayOf_15 ?_
  exact ⟨hR, hF⟩
end
