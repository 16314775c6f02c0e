-- ===== PART A: goes FIRST, ahead of the names: the tables' words, and 'selects' of the private methods out of them =====
/-- a private method of a class that the tables say can be made, by its rows of tables_1 -/
def lw_okq (q : MethodName × Nat) : Prop := (q.1.cls ≠ "java/lang/invoke/MethodHandle" ∧ q.1.cls ≠ "java/lang/invoke/VarHandle") ∧ Cond.instantiable q.1.cls q.2 ∈ tables_1 ∧ Cond.privateMethod q.1 ∈ tables_1 ∧ Cond.instanceMethod q.1 ∈ tables_1
theorem lw_p0 : lw_okq (⟨"LakeWind", "faulted", "(I)I"⟩, 12) := ⟨⟨by decide +kernel, by decide +kernel⟩, List.mem_of_getElem? (i := 18) (by decide +kernel), List.mem_of_getElem? (i := 320) (by decide +kernel), List.mem_of_getElem? (i := 321) (by decide +kernel)⟩
theorem lw_p1 : lw_okq (⟨"LakeWind$Text", "skip", "(I)Z"⟩, 4) := ⟨⟨by decide +kernel, by decide +kernel⟩, List.mem_of_getElem? (i := 28) (by decide +kernel), List.mem_of_getElem? (i := 336) (by decide +kernel), List.mem_of_getElem? (i := 337) (by decide +kernel)⟩
theorem lw_p2 : lw_okq (⟨"LakeWind$Text", "isNext", "(I)Z"⟩, 4) := ⟨⟨by decide +kernel, by decide +kernel⟩, List.mem_of_getElem? (i := 28) (by decide +kernel), List.mem_of_getElem? (i := 340) (by decide +kernel), List.mem_of_getElem? (i := 341) (by decide +kernel)⟩
theorem lw_p3 : lw_okq (⟨"LakeWind$Text", "digit", "(II)I"⟩, 4) := ⟨⟨by decide +kernel, by decide +kernel⟩, List.mem_of_getElem? (i := 28) (by decide +kernel), List.mem_of_getElem? (i := 344) (by decide +kernel), List.mem_of_getElem? (i := 345) (by decide +kernel)⟩
theorem lw_p4 : lw_okq (⟨"LakeWind$Text", "windSign", "()I"⟩, 4) := ⟨⟨by decide +kernel, by decide +kernel⟩, List.mem_of_getElem? (i := 28) (by decide +kernel), List.mem_of_getElem? (i := 352) (by decide +kernel), List.mem_of_getElem? (i := 353) (by decide +kernel)⟩
theorem lw_p5 : lw_okq (⟨"LakeWind$Text", "readBoat", "(LLakeWind$Lake;I)Z"⟩, 4) := ⟨⟨by decide +kernel, by decide +kernel⟩, List.mem_of_getElem? (i := 28) (by decide +kernel), List.mem_of_getElem? (i := 360) (by decide +kernel), List.mem_of_getElem? (i := 361) (by decide +kernel)⟩
theorem lw_p6 : lw_okq (⟨"LakeWind$Text", "kindLetter", "()I"⟩, 4) := ⟨⟨by decide +kernel, by decide +kernel⟩, List.mem_of_getElem? (i := 28) (by decide +kernel), List.mem_of_getElem? (i := 364) (by decide +kernel), List.mem_of_getElem? (i := 365) (by decide +kernel)⟩
theorem lw_p7 : lw_okq (⟨"LakeWind", "takeSpareWater", "()V"⟩, 12) := ⟨⟨by decide +kernel, by decide +kernel⟩, List.mem_of_getElem? (i := 18) (by decide +kernel), List.mem_of_getElem? (i := 393) (by decide +kernel), List.mem_of_getElem? (i := 394) (by decide +kernel)⟩
theorem lw_p8 : lw_okq (⟨"LakeWind", "isBoat", "(I)Z"⟩, 12) := ⟨⟨by decide +kernel, by decide +kernel⟩, List.mem_of_getElem? (i := 18) (by decide +kernel), List.mem_of_getElem? (i := 401) (by decide +kernel), List.mem_of_getElem? (i := 402) (by decide +kernel)⟩
theorem lw_p9 : lw_okq (⟨"LakeWind", "isHour", "(I)Z"⟩, 12) := ⟨⟨by decide +kernel, by decide +kernel⟩, List.mem_of_getElem? (i := 18) (by decide +kernel), List.mem_of_getElem? (i := 435) (by decide +kernel), List.mem_of_getElem? (i := 436) (by decide +kernel)⟩
theorem lw_p10 : lw_okq (⟨"LakeWind", "refusalOfRow", "(III)I"⟩, 12) := ⟨⟨by decide +kernel, by decide +kernel⟩, List.mem_of_getElem? (i := 18) (by decide +kernel), List.mem_of_getElem? (i := 451) (by decide +kernel), List.mem_of_getElem? (i := 452) (by decide +kernel)⟩
theorem lw_p11 : lw_okq (⟨"LakeWind", "takeOrders", "(IIII)I"⟩, 12) := ⟨⟨by decide +kernel, by decide +kernel⟩, List.mem_of_getElem? (i := 18) (by decide +kernel), List.mem_of_getElem? (i := 458) (by decide +kernel), List.mem_of_getElem? (i := 459) (by decide +kernel)⟩
theorem lw_p12 : lw_okq (⟨"LakeWind", "isSet", "(I)Z"⟩, 12) := ⟨⟨by decide +kernel, by decide +kernel⟩, List.mem_of_getElem? (i := 18) (by decide +kernel), List.mem_of_getElem? (i := 462) (by decide +kernel), List.mem_of_getElem? (i := 463) (by decide +kernel)⟩
theorem lw_p13 : lw_okq (⟨"LakeWind", "answerOfVoyage", "(I)I"⟩, 12) := ⟨⟨by decide +kernel, by decide +kernel⟩, List.mem_of_getElem? (i := 18) (by decide +kernel), List.mem_of_getElem? (i := 525) (by decide +kernel), List.mem_of_getElem? (i := 526) (by decide +kernel)⟩
theorem lw_p14 : lw_okq (⟨"LakeWind$Search", "prepare", "(LLakeWind$Lake;)V"⟩, 13) := ⟨⟨by decide +kernel, by decide +kernel⟩, List.mem_of_getElem? (i := 93) (by decide +kernel), List.mem_of_getElem? (i := 538) (by decide +kernel), List.mem_of_getElem? (i := 539) (by decide +kernel)⟩
theorem lw_p15 : lw_okq (⟨"LakeWind$Search", "fillAfter", "(LLakeWind$Lake;II)V"⟩, 13) := ⟨⟨by decide +kernel, by decide +kernel⟩, List.mem_of_getElem? (i := 93) (by decide +kernel), List.mem_of_getElem? (i := 556) (by decide +kernel), List.mem_of_getElem? (i := 557) (by decide +kernel)⟩
def lw_privs_1 : List (MethodName × Nat) := [(⟨"LakeWind", "faulted", "(I)I"⟩, 12), (⟨"LakeWind$Text", "skip", "(I)Z"⟩, 4), (⟨"LakeWind$Text", "isNext", "(I)Z"⟩, 4), (⟨"LakeWind$Text", "digit", "(II)I"⟩, 4), (⟨"LakeWind$Text", "windSign", "()I"⟩, 4), (⟨"LakeWind$Text", "readBoat", "(LLakeWind$Lake;I)Z"⟩, 4), (⟨"LakeWind$Text", "kindLetter", "()I"⟩, 4), (⟨"LakeWind", "takeSpareWater", "()V"⟩, 12), (⟨"LakeWind", "isBoat", "(I)Z"⟩, 12), (⟨"LakeWind", "isHour", "(I)Z"⟩, 12), (⟨"LakeWind", "refusalOfRow", "(III)I"⟩, 12), (⟨"LakeWind", "takeOrders", "(IIII)I"⟩, 12), (⟨"LakeWind", "isSet", "(I)Z"⟩, 12), (⟨"LakeWind", "answerOfVoyage", "(I)I"⟩, 12), (⟨"LakeWind$Search", "prepare", "(LLakeWind$Lake;)V"⟩, 13), (⟨"LakeWind$Search", "fillAfter", "(LLakeWind$Lake;II)V"⟩, 13)]
theorem lw_r1 : ∀ q ∈ lw_privs_1, lw_okq q := List.forall_mem_cons.mpr ⟨lw_p0, List.forall_mem_cons.mpr ⟨lw_p1, List.forall_mem_cons.mpr ⟨lw_p2, List.forall_mem_cons.mpr ⟨lw_p3, List.forall_mem_cons.mpr ⟨lw_p4, List.forall_mem_cons.mpr ⟨lw_p5, List.forall_mem_cons.mpr ⟨lw_p6, List.forall_mem_cons.mpr ⟨lw_p7, List.forall_mem_cons.mpr ⟨lw_p8, List.forall_mem_cons.mpr ⟨lw_p9, List.forall_mem_cons.mpr ⟨lw_p10, List.forall_mem_cons.mpr ⟨lw_p11, List.forall_mem_cons.mpr ⟨lw_p12, List.forall_mem_cons.mpr ⟨lw_p13, List.forall_mem_cons.mpr ⟨lw_p14, List.forall_mem_cons.mpr ⟨lw_p15, fun _ h => absurd h List.not_mem_nil⟩⟩⟩⟩⟩⟩⟩⟩⟩⟩⟩⟩⟩⟩⟩⟩
theorem lw_p16 : lw_okq (⟨"LakeWind$Search", "findEnds", "(LLakeWind$Lake;I)I"⟩, 13) := ⟨⟨by decide +kernel, by decide +kernel⟩, List.mem_of_getElem? (i := 93) (by decide +kernel), List.mem_of_getElem? (i := 560) (by decide +kernel), List.mem_of_getElem? (i := 561) (by decide +kernel)⟩
theorem lw_p17 : lw_okq (⟨"LakeWind$Search", "startNow", "()V"⟩, 13) := ⟨⟨by decide +kernel, by decide +kernel⟩, List.mem_of_getElem? (i := 93) (by decide +kernel), List.mem_of_getElem? (i := 578) (by decide +kernel), List.mem_of_getElem? (i := 579) (by decide +kernel)⟩
theorem lw_p18 : lw_okq (⟨"LakeWind$Search", "isOverInSome", "(LLakeWind$States;I)Z"⟩, 13) := ⟨⟨by decide +kernel, by decide +kernel⟩, List.mem_of_getElem? (i := 93) (by decide +kernel), List.mem_of_getElem? (i := 582) (by decide +kernel), List.mem_of_getElem? (i := 583) (by decide +kernel)⟩
theorem lw_p19 : lw_okq (⟨"LakeWind$Search", "advance", "(LLakeWind$States;I)V"⟩, 13) := ⟨⟨by decide +kernel, by decide +kernel⟩, List.mem_of_getElem? (i := 93) (by decide +kernel), List.mem_of_getElem? (i := 590) (by decide +kernel), List.mem_of_getElem? (i := 591) (by decide +kernel)⟩
theorem lw_p20 : lw_okq (⟨"LakeWind$Search", "addAfter", "(LLakeWind$States;ILLakeWind$States;)V"⟩, 13) := ⟨⟨by decide +kernel, by decide +kernel⟩, List.mem_of_getElem? (i := 93) (by decide +kernel), List.mem_of_getElem? (i := 594) (by decide +kernel), List.mem_of_getElem? (i := 595) (by decide +kernel)⟩
theorem lw_p21 : lw_okq (⟨"LakeWind$Search", "fillGood", "(LLakeWind$Lake;II)V"⟩, 13) := ⟨⟨by decide +kernel, by decide +kernel⟩, List.mem_of_getElem? (i := 93) (by decide +kernel), List.mem_of_getElem? (i := 615) (by decide +kernel), List.mem_of_getElem? (i := 616) (by decide +kernel)⟩
theorem lw_p22 : lw_okq (⟨"LakeWind$Search", "fillGoodAhead", "(LLakeWind$States;ILLakeWind$States;)V"⟩, 13) := ⟨⟨by decide +kernel, by decide +kernel⟩, List.mem_of_getElem? (i := 93) (by decide +kernel), List.mem_of_getElem? (i := 619) (by decide +kernel), List.mem_of_getElem? (i := 620) (by decide +kernel)⟩
theorem lw_p23 : lw_okq (⟨"LakeWind$Search", "leastHat", "(LLakeWind$Lake;I)I"⟩, 13) := ⟨⟨by decide +kernel, by decide +kernel⟩, List.mem_of_getElem? (i := 93) (by decide +kernel), List.mem_of_getElem? (i := 627) (by decide +kernel), List.mem_of_getElem? (i := 628) (by decide +kernel)⟩
theorem lw_p24 : lw_okq (⟨"LakeWind$Search", "throwHat", "(LLakeWind$States;ILLakeWind$States;)V"⟩, 13) := ⟨⟨by decide +kernel, by decide +kernel⟩, List.mem_of_getElem? (i := 93) (by decide +kernel), List.mem_of_getElem? (i := 631) (by decide +kernel), List.mem_of_getElem? (i := 632) (by decide +kernel)⟩
theorem lw_p25 : lw_okq (⟨"LakeWind$Search", "leastTwoHats", "(LLakeWind$Lake;I)I"⟩, 13) := ⟨⟨by decide +kernel, by decide +kernel⟩, List.mem_of_getElem? (i := 93) (by decide +kernel), List.mem_of_getElem? (i := 635) (by decide +kernel), List.mem_of_getElem? (i := 636) (by decide +kernel)⟩
theorem lw_p26 : lw_okq (⟨"LakeWind", "bitIfAsRead", "(II)I"⟩, 12) := ⟨⟨by decide +kernel, by decide +kernel⟩, List.mem_of_getElem? (i := 18) (by decide +kernel), List.mem_of_getElem? (i := 659) (by decide +kernel), List.mem_of_getElem? (i := 660) (by decide +kernel)⟩
theorem lw_p27 : lw_okq (⟨"LakeWind", "refusalOfBoatPlan", "(IIIII)I"⟩, 12) := ⟨⟨by decide +kernel, by decide +kernel⟩, List.mem_of_getElem? (i := 18) (by decide +kernel), List.mem_of_getElem? (i := 677) (by decide +kernel), List.mem_of_getElem? (i := 678) (by decide +kernel)⟩
theorem lw_p28 : lw_okq (⟨"LakeWind", "waysWithoutFine", "(I)I"⟩, 12) := ⟨⟨by decide +kernel, by decide +kernel⟩, List.mem_of_getElem? (i := 18) (by decide +kernel), List.mem_of_getElem? (i := 691) (by decide +kernel), List.mem_of_getElem? (i := 692) (by decide +kernel)⟩
theorem lw_p29 : lw_okq (⟨"LakeWind", "sailByChance", "(II)V"⟩, 12) := ⟨⟨by decide +kernel, by decide +kernel⟩, List.mem_of_getElem? (i := 18) (by decide +kernel), List.mem_of_getElem? (i := 700) (by decide +kernel), List.mem_of_getElem? (i := 701) (by decide +kernel)⟩
theorem lw_p30 : lw_okq (⟨"LakeWindModel", "against", "(IIII)I"⟩, 32) := ⟨⟨by decide +kernel, by decide +kernel⟩, List.mem_of_getElem? (i := 800) (by decide +kernel), List.mem_of_getElem? (i := 917) (by decide +kernel), List.mem_of_getElem? (i := 918) (by decide +kernel)⟩
theorem lw_p31 : lw_okq (⟨"LakeWindModel", "fails", "(I)I"⟩, 32) := ⟨⟨by decide +kernel, by decide +kernel⟩, List.mem_of_getElem? (i := 800) (by decide +kernel), List.mem_of_getElem? (i := 921) (by decide +kernel), List.mem_of_getElem? (i := 922) (by decide +kernel)⟩
def lw_privs_2 : List (MethodName × Nat) := [(⟨"LakeWind$Search", "findEnds", "(LLakeWind$Lake;I)I"⟩, 13), (⟨"LakeWind$Search", "startNow", "()V"⟩, 13), (⟨"LakeWind$Search", "isOverInSome", "(LLakeWind$States;I)Z"⟩, 13), (⟨"LakeWind$Search", "advance", "(LLakeWind$States;I)V"⟩, 13), (⟨"LakeWind$Search", "addAfter", "(LLakeWind$States;ILLakeWind$States;)V"⟩, 13), (⟨"LakeWind$Search", "fillGood", "(LLakeWind$Lake;II)V"⟩, 13), (⟨"LakeWind$Search", "fillGoodAhead", "(LLakeWind$States;ILLakeWind$States;)V"⟩, 13), (⟨"LakeWind$Search", "leastHat", "(LLakeWind$Lake;I)I"⟩, 13), (⟨"LakeWind$Search", "throwHat", "(LLakeWind$States;ILLakeWind$States;)V"⟩, 13), (⟨"LakeWind$Search", "leastTwoHats", "(LLakeWind$Lake;I)I"⟩, 13), (⟨"LakeWind", "bitIfAsRead", "(II)I"⟩, 12), (⟨"LakeWind", "refusalOfBoatPlan", "(IIIII)I"⟩, 12), (⟨"LakeWind", "waysWithoutFine", "(I)I"⟩, 12), (⟨"LakeWind", "sailByChance", "(II)V"⟩, 12), (⟨"LakeWindModel", "against", "(IIII)I"⟩, 32), (⟨"LakeWindModel", "fails", "(I)I"⟩, 32)]
theorem lw_r2 : ∀ q ∈ lw_privs_2, lw_okq q := List.forall_mem_cons.mpr ⟨lw_p16, List.forall_mem_cons.mpr ⟨lw_p17, List.forall_mem_cons.mpr ⟨lw_p18, List.forall_mem_cons.mpr ⟨lw_p19, List.forall_mem_cons.mpr ⟨lw_p20, List.forall_mem_cons.mpr ⟨lw_p21, List.forall_mem_cons.mpr ⟨lw_p22, List.forall_mem_cons.mpr ⟨lw_p23, List.forall_mem_cons.mpr ⟨lw_p24, List.forall_mem_cons.mpr ⟨lw_p25, List.forall_mem_cons.mpr ⟨lw_p26, List.forall_mem_cons.mpr ⟨lw_p27, List.forall_mem_cons.mpr ⟨lw_p28, List.forall_mem_cons.mpr ⟨lw_p29, List.forall_mem_cons.mpr ⟨lw_p30, List.forall_mem_cons.mpr ⟨lw_p31, fun _ h => absurd h List.not_mem_nil⟩⟩⟩⟩⟩⟩⟩⟩⟩⟩⟩⟩⟩⟩⟩⟩
theorem lw_p32 : lw_okq (⟨"LakeWindModel", "readLake", "(I)Z"⟩, 32) := ⟨⟨by decide +kernel, by decide +kernel⟩, List.mem_of_getElem? (i := 800) (by decide +kernel), List.mem_of_getElem? (i := 925) (by decide +kernel), List.mem_of_getElem? (i := 926) (by decide +kernel)⟩
theorem lw_p33 : lw_okq (⟨"LakeWindModel", "isSign", "(II)Z"⟩, 32) := ⟨⟨by decide +kernel, by decide +kernel⟩, List.mem_of_getElem? (i := 800) (by decide +kernel), List.mem_of_getElem? (i := 929) (by decide +kernel), List.mem_of_getElem? (i := 930) (by decide +kernel)⟩
theorem lw_p34 : lw_okq (⟨"LakeWindModel", "digit", "(III)I"⟩, 32) := ⟨⟨by decide +kernel, by decide +kernel⟩, List.mem_of_getElem? (i := 800) (by decide +kernel), List.mem_of_getElem? (i := 933) (by decide +kernel), List.mem_of_getElem? (i := 934) (by decide +kernel)⟩
theorem lw_p35 : lw_okq (⟨"LakeWindModel", "readBoat", "(I)Z"⟩, 32) := ⟨⟨by decide +kernel, by decide +kernel⟩, List.mem_of_getElem? (i := 800) (by decide +kernel), List.mem_of_getElem? (i := 940) (by decide +kernel), List.mem_of_getElem? (i := 941) (by decide +kernel)⟩
theorem lw_p36 : lw_okq (⟨"LakeWindModel", "takeLake", "()V"⟩, 32) := ⟨⟨by decide +kernel, by decide +kernel⟩, List.mem_of_getElem? (i := 800) (by decide +kernel), List.mem_of_getElem? (i := 944) (by decide +kernel), List.mem_of_getElem? (i := 945) (by decide +kernel)⟩
theorem lw_p37 : lw_okq (⟨"LakeWindModel", "isBoat", "(I)Z"⟩, 32) := ⟨⟨by decide +kernel, by decide +kernel⟩, List.mem_of_getElem? (i := 800) (by decide +kernel), List.mem_of_getElem? (i := 952) (by decide +kernel), List.mem_of_getElem? (i := 953) (by decide +kernel)⟩
theorem lw_p38 : lw_okq (⟨"LakeWindModel", "isHour", "(I)Z"⟩, 32) := ⟨⟨by decide +kernel, by decide +kernel⟩, List.mem_of_getElem? (i := 800) (by decide +kernel), List.mem_of_getElem? (i := 960) (by decide +kernel), List.mem_of_getElem? (i := 961) (by decide +kernel)⟩
theorem lw_p39 : lw_okq (⟨"LakeWindModel", "layPlan", "(IIII)I"⟩, 32) := ⟨⟨by decide +kernel, by decide +kernel⟩, List.mem_of_getElem? (i := 800) (by decide +kernel), List.mem_of_getElem? (i := 975) (by decide +kernel), List.mem_of_getElem? (i := 976) (by decide +kernel)⟩
theorem lw_p40 : lw_okq (⟨"LakeWindModel", "all", "()I"⟩, 32) := ⟨⟨by decide +kernel, by decide +kernel⟩, List.mem_of_getElem? (i := 800) (by decide +kernel), List.mem_of_getElem? (i := 979) (by decide +kernel), List.mem_of_getElem? (i := 980) (by decide +kernel)⟩
theorem lw_p41 : lw_okq (⟨"LakeWindModel", "goPlan", "()V"⟩, 32) := ⟨⟨by decide +kernel, by decide +kernel⟩, List.mem_of_getElem? (i := 800) (by decide +kernel), List.mem_of_getElem? (i := 983) (by decide +kernel), List.mem_of_getElem? (i := 984) (by decide +kernel)⟩
theorem lw_p42 : lw_okq (⟨"LakeWindModel", "begins", "(Z)I"⟩, 32) := ⟨⟨by decide +kernel, by decide +kernel⟩, List.mem_of_getElem? (i := 800) (by decide +kernel), List.mem_of_getElem? (i := 987) (by decide +kernel), List.mem_of_getElem? (i := 988) (by decide +kernel)⟩
theorem lw_p43 : lw_okq (⟨"LakeWindModel", "asNumber", "()I"⟩, 32) := ⟨⟨by decide +kernel, by decide +kernel⟩, List.mem_of_getElem? (i := 800) (by decide +kernel), List.mem_of_getElem? (i := 991) (by decide +kernel), List.mem_of_getElem? (i := 992) (by decide +kernel)⟩
theorem lw_p44 : lw_okq (⟨"LakeWindModel", "finedBy", "(II)I"⟩, 32) := ⟨⟨by decide +kernel, by decide +kernel⟩, List.mem_of_getElem? (i := 800) (by decide +kernel), List.mem_of_getElem? (i := 995) (by decide +kernel), List.mem_of_getElem? (i := 996) (by decide +kernel)⟩
theorem lw_p45 : lw_okq (⟨"LakeWindModel", "isOver", "(I)Z"⟩, 32) := ⟨⟨by decide +kernel, by decide +kernel⟩, List.mem_of_getElem? (i := 800) (by decide +kernel), List.mem_of_getElem? (i := 999) (by decide +kernel), List.mem_of_getElem? (i := 1000) (by decide +kernel)⟩
theorem lw_p46 : lw_okq (⟨"LakeWindModel", "isWith", "(II)Z"⟩, 32) := ⟨⟨by decide +kernel, by decide +kernel⟩, List.mem_of_getElem? (i := 800) (by decide +kernel), List.mem_of_getElem? (i := 1003) (by decide +kernel), List.mem_of_getElem? (i := 1004) (by decide +kernel)⟩
theorem lw_p47 : lw_okq (⟨"LakeWindModel", "goHour", "(II)V"⟩, 32) := ⟨⟨by decide +kernel, by decide +kernel⟩, List.mem_of_getElem? (i := 800) (by decide +kernel), List.mem_of_getElem? (i := 1007) (by decide +kernel), List.mem_of_getElem? (i := 1008) (by decide +kernel)⟩
def lw_privs_3 : List (MethodName × Nat) := [(⟨"LakeWindModel", "readLake", "(I)Z"⟩, 32), (⟨"LakeWindModel", "isSign", "(II)Z"⟩, 32), (⟨"LakeWindModel", "digit", "(III)I"⟩, 32), (⟨"LakeWindModel", "readBoat", "(I)Z"⟩, 32), (⟨"LakeWindModel", "takeLake", "()V"⟩, 32), (⟨"LakeWindModel", "isBoat", "(I)Z"⟩, 32), (⟨"LakeWindModel", "isHour", "(I)Z"⟩, 32), (⟨"LakeWindModel", "layPlan", "(IIII)I"⟩, 32), (⟨"LakeWindModel", "all", "()I"⟩, 32), (⟨"LakeWindModel", "goPlan", "()V"⟩, 32), (⟨"LakeWindModel", "begins", "(Z)I"⟩, 32), (⟨"LakeWindModel", "asNumber", "()I"⟩, 32), (⟨"LakeWindModel", "finedBy", "(II)I"⟩, 32), (⟨"LakeWindModel", "isOver", "(I)Z"⟩, 32), (⟨"LakeWindModel", "isWith", "(II)Z"⟩, 32), (⟨"LakeWindModel", "goHour", "(II)V"⟩, 32)]
theorem lw_r3 : ∀ q ∈ lw_privs_3, lw_okq q := List.forall_mem_cons.mpr ⟨lw_p32, List.forall_mem_cons.mpr ⟨lw_p33, List.forall_mem_cons.mpr ⟨lw_p34, List.forall_mem_cons.mpr ⟨lw_p35, List.forall_mem_cons.mpr ⟨lw_p36, List.forall_mem_cons.mpr ⟨lw_p37, List.forall_mem_cons.mpr ⟨lw_p38, List.forall_mem_cons.mpr ⟨lw_p39, List.forall_mem_cons.mpr ⟨lw_p40, List.forall_mem_cons.mpr ⟨lw_p41, List.forall_mem_cons.mpr ⟨lw_p42, List.forall_mem_cons.mpr ⟨lw_p43, List.forall_mem_cons.mpr ⟨lw_p44, List.forall_mem_cons.mpr ⟨lw_p45, List.forall_mem_cons.mpr ⟨lw_p46, List.forall_mem_cons.mpr ⟨lw_p47, fun _ h => absurd h List.not_mem_nil⟩⟩⟩⟩⟩⟩⟩⟩⟩⟩⟩⟩⟩⟩⟩⟩
theorem lw_p48 : lw_okq (⟨"LakeWindModel", "bounded", "(I)I"⟩, 32) := ⟨⟨by decide +kernel, by decide +kernel⟩, List.mem_of_getElem? (i := 800) (by decide +kernel), List.mem_of_getElem? (i := 1011) (by decide +kernel), List.mem_of_getElem? (i := 1012) (by decide +kernel)⟩
theorem lw_p49 : lw_okq (⟨"LakeWindModel", "over", "()I"⟩, 32) := ⟨⟨by decide +kernel, by decide +kernel⟩, List.mem_of_getElem? (i := 800) (by decide +kernel), List.mem_of_getElem? (i := 1015) (by decide +kernel), List.mem_of_getElem? (i := 1016) (by decide +kernel)⟩
theorem lw_p50 : lw_okq (⟨"LakeWindModel", "soonestOf", "(I)I"⟩, 32) := ⟨⟨by decide +kernel, by decide +kernel⟩, List.mem_of_getElem? (i := 800) (by decide +kernel), List.mem_of_getElem? (i := 1023) (by decide +kernel), List.mem_of_getElem? (i := 1024) (by decide +kernel)⟩
theorem lw_p51 : lw_okq (⟨"LakeWindModel", "isThere", "(I)Z"⟩, 32) := ⟨⟨by decide +kernel, by decide +kernel⟩, List.mem_of_getElem? (i := 800) (by decide +kernel), List.mem_of_getElem? (i := 1027) (by decide +kernel), List.mem_of_getElem? (i := 1028) (by decide +kernel)⟩
theorem lw_p52 : lw_okq (⟨"LakeWindModel", "asPlaces", "(I)V"⟩, 32) := ⟨⟨by decide +kernel, by decide +kernel⟩, List.mem_of_getElem? (i := 800) (by decide +kernel), List.mem_of_getElem? (i := 1031) (by decide +kernel), List.mem_of_getElem? (i := 1032) (by decide +kernel)⟩
theorem lw_p53 : lw_okq (⟨"LakeWindModel", "goAll", "(I)V"⟩, 32) := ⟨⟨by decide +kernel, by decide +kernel⟩, List.mem_of_getElem? (i := 800) (by decide +kernel), List.mem_of_getElem? (i := 1035) (by decide +kernel), List.mem_of_getElem? (i := 1036) (by decide +kernel)⟩
theorem lw_p54 : lw_okq (⟨"LakeWindModel", "isInTime", "(II)Z"⟩, 32) := ⟨⟨by decide +kernel, by decide +kernel⟩, List.mem_of_getElem? (i := 800) (by decide +kernel), List.mem_of_getElem? (i := 1043) (by decide +kernel), List.mem_of_getElem? (i := 1044) (by decide +kernel)⟩
theorem lw_p55 : lw_okq (⟨"LakeWindModel", "isByOne", "(III)Z"⟩, 32) := ⟨⟨by decide +kernel, by decide +kernel⟩, List.mem_of_getElem? (i := 800) (by decide +kernel), List.mem_of_getElem? (i := 1047) (by decide +kernel), List.mem_of_getElem? (i := 1048) (by decide +kernel)⟩
theorem lw_p56 : lw_okq (⟨"LakeWindModel", "isByTwo", "(IIII)Z"⟩, 32) := ⟨⟨by decide +kernel, by decide +kernel⟩, List.mem_of_getElem? (i := 800) (by decide +kernel), List.mem_of_getElem? (i := 1051) (by decide +kernel), List.mem_of_getElem? (i := 1052) (by decide +kernel)⟩
theorem lw_p57 : lw_okq (⟨"LakeWindModel", "lay", "(IIIII)I"⟩, 32) := ⟨⟨by decide +kernel, by decide +kernel⟩, List.mem_of_getElem? (i := 800) (by decide +kernel), List.mem_of_getElem? (i := 1071) (by decide +kernel), List.mem_of_getElem? (i := 1072) (by decide +kernel)⟩
theorem lw_p58 : lw_okq (⟨"LakeWindModel", "areSo", "()Z"⟩, 32) := ⟨⟨by decide +kernel, by decide +kernel⟩, List.mem_of_getElem? (i := 800) (by decide +kernel), List.mem_of_getElem? (i := 1075) (by decide +kernel), List.mem_of_getElem? (i := 1076) (by decide +kernel)⟩
theorem lw_p59 : lw_okq (⟨"LakeWindModel", "isFree", "(I)Z"⟩, 32) := ⟨⟨by decide +kernel, by decide +kernel⟩, List.mem_of_getElem? (i := 800) (by decide +kernel), List.mem_of_getElem? (i := 1092) (by decide +kernel), List.mem_of_getElem? (i := 1093) (by decide +kernel)⟩
theorem lw_p60 : lw_okq (⟨"LakeWindModel", "lost", "(I)J"⟩, 32) := ⟨⟨by decide +kernel, by decide +kernel⟩, List.mem_of_getElem? (i := 800) (by decide +kernel), List.mem_of_getElem? (i := 1115) (by decide +kernel), List.mem_of_getElem? (i := 1116) (by decide +kernel)⟩
theorem lw_p61 : lw_okq (⟨"LakeWindModel", "leaves", "(I)V"⟩, 32) := ⟨⟨by decide +kernel, by decide +kernel⟩, List.mem_of_getElem? (i := 800) (by decide +kernel), List.mem_of_getElem? (i := 1127) (by decide +kernel), List.mem_of_getElem? (i := 1128) (by decide +kernel)⟩
def lw_privs_4 : List (MethodName × Nat) := [(⟨"LakeWindModel", "bounded", "(I)I"⟩, 32), (⟨"LakeWindModel", "over", "()I"⟩, 32), (⟨"LakeWindModel", "soonestOf", "(I)I"⟩, 32), (⟨"LakeWindModel", "isThere", "(I)Z"⟩, 32), (⟨"LakeWindModel", "asPlaces", "(I)V"⟩, 32), (⟨"LakeWindModel", "goAll", "(I)V"⟩, 32), (⟨"LakeWindModel", "isInTime", "(II)Z"⟩, 32), (⟨"LakeWindModel", "isByOne", "(III)Z"⟩, 32), (⟨"LakeWindModel", "isByTwo", "(IIII)Z"⟩, 32), (⟨"LakeWindModel", "lay", "(IIIII)I"⟩, 32), (⟨"LakeWindModel", "areSo", "()Z"⟩, 32), (⟨"LakeWindModel", "isFree", "(I)Z"⟩, 32), (⟨"LakeWindModel", "lost", "(I)J"⟩, 32), (⟨"LakeWindModel", "leaves", "(I)V"⟩, 32)]
theorem lw_r4 : ∀ q ∈ lw_privs_4, lw_okq q := List.forall_mem_cons.mpr ⟨lw_p48, List.forall_mem_cons.mpr ⟨lw_p49, List.forall_mem_cons.mpr ⟨lw_p50, List.forall_mem_cons.mpr ⟨lw_p51, List.forall_mem_cons.mpr ⟨lw_p52, List.forall_mem_cons.mpr ⟨lw_p53, List.forall_mem_cons.mpr ⟨lw_p54, List.forall_mem_cons.mpr ⟨lw_p55, List.forall_mem_cons.mpr ⟨lw_p56, List.forall_mem_cons.mpr ⟨lw_p57, List.forall_mem_cons.mpr ⟨lw_p58, List.forall_mem_cons.mpr ⟨lw_p59, List.forall_mem_cons.mpr ⟨lw_p60, List.forall_mem_cons.mpr ⟨lw_p61, fun _ h => absurd h List.not_mem_nil⟩⟩⟩⟩⟩⟩⟩⟩⟩⟩⟩⟩⟩⟩
def lw_privs : List (MethodName × Nat) := lw_privs_1 ++ (lw_privs_2 ++ (lw_privs_3 ++ (lw_privs_4)))
def lw_tbl : List Cond := k2_sels lw_privs ++ tables_1
theorem lw_privs_ok : ∀ q ∈ lw_privs, lw_okq q := by
  show ∀ q ∈ lw_privs_1 ++ (lw_privs_2 ++ (lw_privs_3 ++ (lw_privs_4))), lw_okq q
  exact List.forall_mem_append.mpr ⟨lw_r1, List.forall_mem_append.mpr ⟨lw_r2, List.forall_mem_append.mpr ⟨lw_r3, lw_r4⟩⟩⟩
def RX0 : String := "LakeWind$Boat"
def TX0 : u_T := fun k => match k with
  | 0 => ("LakeWind$Boat", "number", "I", true)
  | 1 => ("LakeWind$Boat", "from", "I", true)
  | _ => ("LakeWind$Boat", "fast", "I", true)
def tyX0 : Nat → FieldType := fun k => match k with
  | 0 => .int
  | 1 => .int
  | _ => .int
theorem nmX0 : ∀ a, a < 3 → ∀ b, b < 3 → a ≠ b → (TX0 a).2.1 ≠ (TX0 b).2.1 := by decide +kernel
theorem tyX0_ok : ∀ k, k < 3 → parseFieldDescriptor (TX0 k).2.2.1 = some (tyX0 k) := by decide +kernel
abbrev cX0_init : ByteArray := prog_2_method_1_code
def yX0_init : MethodName := ⟨RX0, "<init>", "(III)V"⟩
abbrev cX0_kindNumber : ByteArray := prog_2_method_2_code
def yX0_kindNumber : MethodName := ⟨RX0, "kindNumber", "()I"⟩
abbrev cX0_goesAgainst : ByteArray := prog_2_method_3_code
def yX0_goesAgainst : MethodName := ⟨RX0, "goesAgainst", "()I"⟩
abbrev cX0_counts : ByteArray := prog_2_method_4_code
def yX0_counts : MethodName := ⟨RX0, "counts", "()Z"⟩
abbrev cX0_telling : ByteArray := prog_2_method_5_code
def yX0_telling : MethodName := ⟨RX0, "telling", "(LLakeWind$Trace;)I"⟩
abbrev cX0_tellingOfBoat : ByteArray := prog_2_method_6_code
def yX0_tellingOfBoat : MethodName := ⟨RX0, "tellingOfBoat", "(LLakeWind$Trace;)I"⟩
abbrev cX0_hailing : ByteArray := prog_2_method_7_code
def yX0_hailing : MethodName := ⟨RX0, "hailing", "(LLakeWind$Trace;)I"⟩
def RX1 : String := "LakeWind$Lake"
def TX1 : u_T := fun k => match k with
  | 0 => ("LakeWind$Lake", "wide", "I", false)
  | 1 => ("LakeWind$Lake", "isles", "I", false)
  | 2 => ("LakeWind$Lake", "hours", "I", false)
  | 3 => ("LakeWind$Lake", "boats", "I", false)
  | 4 => ("LakeWind$Lake", "windOf", "[I", true)
  | _ => ("LakeWind$Lake", "fleet", "[LLakeWind$Boat;", true)
def tyX1 : Nat → FieldType := fun k => match k with
  | 0 => .int
  | 1 => .int
  | 2 => .int
  | 3 => .int
  | 4 => .array .int
  | _ => .array (.object "LakeWind$Boat")
theorem nmX1 : ∀ a, a < 6 → ∀ b, b < 6 → a ≠ b → (TX1 a).2.1 ≠ (TX1 b).2.1 := by decide +kernel
theorem tyX1_ok : ∀ k, k < 6 → parseFieldDescriptor (TX1 k).2.2.1 = some (tyX1 k) := by decide +kernel
abbrev cX1_init : ByteArray := prog_3_method_1_code
def yX1_init : MethodName := ⟨RX1, "<init>", "()V"⟩
abbrev cX1_drain : ByteArray := prog_3_method_2_code
def yX1_drain : MethodName := ⟨RX1, "drain", "()V"⟩
abbrev cX1_isThere : ByteArray := prog_3_method_3_code
def yX1_isThere : MethodName := ⟨RX1, "isThere", "()Z"⟩
abbrev cX1_allBoats : ByteArray := prog_3_method_4_code
def yX1_allBoats : MethodName := ⟨RX1, "allBoats", "()I"⟩
abbrev cX1_hasIsle : ByteArray := prog_3_method_5_code
def yX1_hasIsle : MethodName := ⟨RX1, "hasIsle", "(I)Z"⟩
abbrev cX1_startOf : ByteArray := prog_3_method_6_code
def yX1_startOf : MethodName := ⟨RX1, "startOf", "(LLakeWind$Boat;)I"⟩
abbrev cX1_goalOf : ByteArray := prog_3_method_7_code
def yX1_goalOf : MethodName := ⟨RX1, "goalOf", "(LLakeWind$Boat;)I"⟩
abbrev cX1_isWith : ByteArray := prog_3_method_8_code
def yX1_isWith : MethodName := ⟨RX1, "isWith", "(LLakeWind$Boat;I)Z"⟩
abbrev cX1_countsWith : ByteArray := prog_3_method_9_code
def yX1_countsWith : MethodName := ⟨RX1, "countsWith", "(LLakeWind$Boat;I)Z"⟩
abbrev cX1_cellAfter : ByteArray := prog_3_method_10_code
def yX1_cellAfter : MethodName := ⟨RX1, "cellAfter", "(LLakeWind$Boat;IIZ)I"⟩
abbrev cX1_states : ByteArray := prog_3_method_11_code
def yX1_states : MethodName := ⟨RX1, "states", "()I"⟩
def RX2 : String := "LakeWind$Oared"
def TX2 : u_T := fun k => match k with
  | 0 => ("LakeWind$Boat", "number", "I", true)
  | 1 => ("LakeWind$Boat", "from", "I", true)
  | _ => ("LakeWind$Boat", "fast", "I", true)
def tyX2 : Nat → FieldType := fun k => match k with
  | 0 => .int
  | 1 => .int
  | _ => .int
theorem nmX2 : ∀ a, a < 3 → ∀ b, b < 3 → a ≠ b → (TX2 a).2.1 ≠ (TX2 b).2.1 := by decide +kernel
theorem tyX2_ok : ∀ k, k < 3 → parseFieldDescriptor (TX2 k).2.2.1 = some (tyX2 k) := by decide +kernel
abbrev cX2_init : ByteArray := prog_4_method_1_code
def yX2_init : MethodName := ⟨RX2, "<init>", "(III)V"⟩
abbrev cX2_kindNumber : ByteArray := prog_4_method_2_code
def yX2_kindNumber : MethodName := ⟨RX2, "kindNumber", "()I"⟩
abbrev cX2_goesAgainst : ByteArray := prog_4_method_3_code
def yX2_goesAgainst : MethodName := ⟨RX2, "goesAgainst", "()I"⟩
abbrev cX2_telling : ByteArray := prog_4_method_4_code
def yX2_telling : MethodName := ⟨RX2, "telling", "(LLakeWind$Trace;)I"⟩
def RX3 : String := "LakeWind$Readings"
def TX3 : u_T := fun k => match k with
  | 0 => ("LakeWind$Readings", "count", "I", false)
  | 1 => ("LakeWind$Readings", "boatOf", "[I", true)
  | 2 => ("LakeWind$Readings", "hourOf", "[I", true)
  | _ => ("LakeWind$Readings", "cellOf", "[I", true)
def tyX3 : Nat → FieldType := fun k => match k with
  | 0 => .int
  | 1 => .array .int
  | 2 => .array .int
  | _ => .array .int
theorem nmX3 : ∀ a, a < 4 → ∀ b, b < 4 → a ≠ b → (TX3 a).2.1 ≠ (TX3 b).2.1 := by decide +kernel
theorem tyX3_ok : ∀ k, k < 4 → parseFieldDescriptor (TX3 k).2.2.1 = some (tyX3 k) := by decide +kernel
abbrev cX3_init : ByteArray := prog_5_method_1_code
def yX3_init : MethodName := ⟨RX3, "<init>", "()V"⟩
abbrev cX3_add : ByteArray := prog_5_method_2_code
def yX3_add : MethodName := ⟨RX3, "add", "(III)I"⟩
abbrev cX3_areWithin : ByteArray := prog_5_method_3_code
def yX3_areWithin : MethodName := ⟨RX3, "areWithin", "(I)Z"⟩
abbrev cX3_areSo : ByteArray := prog_5_method_4_code
def yX3_areSo : MethodName := ⟨RX3, "areSo", "(I[I)Z"⟩
def RX4 : String := "LakeWind$Search"
def TX4 : u_T := fun k => match k with
  | 0 => ("LakeWind$Search", "isStale", "Z", false)
  | 1 => ("LakeWind$Search", "states", "I", false)
  | 2 => ("LakeWind$Search", "start", "I", false)
  | 3 => ("LakeWind$Search", "lowAfter", "[J", true)
  | 4 => ("LakeWind$Search", "highAfter", "[J", true)
  | 5 => ("LakeWind$Search", "overIn", "[I", true)
  | 6 => ("LakeWind$Search", "ends", "[I", true)
  | 7 => ("LakeWind$Search", "counted", "[I", true)
  | 8 => ("LakeWind$Search", "spot", "LLakeWind$Voyage;", true)
  | 9 => ("LakeWind$Search", "now", "LLakeWind$States;", true)
  | 10 => ("LakeWind$Search", "next", "LLakeWind$States;", true)
  | 11 => ("LakeWind$Search", "good", "[LLakeWind$States;", true)
  | _ => ("LakeWind$Search", "hatted", "[LLakeWind$States;", true)
def tyX4 : Nat → FieldType := fun k => match k with
  | 0 => .boolean
  | 1 => .int
  | 2 => .int
  | 3 => .array .long
  | 4 => .array .long
  | 5 => .array .int
  | 6 => .array .int
  | 7 => .array .int
  | 8 => .object "LakeWind$Voyage"
  | 9 => .object "LakeWind$States"
  | 10 => .object "LakeWind$States"
  | 11 => .array (.object "LakeWind$States")
  | _ => .array (.object "LakeWind$States")
theorem nmX4 : ∀ a, a < 13 → ∀ b, b < 13 → a ≠ b → (TX4 a).2.1 ≠ (TX4 b).2.1 := by decide +kernel
theorem tyX4_ok : ∀ k, k < 13 → parseFieldDescriptor (TX4 k).2.2.1 = some (tyX4 k) := by decide +kernel
abbrev cX4_init : ByteArray := prog_6_method_1_code
def yX4_init : MethodName := ⟨RX4, "<init>", "()V"⟩
abbrev cX4_fewestHours : ByteArray := prog_6_method_2_code
def yX4_fewestHours : MethodName := ⟨RX4, "fewestHours", "(LLakeWind$Lake;I)I"⟩
abbrev cX4_fewestHats : ByteArray := prog_6_method_3_code
def yX4_fewestHats : MethodName := ⟨RX4, "fewestHats", "(LLakeWind$Lake;II)I"⟩
abbrev cX4_leastHat : ByteArray := prog_6_method_4_code
def yX4_leastHat : MethodName := ⟨RX4, "leastHat", "(LLakeWind$Lake;I)I"⟩
abbrev cX4_leastTwoHats : ByteArray := prog_6_method_5_code
def yX4_leastTwoHats : MethodName := ⟨RX4, "leastTwoHats", "(LLakeWind$Lake;I)I"⟩
abbrev cX4_startNow : ByteArray := prog_6_method_6_code
def yX4_startNow : MethodName := ⟨RX4, "startNow", "()V"⟩
abbrev cX4_isOverInSome : ByteArray := prog_6_method_7_code
def yX4_isOverInSome : MethodName := ⟨RX4, "isOverInSome", "(LLakeWind$States;I)Z"⟩
abbrev cX4_fillGood : ByteArray := prog_6_method_8_code
def yX4_fillGood : MethodName := ⟨RX4, "fillGood", "(LLakeWind$Lake;II)V"⟩
abbrev cX4_fillGoodAhead : ByteArray := prog_6_method_9_code
def yX4_fillGoodAhead : MethodName := ⟨RX4, "fillGoodAhead", "(LLakeWind$States;ILLakeWind$States;)V"⟩
abbrev cX4_advance : ByteArray := prog_6_method_10_code
def yX4_advance : MethodName := ⟨RX4, "advance", "(LLakeWind$States;I)V"⟩
abbrev cX4_throwHat : ByteArray := prog_6_method_11_code
def yX4_throwHat : MethodName := ⟨RX4, "throwHat", "(LLakeWind$States;ILLakeWind$States;)V"⟩
abbrev cX4_addAfter : ByteArray := prog_6_method_12_code
def yX4_addAfter : MethodName := ⟨RX4, "addAfter", "(LLakeWind$States;ILLakeWind$States;)V"⟩
abbrev cX4_rowOf : ByteArray := prog_6_method_13_code
def yX4_rowOf : MethodName := ⟨RX4, "rowOf", "(I)I"⟩
abbrev cX4_prepare : ByteArray := prog_6_method_14_code
def yX4_prepare : MethodName := ⟨RX4, "prepare", "(LLakeWind$Lake;)V"⟩
abbrev cX4_fillAfter : ByteArray := prog_6_method_15_code
def yX4_fillAfter : MethodName := ⟨RX4, "fillAfter", "(LLakeWind$Lake;II)V"⟩
abbrev cX4_findEnds : ByteArray := prog_6_method_16_code
def yX4_findEnds : MethodName := ⟨RX4, "findEnds", "(LLakeWind$Lake;I)I"⟩
def RX5 : String := "LakeWind$Sheet"
def TX5 : u_T := fun k => match k with
  | 0 => ("LakeWind$Sheet", "lane", "I", false)
  | 1 => ("LakeWind$Sheet", "size", "I", false)
  | _ => ("LakeWind$Sheet", "cells", "[I", true)
def tyX5 : Nat → FieldType := fun k => match k with
  | 0 => .int
  | 1 => .int
  | _ => .array .int
theorem nmX5 : ∀ a, a < 3 → ∀ b, b < 3 → a ≠ b → (TX5 a).2.1 ≠ (TX5 b).2.1 := by decide +kernel
theorem tyX5_ok : ∀ k, k < 3 → parseFieldDescriptor (TX5 k).2.2.1 = some (tyX5 k) := by decide +kernel
abbrev cX5_init : ByteArray := prog_7_method_1_code
def yX5_init : MethodName := ⟨RX5, "<init>", "()V"⟩
abbrev cX5_hasRow : ByteArray := prog_7_method_2_code
def yX5_hasRow : MethodName := ⟨RX5, "hasRow", "()Z"⟩
abbrev cX5_renew : ByteArray := prog_7_method_3_code
def yX5_renew : MethodName := ⟨RX5, "renew", "(II)V"⟩
abbrev cX5_faultAs : ByteArray := prog_7_method_4_code
def yX5_faultAs : MethodName := ⟨RX5, "faultAs", "(I)I"⟩
abbrev cX5_holds : ByteArray := prog_7_method_5_code
def yX5_holds : MethodName := ⟨RX5, "holds", "(II)Z"⟩
abbrev cX5_cut : ByteArray := prog_7_method_6_code
def yX5_cut : MethodName := ⟨RX5, "cut", "(I)I"⟩
def RX6 : String := "LakeWind$States"
def TX6 : u_T := fun k => match k with
  | 0 => ("LakeWind$States", "low", "J", false)
  | _ => ("LakeWind$States", "high", "J", false)
def tyX6 : Nat → FieldType := fun k => match k with
  | 0 => .long
  | _ => .long
theorem nmX6 : ∀ a, a < 2 → ∀ b, b < 2 → a ≠ b → (TX6 a).2.1 ≠ (TX6 b).2.1 := by decide +kernel
theorem tyX6_ok : ∀ k, k < 2 → parseFieldDescriptor (TX6 k).2.2.1 = some (tyX6 k) := by decide +kernel
abbrev cX6_init : ByteArray := prog_8_method_1_code
def yX6_init : MethodName := ⟨RX6, "<init>", "()V"⟩
abbrev cX6_clear : ByteArray := prog_8_method_2_code
def yX6_clear : MethodName := ⟨RX6, "clear", "()V"⟩
abbrev cX6_become : ByteArray := prog_8_method_3_code
def yX6_become : MethodName := ⟨RX6, "become", "(LLakeWind$States;)V"⟩
abbrev cX6_add : ByteArray := prog_8_method_4_code
def yX6_add : MethodName := ⟨RX6, "add", "(I)V"⟩
abbrev cX6_addAll : ByteArray := prog_8_method_5_code
def yX6_addAll : MethodName := ⟨RX6, "addAll", "(JJ)V"⟩
abbrev cX6_has : ByteArray := prog_8_method_6_code
def yX6_has : MethodName := ⟨RX6, "has", "(I)Z"⟩
abbrev cX6_meets : ByteArray := prog_8_method_7_code
def yX6_meets : MethodName := ⟨RX6, "meets", "(JJ)Z"⟩
def RX7 : String := "LakeWind$Text"
def TX7 : u_T := fun k => match k with
  | 0 => ("LakeWind$Text", "at", "I", false)
  | 1 => ("LakeWind$Text", "codes", "[I", false)
  | 2 => ("LakeWind$Text", "first", "I", false)
  | _ => ("LakeWind$Text", "end", "I", false)
def tyX7 : Nat → FieldType := fun k => match k with
  | 0 => .int
  | 1 => .array .int
  | 2 => .int
  | _ => .int
theorem nmX7 : ∀ a, a < 4 → ∀ b, b < 4 → a ≠ b → (TX7 a).2.1 ≠ (TX7 b).2.1 := by decide +kernel
theorem tyX7_ok : ∀ k, k < 4 → parseFieldDescriptor (TX7 k).2.2.1 = some (tyX7 k) := by decide +kernel
abbrev cX7_init : ByteArray := prog_9_method_1_code
def yX7_init : MethodName := ⟨RX7, "<init>", "()V"⟩
abbrev cX7_begin : ByteArray := prog_9_method_2_code
def yX7_begin : MethodName := ⟨RX7, "begin", "([III)V"⟩
abbrev cX7_readWater : ByteArray := prog_9_method_3_code
def yX7_readWater : MethodName := ⟨RX7, "readWater", "(LLakeWind$Lake;)Z"⟩
abbrev cX7_readWinds : ByteArray := prog_9_method_4_code
def yX7_readWinds : MethodName := ⟨RX7, "readWinds", "(LLakeWind$Lake;)Z"⟩
abbrev cX7_readBoats : ByteArray := prog_9_method_5_code
def yX7_readBoats : MethodName := ⟨RX7, "readBoats", "(LLakeWind$Lake;)Z"⟩
abbrev cX7_readBoat : ByteArray := prog_9_method_6_code
def yX7_readBoat : MethodName := ⟨RX7, "readBoat", "(LLakeWind$Lake;I)Z"⟩
abbrev cX7_isNext : ByteArray := prog_9_method_7_code
def yX7_isNext : MethodName := ⟨RX7, "isNext", "(I)Z"⟩
abbrev cX7_skip : ByteArray := prog_9_method_8_code
def yX7_skip : MethodName := ⟨RX7, "skip", "(I)Z"⟩
abbrev cX7_digit : ByteArray := prog_9_method_9_code
def yX7_digit : MethodName := ⟨RX7, "digit", "(II)I"⟩
abbrev cX7_windSign : ByteArray := prog_9_method_10_code
def yX7_windSign : MethodName := ⟨RX7, "windSign", "()I"⟩
abbrev cX7_kindLetter : ByteArray := prog_9_method_11_code
def yX7_kindLetter : MethodName := ⟨RX7, "kindLetter", "()I"⟩
def RX8 : String := "LakeWind$Towed"
def TX8 : u_T := fun k => match k with
  | 0 => ("LakeWind$Boat", "number", "I", true)
  | 1 => ("LakeWind$Boat", "from", "I", true)
  | _ => ("LakeWind$Boat", "fast", "I", true)
def tyX8 : Nat → FieldType := fun k => match k with
  | 0 => .int
  | 1 => .int
  | _ => .int
theorem nmX8 : ∀ a, a < 3 → ∀ b, b < 3 → a ≠ b → (TX8 a).2.1 ≠ (TX8 b).2.1 := by decide +kernel
theorem tyX8_ok : ∀ k, k < 3 → parseFieldDescriptor (TX8 k).2.2.1 = some (tyX8 k) := by decide +kernel
abbrev cX8_init : ByteArray := prog_10_method_1_code
def yX8_init : MethodName := ⟨RX8, "<init>", "(III)V"⟩
abbrev cX8_kindNumber : ByteArray := prog_10_method_2_code
def yX8_kindNumber : MethodName := ⟨RX8, "kindNumber", "()I"⟩
abbrev cX8_goesAgainst : ByteArray := prog_10_method_3_code
def yX8_goesAgainst : MethodName := ⟨RX8, "goesAgainst", "()I"⟩
abbrev cX8_counts : ByteArray := prog_10_method_4_code
def yX8_counts : MethodName := ⟨RX8, "counts", "()Z"⟩
abbrev cX8_telling : ByteArray := prog_10_method_5_code
def yX8_telling : MethodName := ⟨RX8, "telling", "(LLakeWind$Trace;)I"⟩
abbrev cX8_hailing : ByteArray := prog_10_method_6_code
def yX8_hailing : MethodName := ⟨RX8, "hailing", "(LLakeWind$Trace;)I"⟩
def RX9 : String := "LakeWind$Trace"
def TX9 : u_T := fun k => match k with
  | _ => ("LakeWind$Trace", "value", "I", false)
def tyX9 : Nat → FieldType := fun k => match k with
  | _ => .int
theorem nmX9 : ∀ a, a < 1 → ∀ b, b < 1 → a ≠ b → (TX9 a).2.1 ≠ (TX9 b).2.1 := by decide +kernel
theorem tyX9_ok : ∀ k, k < 1 → parseFieldDescriptor (TX9 k).2.2.1 = some (tyX9 k) := by decide +kernel
abbrev cX9_init : ByteArray := prog_11_method_1_code
def yX9_init : MethodName := ⟨RX9, "<init>", "()V"⟩
abbrev cX9_leave : ByteArray := prog_11_method_2_code
def yX9_leave : MethodName := ⟨RX9, "leave", "(I)V"⟩
def RX10 : String := "LakeWind$Voyage"
def TX10 : u_T := fun k => match k with
  | 0 => ("LakeWind$Voyage", "cells", "[I", true)
  | 1 => ("LakeWind$Voyage", "fines", "I", false)
  | 2 => ("LakeWind$Voyage", "firstFine", "I", false)
  | _ => ("LakeWind$Voyage", "allOver", "I", false)
def tyX10 : Nat → FieldType := fun k => match k with
  | 0 => .array .int
  | 1 => .int
  | 2 => .int
  | _ => .int
theorem nmX10 : ∀ a, a < 4 → ∀ b, b < 4 → a ≠ b → (TX10 a).2.1 ≠ (TX10 b).2.1 := by decide +kernel
theorem tyX10_ok : ∀ k, k < 4 → parseFieldDescriptor (TX10 k).2.2.1 = some (tyX10 k) := by decide +kernel
abbrev cX10_init : ByteArray := prog_12_method_1_code
def yX10_init : MethodName := ⟨RX10, "<init>", "()V"⟩
abbrev cX10_begin : ByteArray := prog_12_method_2_code
def yX10_begin : MethodName := ⟨RX10, "begin", "(LLakeWind$Lake;)V"⟩
abbrev cX10_sail : ByteArray := prog_12_method_3_code
def yX10_sail : MethodName := ⟨RX10, "sail", "(LLakeWind$Lake;II)I"⟩
abbrev cX10_sailAll : ByteArray := prog_12_method_4_code
def yX10_sailAll : MethodName := ⟨RX10, "sailAll", "(LLakeWind$Lake;[II)V"⟩
abbrev cX10_overSet : ByteArray := prog_12_method_5_code
def yX10_overSet : MethodName := ⟨RX10, "overSet", "(LLakeWind$Lake;)I"⟩
abbrev cX10_stateNumber : ByteArray := prog_12_method_6_code
def yX10_stateNumber : MethodName := ⟨RX10, "stateNumber", "(LLakeWind$Lake;)I"⟩
abbrev cX10_place : ByteArray := prog_12_method_7_code
def yX10_place : MethodName := ⟨RX10, "place", "(LLakeWind$Lake;I)V"⟩
def RX11 : String := "LakeWind"
def TX11 : u_T := fun k => match k with
  | 0 => ("LakeWind", "sheets", "[LLakeWind$Sheet;", true)
  | 1 => ("LakeWind", "text", "LLakeWind$Text;", true)
  | 2 => ("LakeWind", "readings", "LLakeWind$Readings;", true)
  | 3 => ("LakeWind", "voyage", "LLakeWind$Voyage;", true)
  | 4 => ("LakeWind", "search", "LLakeWind$Search;", true)
  | 5 => ("LakeWind", "marks", "LLakeWind$Trace;", true)
  | 6 => ("LakeWind", "orders", "[I", true)
  | 7 => ("LakeWind", "ways", "[I", false)
  | 8 => ("LakeWind", "nextWays", "[I", false)
  | 9 => ("LakeWind", "water", "LLakeWind$Lake;", false)
  | 10 => ("LakeWind", "spareWater", "LLakeWind$Lake;", false)
  | _ => ("LakeWind", "lastFault", "I", false)
def tyX11 : Nat → FieldType := fun k => match k with
  | 0 => .array (.object "LakeWind$Sheet")
  | 1 => .object "LakeWind$Text"
  | 2 => .object "LakeWind$Readings"
  | 3 => .object "LakeWind$Voyage"
  | 4 => .object "LakeWind$Search"
  | 5 => .object "LakeWind$Trace"
  | 6 => .array .int
  | 7 => .array .int
  | 8 => .array .int
  | 9 => .object "LakeWind$Lake"
  | 10 => .object "LakeWind$Lake"
  | _ => .int
theorem nmX11 : ∀ a, a < 12 → ∀ b, b < 12 → a ≠ b → (TX11 a).2.1 ≠ (TX11 b).2.1 := by decide +kernel
theorem tyX11_ok : ∀ k, k < 12 → parseFieldDescriptor (TX11 k).2.2.1 = some (tyX11 k) := by decide +kernel
abbrev cX11_init : ByteArray := prog_1_method_1_code
def yX11_init : MethodName := ⟨RX11, "<init>", "()V"⟩
abbrev cX11_lake : ByteArray := prog_1_method_2_code
def yX11_lake : MethodName := ⟨RX11, "lake", "(IIII)I"⟩
abbrev cX11_faultOfText : ByteArray := prog_1_method_3_code
def yX11_faultOfText : MethodName := ⟨RX11, "faultOfText", "(LLakeWind$Sheet;III)I"⟩
abbrev cX11_takeSpareWater : ByteArray := prog_1_method_4_code
def yX11_takeSpareWater : MethodName := ⟨RX11, "takeSpareWater", "()V"⟩
abbrev cX11_ofBoat : ByteArray := prog_1_method_5_code
def yX11_ofBoat : MethodName := ⟨RX11, "ofBoat", "(II)I"⟩
abbrev cX11_wind : ByteArray := prog_1_method_6_code
def yX11_wind : MethodName := ⟨RX11, "wind", "(II)I"⟩
abbrev cX11_isle : ByteArray := prog_1_method_7_code
def yX11_isle : MethodName := ⟨RX11, "isle", "(IZ)I"⟩
abbrev cX11_plan : ByteArray := prog_1_method_8_code
def yX11_plan : MethodName := ⟨RX11, "plan", "(IIIII)I"⟩
abbrev cX11_isQuestion : ByteArray := prog_1_method_9_code
def yX11_isQuestion : MethodName := ⟨RX11, "isQuestion", "(I)Z"⟩
abbrev cX11_answerOfVoyage : ByteArray := prog_1_method_10_code
def yX11_answerOfVoyage : MethodName := ⟨RX11, "answerOfVoyage", "(I)I"⟩
abbrev cX11_refusalOfRow : ByteArray := prog_1_method_11_code
def yX11_refusalOfRow : MethodName := ⟨RX11, "refusalOfRow", "(III)I"⟩
abbrev cX11_takeOrders : ByteArray := prog_1_method_12_code
def yX11_takeOrders : MethodName := ⟨RX11, "takeOrders", "(IIII)I"⟩
abbrev cX11_soonest : ByteArray := prog_1_method_13_code
def yX11_soonest : MethodName := ⟨RX11, "soonest", "(I)I"⟩
abbrev cX11_hats : ByteArray := prog_1_method_14_code
def yX11_hats : MethodName := ⟨RX11, "hats", "(II)I"⟩
abbrev cX11_rid : ByteArray := prog_1_method_15_code
def yX11_rid : MethodName := ⟨RX11, "rid", "(I)I"⟩
abbrev cX11_reading : ByteArray := prog_1_method_16_code
def yX11_reading : MethodName := ⟨RX11, "reading", "(III)I"⟩
abbrev cX11_back : ByteArray := prog_1_method_17_code
def yX11_back : MethodName := ⟨RX11, "back", "(I)I"⟩
abbrev cX11_winds : ByteArray := prog_1_method_18_code
def yX11_winds : MethodName := ⟨RX11, "winds", "(IIIII)I"⟩
abbrev cX11_kinds : ByteArray := prog_1_method_19_code
def yX11_kinds : MethodName := ⟨RX11, "kinds", "(IIIII)I"⟩
abbrev cX11_speeds : ByteArray := prog_1_method_20_code
def yX11_speeds : MethodName := ⟨RX11, "speeds", "(IIIII)I"⟩
abbrev cX11_refusalOfBoatPlan : ByteArray := prog_1_method_21_code
def yX11_refusalOfBoatPlan : MethodName := ⟨RX11, "refusalOfBoatPlan", "(IIIII)I"⟩
abbrev cX11_bitIfAsRead : ByteArray := prog_1_method_22_code
def yX11_bitIfAsRead : MethodName := ⟨RX11, "bitIfAsRead", "(II)I"⟩
abbrev cX11_odds : ByteArray := prog_1_method_23_code
def yX11_odds : MethodName := ⟨RX11, "odds", "(IIIII)J"⟩
abbrev cX11_waysWithoutFine : ByteArray := prog_1_method_24_code
def yX11_waysWithoutFine : MethodName := ⟨RX11, "waysWithoutFine", "(I)I"⟩
abbrev cX11_sailByChance : ByteArray := prog_1_method_25_code
def yX11_sailByChance : MethodName := ⟨RX11, "sailByChance", "(II)V"⟩
abbrev cX11_sheet : ByteArray := prog_1_method_26_code
def yX11_sheet : MethodName := ⟨RX11, "sheet", "(III)I"⟩
abbrev cX11_lose : ByteArray := prog_1_method_27_code
def yX11_lose : MethodName := ⟨RX11, "lose", "(I)I"⟩
abbrev cX11_put : ByteArray := prog_1_method_28_code
def yX11_put : MethodName := ⟨RX11, "put", "(III)I"⟩
abbrev cX11_cell : ByteArray := prog_1_method_29_code
def yX11_cell : MethodName := ⟨RX11, "cell", "(III)J"⟩
abbrev cX11_copy : ByteArray := prog_1_method_30_code
def yX11_copy : MethodName := ⟨RX11, "copy", "(IIIII)I"⟩
abbrev cX11_tell : ByteArray := prog_1_method_31_code
def yX11_tell : MethodName := ⟨RX11, "tell", "(I)I"⟩
abbrev cX11_hail : ByteArray := prog_1_method_32_code
def yX11_hail : MethodName := ⟨RX11, "hail", "(I)I"⟩
abbrev cX11_as : ByteArray := prog_1_method_33_code
def yX11_as : MethodName := ⟨RX11, "as", "(II)I"⟩
abbrev cX11_isOfKind : ByteArray := prog_1_method_34_code
def yX11_isOfKind : MethodName := ⟨RX11, "isOfKind", "(LLakeWind$Boat;I)Z"⟩
abbrev cX11_trace : ByteArray := prog_1_method_35_code
def yX11_trace : MethodName := ⟨RX11, "trace", "()I"⟩
abbrev cX11_fault : ByteArray := prog_1_method_36_code
def yX11_fault : MethodName := ⟨RX11, "fault", "()I"⟩
abbrev cX11_many : ByteArray := prog_1_method_37_code
def yX11_many : MethodName := ⟨RX11, "many", "(I)I"⟩
abbrev cX11_faulted : ByteArray := prog_1_method_38_code
def yX11_faulted : MethodName := ⟨RX11, "faulted", "(I)I"⟩
abbrev cX11_isSheet : ByteArray := prog_1_method_39_code
def yX11_isSheet : MethodName := ⟨RX11, "isSheet", "(I)Z"⟩
abbrev cX11_isLane : ByteArray := prog_1_method_40_code
def yX11_isLane : MethodName := ⟨RX11, "isLane", "(I)Z"⟩
abbrev cX11_isBoat : ByteArray := prog_1_method_41_code
def yX11_isBoat : MethodName := ⟨RX11, "isBoat", "(I)Z"⟩
abbrev cX11_isHour : ByteArray := prog_1_method_42_code
def yX11_isHour : MethodName := ⟨RX11, "isHour", "(I)Z"⟩
abbrev cX11_isSet : ByteArray := prog_1_method_43_code
def yX11_isSet : MethodName := ⟨RX11, "isSet", "(I)Z"⟩
abbrev cX11_newBoat : ByteArray := prog_1_method_44_code
def yX11_newBoat : MethodName := ⟨RX11, "newBoat", "(IIII)LLakeWind$Boat;"⟩
def RX12 : String := "LakeWindModel"
def TX12 : u_T := fun k => match k with
  | 0 => ("LakeWindModel", "fault", "I", false)
  | 1 => ("LakeWindModel", "trace", "I", false)
  | 2 => ("LakeWindModel", "sorts", "[I", true)
  | 3 => ("LakeWindModel", "sheetLong", "[I", true)
  | 4 => ("LakeWindModel", "cells", "[I", true)
  | 5 => ("LakeWindModel", "wide", "I", false)
  | 6 => ("LakeWindModel", "hours", "I", false)
  | 7 => ("LakeWindModel", "boats", "I", false)
  | 8 => ("LakeWindModel", "hasIsle", "[Z", true)
  | 9 => ("LakeWindModel", "windOf", "[I", true)
  | 10 => ("LakeWindModel", "kind", "[I", true)
  | 11 => ("LakeWindModel", "from", "[I", true)
  | 12 => ("LakeWindModel", "fast", "[I", true)
  | 13 => ("LakeWindModel", "at", "I", false)
  | 14 => ("LakeWindModel", "readWide", "I", false)
  | 15 => ("LakeWindModel", "readHours", "I", false)
  | 16 => ("LakeWindModel", "readMany", "I", false)
  | 17 => ("LakeWindModel", "readIsle", "[I", true)
  | 18 => ("LakeWindModel", "readWind", "[I", true)
  | 19 => ("LakeWindModel", "read", "[I", true)
  | 20 => ("LakeWindModel", "place", "[I", true)
  | 21 => ("LakeWindModel", "planned", "I", false)
  | 22 => ("LakeWindModel", "sets", "[I", true)
  | 23 => ("LakeWindModel", "fines", "I", false)
  | 24 => ("LakeWindModel", "firstFined", "I", false)
  | 25 => ("LakeWindModel", "firstOver", "I", false)
  | 26 => ("LakeWindModel", "canBe", "[Z", true)
  | 27 => ("LakeWindModel", "then", "[Z", true)
  | 28 => ("LakeWindModel", "readings", "I", false)
  | 29 => ("LakeWindModel", "readBoatOf", "[I", true)
  | 30 => ("LakeWindModel", "readHour", "[I", true)
  | _ => ("LakeWindModel", "readCell", "[I", true)
def tyX12 : Nat → FieldType := fun k => match k with
  | 0 => .int
  | 1 => .int
  | 2 => .array .int
  | 3 => .array .int
  | 4 => .array .int
  | 5 => .int
  | 6 => .int
  | 7 => .int
  | 8 => .array .boolean
  | 9 => .array .int
  | 10 => .array .int
  | 11 => .array .int
  | 12 => .array .int
  | 13 => .int
  | 14 => .int
  | 15 => .int
  | 16 => .int
  | 17 => .array .int
  | 18 => .array .int
  | 19 => .array .int
  | 20 => .array .int
  | 21 => .int
  | 22 => .array .int
  | 23 => .int
  | 24 => .int
  | 25 => .int
  | 26 => .array .boolean
  | 27 => .array .boolean
  | 28 => .int
  | 29 => .array .int
  | 30 => .array .int
  | _ => .array .int
theorem nmX12 : ∀ a, a < 32 → ∀ b, b < 32 → a ≠ b → (TX12 a).2.1 ≠ (TX12 b).2.1 := by decide +kernel
theorem tyX12_ok : ∀ k, k < 32 → parseFieldDescriptor (TX12 k).2.2.1 = some (tyX12 k) := by decide +kernel
abbrev cX12_init : ByteArray := prog_14_method_1_code
def yX12_init : MethodName := ⟨RX12, "<init>", "()V"⟩
abbrev cX12_fails : ByteArray := prog_14_method_3_code
def yX12_fails : MethodName := ⟨RX12, "fails", "(I)I"⟩
abbrev cX12_lost : ByteArray := prog_14_method_4_code
def yX12_lost : MethodName := ⟨RX12, "lost", "(I)J"⟩
abbrev cX12_within : ByteArray := prog_14_method_5_code
def yX12_within : MethodName := ⟨RX12, "within", "(III)Z"⟩
abbrev cX12_isSheet : ByteArray := prog_14_method_6_code
def yX12_isSheet : MethodName := ⟨RX12, "isSheet", "(I)Z"⟩
abbrev cX12_isSort : ByteArray := prog_14_method_7_code
def yX12_isSort : MethodName := ⟨RX12, "isSort", "(I)Z"⟩
abbrev cX12_against : ByteArray := prog_14_method_8_code
def yX12_against : MethodName := ⟨RX12, "against", "(IIII)I"⟩
abbrev cX12_isBoat : ByteArray := prog_14_method_9_code
def yX12_isBoat : MethodName := ⟨RX12, "isBoat", "(I)Z"⟩
abbrev cX12_isHour : ByteArray := prog_14_method_10_code
def yX12_isHour : MethodName := ⟨RX12, "isHour", "(I)Z"⟩
abbrev cX12_all : ByteArray := prog_14_method_11_code
def yX12_all : MethodName := ⟨RX12, "all", "()I"⟩
abbrev cX12_digit : ByteArray := prog_14_method_12_code
def yX12_digit : MethodName := ⟨RX12, "digit", "(III)I"⟩
abbrev cX12_isSign : ByteArray := prog_14_method_13_code
def yX12_isSign : MethodName := ⟨RX12, "isSign", "(II)Z"⟩
abbrev cX12_lake : ByteArray := prog_14_method_14_code
def yX12_lake : MethodName := ⟨RX12, "lake", "(IIII)I"⟩
abbrev cX12_takeLake : ByteArray := prog_14_method_15_code
def yX12_takeLake : MethodName := ⟨RX12, "takeLake", "()V"⟩
abbrev cX12_windBy : ByteArray := prog_14_method_16_code
def yX12_windBy : MethodName := ⟨RX12, "windBy", "(I)I"⟩
abbrev cX12_readLake : ByteArray := prog_14_method_17_code
def yX12_readLake : MethodName := ⟨RX12, "readLake", "(I)Z"⟩
abbrev cX12_readBoat : ByteArray := prog_14_method_18_code
def yX12_readBoat : MethodName := ⟨RX12, "readBoat", "(I)Z"⟩
abbrev cX12_ofBoat : ByteArray := prog_14_method_19_code
def yX12_ofBoat : MethodName := ⟨RX12, "ofBoat", "(II)I"⟩
abbrev cX12_wind : ByteArray := prog_14_method_20_code
def yX12_wind : MethodName := ⟨RX12, "wind", "(II)I"⟩
abbrev cX12_isle : ByteArray := prog_14_method_21_code
def yX12_isle : MethodName := ⟨RX12, "isle", "(IZ)I"⟩
abbrev cX12_asNumber : ByteArray := prog_14_method_22_code
def yX12_asNumber : MethodName := ⟨RX12, "asNumber", "()I"⟩
abbrev cX12_asPlaces : ByteArray := prog_14_method_23_code
def yX12_asPlaces : MethodName := ⟨RX12, "asPlaces", "(I)V"⟩
abbrev cX12_begins : ByteArray := prog_14_method_24_code
def yX12_begins : MethodName := ⟨RX12, "begins", "(Z)I"⟩
abbrev cX12_isOver : ByteArray := prog_14_method_25_code
def yX12_isOver : MethodName := ⟨RX12, "isOver", "(I)Z"⟩
abbrev cX12_over : ByteArray := prog_14_method_26_code
def yX12_over : MethodName := ⟨RX12, "over", "()I"⟩
abbrev cX12_isWith : ByteArray := prog_14_method_27_code
def yX12_isWith : MethodName := ⟨RX12, "isWith", "(II)Z"⟩
abbrev cX12_finedBy : ByteArray := prog_14_method_28_code
def yX12_finedBy : MethodName := ⟨RX12, "finedBy", "(II)I"⟩
abbrev cX12_bounded : ByteArray := prog_14_method_29_code
def yX12_bounded : MethodName := ⟨RX12, "bounded", "(I)I"⟩
abbrev cX12_goHour : ByteArray := prog_14_method_30_code
def yX12_goHour : MethodName := ⟨RX12, "goHour", "(II)V"⟩
abbrev cX12_layPlan : ByteArray := prog_14_method_31_code
def yX12_layPlan : MethodName := ⟨RX12, "layPlan", "(IIII)I"⟩
abbrev cX12_isRow : ByteArray := prog_14_method_32_code
def yX12_isRow : MethodName := ⟨RX12, "isRow", "(II)Z"⟩
abbrev cX12_goPlan : ByteArray := prog_14_method_33_code
def yX12_goPlan : MethodName := ⟨RX12, "goPlan", "()V"⟩
abbrev cX12_plan : ByteArray := prog_14_method_34_code
def yX12_plan : MethodName := ⟨RX12, "plan", "(IIIII)I"⟩
abbrev cX12_isThere : ByteArray := prog_14_method_35_code
def yX12_isThere : MethodName := ⟨RX12, "isThere", "(I)Z"⟩
abbrev cX12_goAll : ByteArray := prog_14_method_36_code
def yX12_goAll : MethodName := ⟨RX12, "goAll", "(I)V"⟩
abbrev cX12_soonestOf : ByteArray := prog_14_method_37_code
def yX12_soonestOf : MethodName := ⟨RX12, "soonestOf", "(I)I"⟩
abbrev cX12_soonest : ByteArray := prog_14_method_38_code
def yX12_soonest : MethodName := ⟨RX12, "soonest", "(I)I"⟩
abbrev cX12_isInTime : ByteArray := prog_14_method_39_code
def yX12_isInTime : MethodName := ⟨RX12, "isInTime", "(II)Z"⟩
abbrev cX12_isByTwo : ByteArray := prog_14_method_40_code
def yX12_isByTwo : MethodName := ⟨RX12, "isByTwo", "(IIII)Z"⟩
abbrev cX12_isByOne : ByteArray := prog_14_method_41_code
def yX12_isByOne : MethodName := ⟨RX12, "isByOne", "(III)Z"⟩
abbrev cX12_hats : ByteArray := prog_14_method_42_code
def yX12_hats : MethodName := ⟨RX12, "hats", "(II)I"⟩
abbrev cX12_rid : ByteArray := prog_14_method_43_code
def yX12_rid : MethodName := ⟨RX12, "rid", "(I)I"⟩
abbrev cX12_reading : ByteArray := prog_14_method_44_code
def yX12_reading : MethodName := ⟨RX12, "reading", "(III)I"⟩
abbrev cX12_back : ByteArray := prog_14_method_45_code
def yX12_back : MethodName := ⟨RX12, "back", "(I)I"⟩
abbrev cX12_areSo : ByteArray := prog_14_method_46_code
def yX12_areSo : MethodName := ⟨RX12, "areSo", "()Z"⟩
abbrev cX12_lay : ByteArray := prog_14_method_47_code
def yX12_lay : MethodName := ⟨RX12, "lay", "(IIIII)I"⟩
abbrev cX12_winds : ByteArray := prog_14_method_48_code
def yX12_winds : MethodName := ⟨RX12, "winds", "(IIIII)I"⟩
abbrev cX12_kinds : ByteArray := prog_14_method_49_code
def yX12_kinds : MethodName := ⟨RX12, "kinds", "(IIIII)I"⟩
abbrev cX12_speeds : ByteArray := prog_14_method_50_code
def yX12_speeds : MethodName := ⟨RX12, "speeds", "(IIIII)I"⟩
abbrev cX12_inLeastTerms : ByteArray := prog_14_method_51_code
def yX12_inLeastTerms : MethodName := ⟨RX12, "inLeastTerms", "(JJI)J"⟩
abbrev cX12_isFree : ByteArray := prog_14_method_52_code
def yX12_isFree : MethodName := ⟨RX12, "isFree", "(I)Z"⟩
abbrev cX12_odds : ByteArray := prog_14_method_53_code
def yX12_odds : MethodName := ⟨RX12, "odds", "(IIIII)J"⟩
abbrev cX12_sheet : ByteArray := prog_14_method_54_code
def yX12_sheet : MethodName := ⟨RX12, "sheet", "(III)I"⟩
abbrev cX12_lose : ByteArray := prog_14_method_55_code
def yX12_lose : MethodName := ⟨RX12, "lose", "(I)I"⟩
abbrev cX12_put : ByteArray := prog_14_method_56_code
def yX12_put : MethodName := ⟨RX12, "put", "(III)I"⟩
abbrev cX12_cell : ByteArray := prog_14_method_57_code
def yX12_cell : MethodName := ⟨RX12, "cell", "(III)J"⟩
abbrev cX12_copy : ByteArray := prog_14_method_58_code
def yX12_copy : MethodName := ⟨RX12, "copy", "(IIIII)I"⟩
abbrev cX12_leaves : ByteArray := prog_14_method_59_code
def yX12_leaves : MethodName := ⟨RX12, "leaves", "(I)V"⟩
abbrev cX12_tell : ByteArray := prog_14_method_60_code
def yX12_tell : MethodName := ⟨RX12, "tell", "(I)I"⟩
abbrev cX12_hail : ByteArray := prog_14_method_61_code
def yX12_hail : MethodName := ⟨RX12, "hail", "(I)I"⟩
abbrev cX12_as : ByteArray := prog_14_method_62_code
def yX12_as : MethodName := ⟨RX12, "as", "(II)I"⟩
abbrev cX12_trace : ByteArray := prog_14_method_63_code
def yX12_trace : MethodName := ⟨RX12, "trace", "()I"⟩
abbrev cX12_fault : ByteArray := prog_14_method_64_code
def yX12_fault : MethodName := ⟨RX12, "fault", "()I"⟩
abbrev cX12_many : ByteArray := prog_14_method_65_code
def yX12_many : MethodName := ⟨RX12, "many", "(I)I"⟩
def RL : String := "LakeWindLaw"
abbrev cL_law : ByteArray := code
abbrev vwCl : List vw_C := [(RX0, TX0, 3), (RX1, TX1, 6), (RX2, TX2, 3), (RX3, TX3, 4), (RX4, TX4, 13), (RX5, TX5, 3), (RX6, TX6, 2), (RX7, TX7, 4), (RX8, TX8, 3), (RX9, TX9, 1), (RX10, TX10, 4), (RX11, TX11, 12), (RX12, TX12, 32)]
