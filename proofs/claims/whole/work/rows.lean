section
-- ===== PART A: goes FIRST, ahead of the names: the tables' words, and 'selects' of the private methods out of them =====
/-- a private method of a class that the tables say can be made, by its rows of tables_1 -/
def lw_okq (q : MethodName × Nat) : Prop := (q.1.cls ≠ "java/lang/invoke/MethodHandle" ∧ q.1.cls ≠ "java/lang/invoke/VarHandle") ∧ Cond.instantiable q.1.cls q.2 ∈ tables_1 ∧ Cond.privateMethod q.1 ∈ tables_1 ∧ Cond.instanceMethod q.1 ∈ tables_1
theorem lw_p0 : lw_okq (⟨"LakeWind", "faulted", "(I)I"⟩, 12) := ⟨⟨by decide +kernel, by decide +kernel⟩, List.mem_of_getElem? (i := 18) (by decide +kernel), List.mem_of_getElem? (i := 320) (by decide +kernel), List.mem_of_getElem? (i := 321) (by decide +kernel)⟩
theorem lw_p1 : lw_okq (⟨"LakeWind$Text", "skip", "(I)Z"⟩, 4) := ⟨⟨by decide +kernel, by decide +kernel⟩, List.mem_of_getElem? (i := 28) (by decide +kernel), List.mem_of_getElem? (i := 336) (by decide +kernel), List.mem_of_getElem? (i := 337) (by decide +kernel)⟩
theorem lw_p2 : lw_okq (⟨"LakeWind$Text", "isNext", "(I)Z"⟩, 4) := ⟨⟨by decide +kernel, by decide +kernel⟩, List.mem_of_getElem? (i := 28) (by decide +kernel), List.mem_of_getElem? (i := 340) (by decide +kernel), List.mem_of_getElem? (i := 341) (by decide +kernel)⟩
theorem lw_p3 : lw_okq (⟨"LakeWind$Text", "digit", "(II)I"⟩, 4) := ⟨⟨by decide +kernel, by decide +kernel⟩, List.mem_of_getElem? (i := 28) (by decide +kernel), List.mem_of_getElem? (i := 344) (by decide +kernel), List.mem_of_getElem? (i := 345) (by decide +kernel)⟩
theorem lw_p4 : lw_okq (⟨"LakeWind$Text", "windSign", "()I"⟩, 4) := ⟨⟨by decide +kernel, by decide +kernel⟩, List.mem_of_getElem? (i := 28) (by decide +kernel), List.mem_of_getElem? (i := 352) (by decide +kernel), List.mem_of_getElem? (i := 353) (by decide +kernel)⟩
theorem lw_p5 : lw_okq (⟨"LakeWind$Text", "readBoat", "(LLakeWind$Lake;I)Z"⟩, 4) := ⟨⟨by decide +kernel, by decide +kernel⟩, List.mem_of_getElem? (i := 28) (by decide +kernel), List.mem_of_getElem? (i := 360) (by decide +kernel), List.mem_of_getElem? (i := 361) (by decide +kernel)⟩
theorem lw_p6 : lw_okq (⟨"LakeWind$Text", "kindLetter", "()I"⟩, 4) := ⟨⟨by decide +kernel, by decide +kernel⟩, List.mem_of_getElem? (i := 28) (by decide +kernel), List.mem_of_getElem? (i := 364) (by decide +kernel), List.mem_of_getElem? (i := 365) (by decide +kernel)⟩
theorem lw_p7 : lw_okq (⟨"LakeWind", "takeSpareWater", "()V"⟩, 12) := ⟨⟨by decide +kernel, by decide +kernel⟩, List.mem_of_getElem? (i := 18) (by decide +kernel), List.mem_of_getElem? (i := 393) (by decide +kernel), List.mem_of_getElem? (i := 394) (by decide +kernel)⟩
theorem lw_p8 : lw_okq (⟨"LakeWind", "isBoat", "(I)Z"⟩, 12) := ⟨⟨by decide +kernel, by decide +kernel⟩, List.mem_of_getElem? (i := 18) (by decide +kernel), List.mem_of_getElem? (i := 401) (by decide +kernel), List.mem_of_getElem? (i := 402) (by decide +kernel)⟩
theorem lw_p9 : lw_okq (⟨"LakeWind", "isHour", "(I)Z"⟩, 12) := ⟨⟨by decide +kernel, by decide +kernel⟩, List.mem_of_getElem? (i := 18) (by decide +kernel), List.mem_of_getElem? (i := 435) (by decide +kernel), List.mem_of_getElem? (i := 436) (by decide +kernel)⟩
theorem lw_p10 : lw_okq (⟨"LakeWind", "refusalOfRow", "(III)I"⟩, 12) := ⟨⟨by decide +kernel, by decide +kernel⟩, List.mem_of_getElem? (i := 18) (by decide +kernel), List.mem_of_getElem? (i := 451) (by decide +kernel), List.mem_of_getElem? (i := 452) (by decide +kernel)⟩
theorem lw_p11 : lw_okq (⟨"LakeWind", "takeOrders", "(IIII)I"⟩, 12) := ⟨⟨by decide +kernel, by decide +kernel⟩, List.mem_of_getElem? (i := 18) (by decide +kernel), List.mem_of_getElem? (i := 458) (by decide +kernel), List.mem_of_getElem? (i := 459) (by decide +kernel)⟩
theorem lw_p12 : lw_okq (⟨"LakeWind", "isSet", "(I)Z"⟩, 12) := ⟨⟨by decide +kernel, by decide +kernel⟩, List.mem_of_getElem? (i := 18) (by decide +kernel), List.mem_of_getElem? (i := 462) (by decide +kernel), List.mem_of_getElem? (i := 463) (by decide +kernel)⟩
theorem lw_p13 : lw_okq (⟨"LakeWind", "answerOfVoyage", "(I)I"⟩, 12) := ⟨⟨by decide +kernel, by decide +kernel⟩, List.mem_of_getElem? (i := 18) (by decide +kernel), List.mem_of_getElem? (i := 525) (by decide +kernel), List.mem_of_getElem? (i := 526) (by decide +kernel)⟩
theorem lw_p14 : lw_okq (⟨"LakeWind$Search", "prepare", "(LLakeWind$Lake;)V"⟩, 13) := ⟨⟨by decide +kernel, by decide +kernel⟩, List.mem_of_getElem? (i := 93) (by decide +kernel), List.mem_of_getElem? (i := 538) (by decide +kernel), List.mem_of_getElem? (i := 539) (by decide +kernel)⟩
theorem lw_p15 : lw_okq (⟨"LakeWind$Search", "fillAfter", "(LLakeWind$Lake;II)V"⟩, 13) := ⟨⟨by decide +kernel, by decide +kernel⟩, List.mem_of_getElem? (i := 93) (by decide +kernel), List.mem_of_getElem? (i := 556) (by decide +kernel), List.mem_of_getElem? (i := 557) (by decide +kernel)⟩
def lw_privs_1 : List (MethodName × Nat) := [(⟨"LakeWind", "faulted", "(I)I"⟩, 12), (⟨"LakeWind$Text", "skip", "(I)Z"⟩, 4), (⟨"LakeWind$Text", "isNext", "(I)Z"⟩, 4), (⟨"LakeWind$Text", "digit", "(II)I"⟩, 4), (⟨"LakeWind$Text", "windSign", "()I"⟩, 4), (⟨"LakeWind$Text", "readBoat", "(LLakeWind$Lake;I)Z"⟩, 4), (⟨"LakeWind$Text", "kindLetter", "()I"⟩, 4), (⟨"LakeWind", "takeSpareWater", "()V"⟩, 12), (⟨"LakeWind", "isBoat", "(I)Z"⟩, 12), (⟨"LakeWind", "isHour", "(I)Z"⟩, 12), (⟨"LakeWind", "refusalOfRow", "(III)I"⟩, 12), (⟨"LakeWind", "takeOrders", "(IIII)I"⟩, 12), (⟨"LakeWind", "isSet", "(I)Z"⟩, 12), (⟨"LakeWind", "answerOfVoyage", "(I)I"⟩, 12), (⟨"LakeWind$Search", "prepare", "(LLakeWind$Lake;)V"⟩, 13), (⟨"LakeWind$Search", "fillAfter", "(LLakeWind$Lake;II)V"⟩, 13)]
theorem lw_r1 : ∀ q ∈ lw_privs_1, lw_okq q := List.forall_mem_cons.mpr ⟨lw_p0, List.forall_mem_cons.mpr ⟨lw_p1, List.forall_mem_cons.mpr ⟨lw_p2, List.forall_mem_cons.mpr ⟨lw_p3, List.forall_mem_cons.mpr ⟨lw_p4, List.forall_mem_cons.mpr ⟨lw_p5, List.forall_mem_cons.mpr ⟨lw_p6, List.forall_mem_cons.mpr ⟨lw_p7, List.forall_mem_cons.mpr ⟨lw_p8, List.forall_mem_cons.mpr ⟨lw_p9, List.forall_mem_cons.mpr ⟨lw_p10, List.forall_mem_cons.mpr ⟨lw_p11, List.forall_mem_cons.mpr ⟨lw_p12, List.forall_mem_cons.mpr ⟨lw_p13, List.forall_mem_cons.mpr ⟨lw_p14, List.forall_mem_cons.mpr ⟨lw_p15, fun _ h => absurd h List.not_mem_nil⟩⟩⟩⟩⟩⟩⟩⟩⟩⟩⟩⟩⟩⟩⟩⟩
theorem lw_p16 : lw_okq (⟨"LakeWind$Search", "findEnds", "(LLakeWind$Lake;I)I"⟩, 13) := ⟨⟨by decide +kernel, by decide +kernel⟩, List.mem_of_getElem? (i := 93) (by decide +kernel), List.mem_of_getElem? (i := 560) (by decide +kernel), List.mem_of_getElem? (i := 561) (by decide +kernel)⟩
theorem lw_p17 : lw_okq (⟨"LakeWind$Search", "startNow", "()V"⟩, 13) := ⟨⟨by decide +kernel, by decide +kernel⟩, List.mem_of_getElem? (i := 93) (by decide +kernel), List.mem_of_getElem? (i := 578) (by decide +kernel), List.mem_of_getElem? (i := 579) (by decide +kernel)⟩
theorem lw_p18 : lw_okq (⟨"LakeWind$Search", "isOverInSome", "(LLakeWind$States;I)Z"⟩, 13) := ⟨⟨by decide +kernel, by decide +kernel⟩, List.mem_of_getElem? (i := 93) (by decide +kernel), List.mem_of_getElem? (i := 582) (by decide +kernel), List.mem_of_getElem? (i := 583) (by decide +kernel)⟩
theorem lw_p19 : lw_okq (⟨"LakeWind$Search", "advance", "(LLakeWind$States;I)V"⟩, 13) := ⟨⟨by decide +kernel, by decide +kernel⟩, List.mem_of_getElem? (i := 93) (by decide +kernel), List.mem_of_getElem? (i := 590) (by decide +kernel), List.mem_of_getElem? (i := 591) (by decide +kernel)⟩
theorem lw_p20 : lw_okq (⟨"LakeWind$Search", "addAfter", "(LLakeWind$States;ILLakeWind$States;)V"⟩, 13) := ⟨⟨by decide +kernel, by decide +kernel⟩, List.mem_of_getElem? (i := 93) (by decide +kernel), List.mem_of_getElem? (i := 594) (by decide +kernel), List.mem_of_getElem? (i := 595) (by decide +kernel)⟩
theorem lw_p21 : lw_okq (⟨"LakeWind$Search", "fillGood", "(LLakeWind$Lake;II)V"⟩, 13) := ⟨⟨by decide +kernel, by decide +kernel⟩, List.mem_of_getElem? (i := 93) (by decide +kernel), List.mem_of_getElem? (i := 615) (by decide +kernel), List.mem_of_getElem? (i := 616) (by decide +kernel)⟩
theorem lw_p22 : lw_okq (⟨"LakeWind$Search", "fillGoodAhead", "(LLakeWind$States;ILLakeWind$States;)V"⟩, 13) := ⟨⟨by decide +kernel, by decide +kernel⟩, List.mem_of_getElem? (i := 93) (by decide +kernel), List.mem_of_getElem? (i := 619) (by decide +kernel), List.mem_of_getElem? (i := 620) (by decide +kernel)⟩
theorem lw_p23 : lw_okq (⟨"LakeWind$Search", "leastHat", "(LLakeWind$Lake;I)I"⟩, 13) := ⟨⟨by decide +kernel, by decide +kernel⟩, List.mem_of_getElem? (i := 93) (by decide +kernel), List.mem_of_getElem? (i := 627) (by decide +kernel), List.mem_of_getElem? (i := 628) (by decide +kernel)⟩
theorem lw_p24 : lw_okq (⟨"LakeWind$Search", "throwHat", "(LLakeWind$States;ILLakeWind$States;)V"⟩, 13) := ⟨⟨by decide +kernel, by decide +kernel⟩, List.mem_of_getElem? (i := 93) (by decide +kernel), List.mem_of_getElem? (i := 631) (by decide +kernel), List.mem_of_getElem? (i := 632) (by decide +kernel)⟩
theorem lw_p25 : lw_okq (⟨"LakeWind$Search", "leastTwoHats", "(LLakeWind$Lake;I)I"⟩, 13) := ⟨⟨by decide +kernel, by decide +kernel⟩, List.mem_of_getElem? (i := 93) (by decide +kernel), List.mem_of_getElem? (i := 635) (by decide +kernel), List.mem_of_getElem? (i := 636) (by decide +kernel)⟩
theorem lw_p26 : lw_okq (⟨"LakeWind", "bitIfAsRead", "(II)I"⟩, 12) := ⟨⟨by decide +kernel, by decide +kernel⟩, List.mem_of_getElem? (i := 18) (by decide +kernel), List.mem_of_getElem? (i := 659) (by decide +kernel), List.mem_of_getElem? (i := 660) (by decide +kernel)⟩
theorem lw_p27 : lw_okq (⟨"LakeWind", "refusalOfBoatPlan", "(IIIII)I"⟩, 12) := ⟨⟨by decide +kernel, by decide +kernel⟩, List.mem_of_getElem? (i := 18) (by decide +kernel), List.mem_of_getElem? (i := 677) (by decide +kernel), List.mem_of_getElem? (i := 678) (by decide +kernel)⟩
theorem lw_p28 : lw_okq (⟨"LakeWind", "waysWithoutFine", "(I)I"⟩, 12) := ⟨⟨by decide +kernel, by decide +kernel⟩, List.mem_of_getElem? (i := 18) (by decide +kernel), List.mem_of_getElem? (i := 691) (by decide +kernel), List.mem_of_getElem? (i := 692) (by decide +kernel)⟩
theorem lw_p29 : lw_okq (⟨"LakeWind", "sailByChance", "(II)V"⟩, 12) := ⟨⟨by decide +kernel, by decide +kernel⟩, List.mem_of_getElem? (i := 18) (by decide +kernel), List.mem_of_getElem? (i := 700) (by decide +kernel), List.mem_of_getElem? (i := 701) (by decide +kernel)⟩
theorem lw_p30 : lw_okq (⟨"LakeWindModel", "against", "(IIII)I"⟩, 32) := ⟨⟨by decide +kernel, by decide +kernel⟩, List.mem_of_getElem? (i := 800) (by decide +kernel), List.mem_of_getElem? (i := 917) (by decide +kernel), List.mem_of_getElem? (i := 918) (by decide +kernel)⟩
theorem lw_p31 : lw_okq (⟨"LakeWindModel", "fails", "(I)I"⟩, 32) := ⟨⟨by decide +kernel, by decide +kernel⟩, List.mem_of_getElem? (i := 800) (by decide +kernel), List.mem_of_getElem? (i := 921) (by decide +kernel), List.mem_of_getElem? (i := 922) (by decide +kernel)⟩
def lw_privs_2 : List (MethodName × Nat) := [(⟨"LakeWind$Search", "findEnds", "(LLakeWind$Lake;I)I"⟩, 13), (⟨"LakeWind$Search", "startNow", "()V"⟩, 13), (⟨"LakeWind$Search", "isOverInSome", "(LLakeWind$States;I)Z"⟩, 13), (⟨"LakeWind$Search", "advance", "(LLakeWind$States;I)V"⟩, 13), (⟨"LakeWind$Search", "addAfter", "(LLakeWind$States;ILLakeWind$States;)V"⟩, 13), (⟨"LakeWind$Search", "fillGood", "(LLakeWind$Lake;II)V"⟩, 13), (⟨"LakeWind$Search", "fillGoodAhead", "(LLakeWind$States;ILLakeWind$States;)V"⟩, 13), (⟨"LakeWind$Search", "leastHat", "(LLakeWind$Lake;I)I"⟩, 13), (⟨"LakeWind$Search", "throwHat", "(LLakeWind$States;ILLakeWind$States;)V"⟩, 13), (⟨"LakeWind$Search", "leastTwoHats", "(LLakeWind$Lake;I)I"⟩, 13), (⟨"LakeWind", "bitIfAsRead", "(II)I"⟩, 12), (⟨"LakeWind", "refusalOfBoatPlan", "(IIIII)I"⟩, 12), (⟨"LakeWind", "waysWithoutFine", "(I)I"⟩, 12), (⟨"LakeWind", "sailByChance", "(II)V"⟩, 12), (⟨"LakeWindModel", "against", "(IIII)I"⟩, 32), (⟨"LakeWindModel", "fails", "(I)I"⟩, 32)]
theorem lw_r2 : ∀ q ∈ lw_privs_2, lw_okq q := List.forall_mem_cons.mpr ⟨lw_p16, List.forall_mem_cons.mpr ⟨lw_p17, List.forall_mem_cons.mpr ⟨lw_p18, List.forall_mem_cons.mpr ⟨lw_p19, List.forall_mem_cons.mpr ⟨lw_p20, List.forall_mem_cons.mpr ⟨lw_p21, List.forall_mem_cons.mpr ⟨lw_p22, List.forall_mem_cons.mpr ⟨lw_p23, List.forall_mem_cons.mpr ⟨lw_p24, List.forall_mem_cons.mpr ⟨lw_p25, List.forall_mem_cons.mpr ⟨lw_p26, List.forall_mem_cons.mpr ⟨lw_p27, List.forall_mem_cons.mpr ⟨lw_p28, List.forall_mem_cons.mpr ⟨lw_p29, List.forall_mem_cons.mpr ⟨lw_p30, List.forall_mem_cons.mpr ⟨lw_p31, fun _ h => absurd h List.not_mem_nil⟩⟩⟩⟩⟩⟩⟩⟩⟩⟩⟩⟩⟩⟩⟩⟩
theorem lw_p32 : lw_okq (⟨"LakeWindModel", "readLake", "(I)Z"⟩, 32) := ⟨⟨by decide +kernel, by decide +kernel⟩, List.mem_of_getElem? (i := 800) (by decide +kernel), List.mem_of_getElem? (i := 925) (by decide +kernel), List.mem_of_getElem? (i := 926) (by decide +kernel)⟩
theorem lw_p33 : lw_okq (⟨"LakeWindModel", "isSign", "(II)Z"⟩, 32) := ⟨⟨by decide +kernel, by decide +kernel⟩, List.mem_of_getElem? (i := 800) (by decide +kernel), List.mem_of_getElem? (i := 929) (by decide +kernel), List.mem_of_getElem? (i := 930) (by decide +kernel)⟩
theorem lw_p34 : lw_okq (⟨"LakeWindModel", "digit", "(III)I"⟩, 32) := ⟨⟨by decide +kernel, by decide +kernel⟩, List.mem_of_getElem? (i := 800) (by decide +kernel), List.mem_of_getElem? (i := 933) (by decide +kernel), List.mem_of_getElem? (i := 934) (by decide +kernel)⟩
theorem lw_p35 : lw_okq (⟨"LakeWindModel", "readBoat", "(I)Z"⟩, 32) := ⟨⟨by decide +kernel, by decide +kernel⟩, List.mem_of_getElem? (i := 800) (by decide +kernel), List.mem_of_getElem? (i := 940) (by decide +kernel), List.mem_of_getElem? (i := 941) (by decide +kernel)⟩
theorem lw_p36 : lw_okq (⟨"LakeWindModel", "takeLake", "()V"⟩, 32) := ⟨⟨by decide +kernel, by decide +kernel⟩, List.mem_of_getElem? (i := 800) (by decide +kernel), List.mem_of_getElem? (i := 944) (by decide +kernel), List.mem_of_getElem? (i := 945) (by decide +kernel)⟩
theorem lw_p37 : lw_okq (⟨"LakeWindModel", "isBoat", "(I)Z"⟩, 32) := ⟨⟨by decide +kernel, by decide +kernel⟩, List.mem_of_getElem? (i := 800) (by decide +kernel), List.mem_of_getElem? (i := 952) (by decide +kernel), List.mem_of_getElem? (i := 953) (by decide +kernel)⟩
theorem lw_p38 : lw_okq (⟨"LakeWindModel", "isHour", "(I)Z"⟩, 32) := ⟨⟨by decide +kernel, by decide +kernel⟩, List.mem_of_getElem? (i := 800) (by decide +kernel), List.mem_of_getElem? (i := 960) (by decide +kernel), List.mem_of_getElem? (i := 961) (by decide +kernel)⟩
theorem lw_p39 : lw_okq (⟨"LakeWindModel", "layPlan", "(IIII)I"⟩, 32) := ⟨⟨by decide +kernel, by decide +kernel⟩, List.mem_of_getElem? (i := 800) (by decide +kernel), List.mem_of_getElem? (i := 975) (by decide +kernel), List.mem_of_getElem? (i := 976) (by decide +kernel)⟩
theorem lw_p40 : lw_okq (⟨"LakeWindModel", "all", "()I"⟩, 32) := ⟨⟨by decide +kernel, by decide +kernel⟩, List.mem_of_getElem? (i := 800) (by decide +kernel), List.mem_of_getElem? (i := 979) (by decide +kernel), List.mem_of_getElem? (i := 980) (by decide +kernel)⟩
theorem lw_p41 : lw_okq (⟨"LakeWindModel", "goPlan", "()V"⟩, 32) := ⟨⟨by decide +kernel, by decide +kernel⟩, List.mem_of_getElem? (i := 800) (by decide +kernel), List.mem_of_getElem? (i := 983) (by decide +kernel), List.mem_of_getElem? (i := 984) (by decide +kernel)⟩
theorem lw_p42 : lw_okq (⟨"LakeWindModel", "begins", "(Z)I"⟩, 32) := ⟨⟨by decide +kernel, by decide +kernel⟩, List.mem_of_getElem? (i := 800) (by decide +kernel), List.mem_of_getElem? (i := 987) (by decide +kernel), List.mem_of_getElem? (i := 988) (by decide +kernel)⟩
theorem lw_p43 : lw_okq (⟨"LakeWindModel", "asNumber", "()I"⟩, 32) := ⟨⟨by decide +kernel, by decide +kernel⟩, List.mem_of_getElem? (i := 800) (by decide +kernel), List.mem_of_getElem? (i := 991) (by decide +kernel), List.mem_of_getElem? (i := 992) (by decide +kernel)⟩
theorem lw_p44 : lw_okq (⟨"LakeWindModel", "finedBy", "(II)I"⟩, 32) := ⟨⟨by decide +kernel, by decide +kernel⟩, List.mem_of_getElem? (i := 800) (by decide +kernel), List.mem_of_getElem? (i := 995) (by decide +kernel), List.mem_of_getElem? (i := 996) (by decide +kernel)⟩
theorem lw_p45 : lw_okq (⟨"LakeWindModel", "isOver", "(I)Z"⟩, 32) := ⟨⟨by decide +kernel, by decide +kernel⟩, List.mem_of_getElem? (i := 800) (by decide +kernel), List.mem_of_getElem? (i := 999) (by decide +kernel), List.mem_of_getElem? (i := 1000) (by decide +kernel)⟩
theorem lw_p46 : lw_okq (⟨"LakeWindModel", "isWith", "(II)Z"⟩, 32) := ⟨⟨by decide +kernel, by decide +kernel⟩, List.mem_of_getElem? (i := 800) (by decide +kernel), List.mem_of_getElem? (i := 1003) (by decide +kernel), List.mem_of_getElem? (i := 1004) (by decide +kernel)⟩
theorem lw_p47 : lw_okq (⟨"LakeWindModel", "goHour", "(II)V"⟩, 32) := ⟨⟨by decide +kernel, by decide +kernel⟩, List.mem_of_getElem? (i := 800) (by decide +kernel), List.mem_of_getElem? (i := 1007) (by decide +kernel), List.mem_of_getElem? (i := 1008) (by decide +kernel)⟩
def lw_privs_3 : List (MethodName × Nat) := [(⟨"LakeWindModel", "readLake", "(I)Z"⟩, 32), (⟨"LakeWindModel", "isSign", "(II)Z"⟩, 32), (⟨"LakeWindModel", "digit", "(III)I"⟩, 32), (⟨"LakeWindModel", "readBoat", "(I)Z"⟩, 32), (⟨"LakeWindModel", "takeLake", "()V"⟩, 32), (⟨"LakeWindModel", "isBoat", "(I)Z"⟩, 32), (⟨"LakeWindModel", "isHour", "(I)Z"⟩, 32), (⟨"LakeWindModel", "layPlan", "(IIII)I"⟩, 32), (⟨"LakeWindModel", "all", "()I"⟩, 32), (⟨"LakeWindModel", "goPlan", "()V"⟩, 32), (⟨"LakeWindModel", "begins", "(Z)I"⟩, 32), (⟨"LakeWindModel", "asNumber", "()I"⟩, 32), (⟨"LakeWindModel", "finedBy", "(II)I"⟩, 32), (⟨"LakeWindModel", "isOver", "(I)Z"⟩, 32), (⟨"LakeWindModel", "isWith", "(II)Z"⟩, 32), (⟨"LakeWindModel", "goHour", "(II)V"⟩, 32)]
theorem lw_r3 : ∀ q ∈ lw_privs_3, lw_okq q := List.forall_mem_cons.mpr ⟨lw_p32, List.forall_mem_cons.mpr ⟨lw_p33, List.forall_mem_cons.mpr ⟨lw_p34, List.forall_mem_cons.mpr ⟨lw_p35, List.forall_mem_cons.mpr ⟨lw_p36, List.forall_mem_cons.mpr ⟨lw_p37, List.forall_mem_cons.mpr ⟨lw_p38, List.forall_mem_cons.mpr ⟨lw_p39, List.forall_mem_cons.mpr ⟨lw_p40, List.forall_mem_cons.mpr ⟨lw_p41, List.forall_mem_cons.mpr ⟨lw_p42, List.forall_mem_cons.mpr ⟨lw_p43, List.forall_mem_cons.mpr ⟨lw_p44, List.forall_mem_cons.mpr ⟨lw_p45, List.forall_mem_cons.mpr ⟨lw_p46, List.forall_mem_cons.mpr ⟨lw_p47, fun _ h => absurd h List.not_mem_nil⟩⟩⟩⟩⟩⟩⟩⟩⟩⟩⟩⟩⟩⟩⟩⟩
theorem lw_p48 : lw_okq (⟨"LakeWindModel", "bounded", "(I)I"⟩, 32) := ⟨⟨by decide +kernel, by decide +kernel⟩, List.mem_of_getElem? (i := 800) (by decide +kernel), List.mem_of_getElem? (i := 1011) (by decide +kernel), List.mem_of_getElem? (i := 1012) (by decide +kernel)⟩
theorem lw_p49 : lw_okq (⟨"LakeWindModel", "over", "()I"⟩, 32) := ⟨⟨by decide +kernel, by decide +kernel⟩, List.mem_of_getElem? (i := 800) (by decide +kernel), List.mem_of_getElem? (i := 1015) (by decide +kernel), List.mem_of_getElem? (i := 1016) (by decide +kernel)⟩
theorem lw_p50 : lw_okq (⟨"LakeWindModel", "soonestOf", "(I)I"⟩, 32) := ⟨⟨by decide +kernel, by decide +kernel⟩, List.mem_of_getElem? (i := 800) (by decide +kernel), List.mem_of_getElem? (i := 1023) (by decide +kernel), List.mem_of_getElem? (i := 1024) (by decide +kernel)⟩
theorem lw_p51 : lw_okq (⟨"LakeWindModel", "isThere", "(I)Z"⟩, 32) := ⟨⟨by decide +kernel, by decide +kernel⟩, List.mem_of_getElem? (i := 800) (by decide +kernel), List.mem_of_getElem? (i := 1027) (by decide +kernel), List.mem_of_getElem? (i := 1028) (by decide +kernel)⟩
theorem lw_p52 : lw_okq (⟨"LakeWindModel", "asPlaces", "(I)V"⟩, 32) := ⟨⟨by decide +kernel, by decide +kernel⟩, List.mem_of_getElem? (i := 800) (by decide +kernel), List.mem_of_getElem? (i := 1031) (by decide +kernel), List.mem_of_getElem? (i := 1032) (by decide +kernel)⟩
theorem lw_p53 : lw_okq (⟨"LakeWindModel", "goAll", "(I)V"⟩, 32) := ⟨⟨by decide +kernel, by decide +kernel⟩, List.mem_of_getElem? (i := 800) (by decide +kernel), List.mem_of_getElem? (i := 1035) (by decide +kernel), List.mem_of_getElem? (i := 1036) (by decide +kernel)⟩
theorem lw_p54 : lw_okq (⟨"LakeWindModel", "isInTime", "(II)Z"⟩, 32) := ⟨⟨by decide +kernel, by decide +kernel⟩, List.mem_of_getElem? (i := 800) (by decide +kernel), List.mem_of_getElem? (i := 1043) (by decide +kernel), List.mem_of_getElem? (i := 1044) (by decide +kernel)⟩
theorem lw_p55 : lw_okq (⟨"LakeWindModel", "isByOne", "(III)Z"⟩, 32) := ⟨⟨by decide +kernel, by decide +kernel⟩, List.mem_of_getElem? (i := 800) (by decide +kernel), List.mem_of_getElem? (i := 1047) (by decide +kernel), List.mem_of_getElem? (i := 1048) (by decide +kernel)⟩
theorem lw_p56 : lw_okq (⟨"LakeWindModel", "isByTwo", "(IIII)Z"⟩, 32) := ⟨⟨by decide +kernel, by decide +kernel⟩, List.mem_of_getElem? (i := 800) (by decide +kernel), List.mem_of_getElem? (i := 1051) (by decide +kernel), List.mem_of_getElem? (i := 1052) (by decide +kernel)⟩
theorem lw_p57 : lw_okq (⟨"LakeWindModel", "lay", "(IIIII)I"⟩, 32) := ⟨⟨by decide +kernel, by decide +kernel⟩, List.mem_of_getElem? (i := 800) (by decide +kernel), List.mem_of_getElem? (i := 1071) (by decide +kernel), List.mem_of_getElem? (i := 1072) (by decide +kernel)⟩
theorem lw_p58 : lw_okq (⟨"LakeWindModel", "areSo", "()Z"⟩, 32) := ⟨⟨by decide +kernel, by decide +kernel⟩, List.mem_of_getElem? (i := 800) (by decide +kernel), List.mem_of_getElem? (i := 1075) (by decide +kernel), List.mem_of_getElem? (i := 1076) (by decide +kernel)⟩
theorem lw_p59 : lw_okq (⟨"LakeWindModel", "isFree", "(I)Z"⟩, 32) := ⟨⟨by decide +kernel, by decide +kernel⟩, List.mem_of_getElem? (i := 800) (by decide +kernel), List.mem_of_getElem? (i := 1092) (by decide +kernel), List.mem_of_getElem? (i := 1093) (by decide +kernel)⟩
theorem lw_p60 : lw_okq (⟨"LakeWindModel", "lost", "(I)J"⟩, 32) := ⟨⟨by decide +kernel, by decide +kernel⟩, List.mem_of_getElem? (i := 800) (by decide +kernel), List.mem_of_getElem? (i := 1115) (by decide +kernel), List.mem_of_getElem? (i := 1116) (by decide +kernel)⟩
theorem lw_p61 : lw_okq (⟨"LakeWindModel", "leaves", "(I)V"⟩, 32) := ⟨⟨by decide +kernel, by decide +kernel⟩, List.mem_of_getElem? (i := 800) (by decide +kernel), List.mem_of_getElem? (i := 1127) (by decide +kernel), List.mem_of_getElem? (i := 1128) (by decide +kernel)⟩
def lw_privs_4 : List (MethodName × Nat) := [(⟨"LakeWindModel", "bounded", "(I)I"⟩, 32), (⟨"LakeWindModel", "over", "()I"⟩, 32), (⟨"LakeWindModel", "soonestOf", "(I)I"⟩, 32), (⟨"LakeWindModel", "isThere", "(I)Z"⟩, 32), (⟨"LakeWindModel", "asPlaces", "(I)V"⟩, 32), (⟨"LakeWindModel", "goAll", "(I)V"⟩, 32), (⟨"LakeWindModel", "isInTime", "(II)Z"⟩, 32), (⟨"LakeWindModel", "isByOne", "(III)Z"⟩, 32), (⟨"LakeWindModel", "isByTwo", "(IIII)Z"⟩, 32), (⟨"LakeWindModel", "lay", "(IIIII)I"⟩, 32), (⟨"LakeWindModel", "areSo", "()Z"⟩, 32), (⟨"LakeWindModel", "isFree", "(I)Z"⟩, 32), (⟨"LakeWindModel", "lost", "(I)J"⟩, 32), (⟨"LakeWindModel", "leaves", "(I)V"⟩, 32)]
theorem lw_r4 : ∀ q ∈ lw_privs_4, lw_okq q := List.forall_mem_cons.mpr ⟨lw_p48, List.forall_mem_cons.mpr ⟨lw_p49, List.forall_mem_cons.mpr ⟨lw_p50, List.forall_mem_cons.mpr ⟨lw_p51, List.forall_mem_cons.mpr ⟨lw_p52, List.forall_mem_cons.mpr ⟨lw_p53, List.forall_mem_cons.mpr ⟨lw_p54, List.forall_mem_cons.mpr ⟨lw_p55, List.forall_mem_cons.mpr ⟨lw_p56, List.forall_mem_cons.mpr ⟨lw_p57, List.forall_mem_cons.mpr ⟨lw_p58, List.forall_mem_cons.mpr ⟨lw_p59, List.forall_mem_cons.mpr ⟨lw_p60, List.forall_mem_cons.mpr ⟨lw_p61, fun _ h => absurd h List.not_mem_nil⟩⟩⟩⟩⟩⟩⟩⟩⟩⟩⟩⟩⟩⟩
def lw_privs : List (MethodName × Nat) := lw_privs_1 ++ (lw_privs_2 ++ (lw_privs_3 ++ (lw_privs_4)))
def lw_tbl : List Cond := k2_sels lw_privs ++ tables_1
theorem lw_privs_ok : ∀ q ∈ lw_privs, lw_okq q := by
  show ∀ q ∈ lw_privs_1 ++ (lw_privs_2 ++ (lw_privs_3 ++ (lw_privs_4))), lw_okq q
  exact List.forall_mem_append.mpr ⟨lw_r1, List.forall_mem_append.mpr ⟨lw_r2, List.forall_mem_append.mpr ⟨lw_r3, lw_r4⟩⟩⟩
def RX0 : String := "LakeWind$Boat"
def TX0 : u_T := fun k => match k with
  | 0 => ("LakeWind$Boat", "number", "I", true)
  | 1 => ("LakeWind$Boat", "from", "I", true)
  | _ => ("LakeWind$Boat", "fast", "I", true)
def tyX0 : Nat → FieldType := fun k => match k with
  | 0 => .int
  | 1 => .int
  | _ => .int
theorem nmX0 : ∀ a, a < 3 → ∀ b, b < 3 → a ≠ b → (TX0 a).2.1 ≠ (TX0 b).2.1 := by decide +kernel
theorem tyX0_ok : ∀ k, k < 3 → parseFieldDescriptor (TX0 k).2.2.1 = some (tyX0 k) := by decide +kernel
abbrev cX0_init : ByteArray := prog_2_method_1_code
def yX0_init : MethodName := ⟨RX0, "<init>", "(III)V"⟩
abbrev cX0_kindNumber : ByteArray := prog_2_method_2_code
def yX0_kindNumber : MethodName := ⟨RX0, "kindNumber", "()I"⟩
abbrev cX0_goesAgainst : ByteArray := prog_2_method_3_code
def yX0_goesAgainst : MethodName := ⟨RX0, "goesAgainst", "()I"⟩
abbrev cX0_counts : ByteArray := prog_2_method_4_code
def yX0_counts : MethodName := ⟨RX0, "counts", "()Z"⟩
abbrev cX0_telling : ByteArray := prog_2_method_5_code
def yX0_telling : MethodName := ⟨RX0, "telling", "(LLakeWind$Trace;)I"⟩
abbrev cX0_tellingOfBoat : ByteArray := prog_2_method_6_code
def yX0_tellingOfBoat : MethodName := ⟨RX0, "tellingOfBoat", "(LLakeWind$Trace;)I"⟩
abbrev cX0_hailing : ByteArray := prog_2_method_7_code
def yX0_hailing : MethodName := ⟨RX0, "hailing", "(LLakeWind$Trace;)I"⟩
def RX1 : String := "LakeWind$Lake"
def TX1 : u_T := fun k => match k with
  | 0 => ("LakeWind$Lake", "wide", "I", false)
  | 1 => ("LakeWind$Lake", "isles", "I", false)
  | 2 => ("LakeWind$Lake", "hours", "I", false)
  | 3 => ("LakeWind$Lake", "boats", "I", false)
  | 4 => ("LakeWind$Lake", "windOf", "[I", true)
  | _ => ("LakeWind$Lake", "fleet", "[LLakeWind$Boat;", true)
def tyX1 : Nat → FieldType := fun k => match k with
  | 0 => .int
  | 1 => .int
  | 2 => .int
  | 3 => .int
  | 4 => .array .int
  | _ => .array (.object "LakeWind$Boat")
theorem nmX1 : ∀ a, a < 6 → ∀ b, b < 6 → a ≠ b → (TX1 a).2.1 ≠ (TX1 b).2.1 := by decide +kernel
theorem tyX1_ok : ∀ k, k < 6 → parseFieldDescriptor (TX1 k).2.2.1 = some (tyX1 k) := by decide +kernel
abbrev cX1_init : ByteArray := prog_3_method_1_code
def yX1_init : MethodName := ⟨RX1, "<init>", "()V"⟩
abbrev cX1_drain : ByteArray := prog_3_method_2_code
def yX1_drain : MethodName := ⟨RX1, "drain", "()V"⟩
abbrev cX1_isThere : ByteArray := prog_3_method_3_code
def yX1_isThere : MethodName := ⟨RX1, "isThere", "()Z"⟩
abbrev cX1_allBoats : ByteArray := prog_3_method_4_code
def yX1_allBoats : MethodName := ⟨RX1, "allBoats", "()I"⟩
abbrev cX1_hasIsle : ByteArray := prog_3_method_5_code
def yX1_hasIsle : MethodName := ⟨RX1, "hasIsle", "(I)Z"⟩
abbrev cX1_startOf : ByteArray := prog_3_method_6_code
def yX1_startOf : MethodName := ⟨RX1, "startOf", "(LLakeWind$Boat;)I"⟩
abbrev cX1_goalOf : ByteArray := prog_3_method_7_code
def yX1_goalOf : MethodName := ⟨RX1, "goalOf", "(LLakeWind$Boat;)I"⟩
abbrev cX1_isWith : ByteArray := prog_3_method_8_code
def yX1_isWith : MethodName := ⟨RX1, "isWith", "(LLakeWind$Boat;I)Z"⟩
abbrev cX1_countsWith : ByteArray := prog_3_method_9_code
def yX1_countsWith : MethodName := ⟨RX1, "countsWith", "(LLakeWind$Boat;I)Z"⟩
abbrev cX1_cellAfter : ByteArray := prog_3_method_10_code
def yX1_cellAfter : MethodName := ⟨RX1, "cellAfter", "(LLakeWind$Boat;IIZ)I"⟩
abbrev cX1_states : ByteArray := prog_3_method_11_code
def yX1_states : MethodName := ⟨RX1, "states", "()I"⟩
def RX2 : String := "LakeWind$Oared"
def TX2 : u_T := fun k => match k with
  | 0 => ("LakeWind$Boat", "number", "I", true)
  | 1 => ("LakeWind$Boat", "from", "I", true)
  | _ => ("LakeWind$Boat", "fast", "I", true)
def tyX2 : Nat → FieldType := fun k => match k with
  | 0 => .int
  | 1 => .int
  | _ => .int
theorem nmX2 : ∀ a, a < 3 → ∀ b, b < 3 → a ≠ b → (TX2 a).2.1 ≠ (TX2 b).2.1 := by decide +kernel
theorem tyX2_ok : ∀ k, k < 3 → parseFieldDescriptor (TX2 k).2.2.1 = some (tyX2 k) := by decide +kernel
abbrev cX2_init : ByteArray := prog_4_method_1_code
def yX2_init : MethodName := ⟨RX2, "<init>", "(III)V"⟩
abbrev cX2_kindNumber : ByteArray := prog_4_method_2_code
def yX2_kindNumber : MethodName := ⟨RX2, "kindNumber", "()I"⟩
abbrev cX2_goesAgainst : ByteArray := prog_4_method_3_code
def yX2_goesAgainst : MethodName := ⟨RX2, "goesAgainst", "()I"⟩
abbrev cX2_telling : ByteArray := prog_4_method_4_code
def yX2_telling : MethodName := ⟨RX2, "telling", "(LLakeWind$Trace;)I"⟩
def RX3 : String := "LakeWind$Readings"
def TX3 : u_T := fun k => match k with
  | 0 => ("LakeWind$Readings", "count", "I", false)
  | 1 => ("LakeWind$Readings", "boatOf", "[I", true)
  | 2 => ("LakeWind$Readings", "hourOf", "[I", true)
  | _ => ("LakeWind$Readings", "cellOf", "[I", true)
def tyX3 : Nat → FieldType := fun k => match k with
  | 0 => .int
  | 1 => .array .int
  | 2 => .array .int
  | _ => .array .int
theorem nmX3 : ∀ a, a < 4 → ∀ b, b < 4 → a ≠ b → (TX3 a).2.1 ≠ (TX3 b).2.1 := by decide +kernel
theorem tyX3_ok : ∀ k, k < 4 → parseFieldDescriptor (TX3 k).2.2.1 = some (tyX3 k) := by decide +kernel
abbrev cX3_init : ByteArray := prog_5_method_1_code
def yX3_init : MethodName := ⟨RX3, "<init>", "()V"⟩
abbrev cX3_add : ByteArray := prog_5_method_2_code
def yX3_add : MethodName := ⟨RX3, "add", "(III)I"⟩
abbrev cX3_areWithin : ByteArray := prog_5_method_3_code
def yX3_areWithin : MethodName := ⟨RX3, "areWithin", "(I)Z"⟩
abbrev cX3_areSo : ByteArray := prog_5_method_4_code
def yX3_areSo : MethodName := ⟨RX3, "areSo", "(I[I)Z"⟩
def RX4 : String := "LakeWind$Search"
def TX4 : u_T := fun k => match k with
  | 0 => ("LakeWind$Search", "isStale", "Z", false)
  | 1 => ("LakeWind$Search", "states", "I", false)
  | 2 => ("LakeWind$Search", "start", "I", false)
  | 3 => ("LakeWind$Search", "lowAfter", "[J", true)
  | 4 => ("LakeWind$Search", "highAfter", "[J", true)
  | 5 => ("LakeWind$Search", "overIn", "[I", true)
  | 6 => ("LakeWind$Search", "ends", "[I", true)
  | 7 => ("LakeWind$Search", "counted", "[I", true)
  | 8 => ("LakeWind$Search", "spot", "LLakeWind$Voyage;", true)
  | 9 => ("LakeWind$Search", "now", "LLakeWind$States;", true)
  | 10 => ("LakeWind$Search", "next", "LLakeWind$States;", true)
  | 11 => ("LakeWind$Search", "good", "[LLakeWind$States;", true)
  | _ => ("LakeWind$Search", "hatted", "[LLakeWind$States;", true)
def tyX4 : Nat → FieldType := fun k => match k with
  | 0 => .boolean
  | 1 => .int
  | 2 => .int
  | 3 => .array .long
  | 4 => .array .long
  | 5 => .array .int
  | 6 => .array .int
  | 7 => .array .int
  | 8 => .object "LakeWind$Voyage"
  | 9 => .object "LakeWind$States"
  | 10 => .object "LakeWind$States"
  | 11 => .array (.object "LakeWind$States")
  | _ => .array (.object "LakeWind$States")
theorem nmX4 : ∀ a, a < 13 → ∀ b, b < 13 → a ≠ b → (TX4 a).2.1 ≠ (TX4 b).2.1 := by decide +kernel
theorem tyX4_ok : ∀ k, k < 13 → parseFieldDescriptor (TX4 k).2.2.1 = some (tyX4 k) := by decide +kernel
abbrev cX4_init : ByteArray := prog_6_method_1_code
def yX4_init : MethodName := ⟨RX4, "<init>", "()V"⟩
abbrev cX4_fewestHours : ByteArray := prog_6_method_2_code
def yX4_fewestHours : MethodName := ⟨RX4, "fewestHours", "(LLakeWind$Lake;I)I"⟩
abbrev cX4_fewestHats : ByteArray := prog_6_method_3_code
def yX4_fewestHats : MethodName := ⟨RX4, "fewestHats", "(LLakeWind$Lake;II)I"⟩
abbrev cX4_leastHat : ByteArray := prog_6_method_4_code
def yX4_leastHat : MethodName := ⟨RX4, "leastHat", "(LLakeWind$Lake;I)I"⟩
abbrev cX4_leastTwoHats : ByteArray := prog_6_method_5_code
def yX4_leastTwoHats : MethodName := ⟨RX4, "leastTwoHats", "(LLakeWind$Lake;I)I"⟩
abbrev cX4_startNow : ByteArray := prog_6_method_6_code
def yX4_startNow : MethodName := ⟨RX4, "startNow", "()V"⟩
abbrev cX4_isOverInSome : ByteArray := prog_6_method_7_code
def yX4_isOverInSome : MethodName := ⟨RX4, "isOverInSome", "(LLakeWind$States;I)Z"⟩
abbrev cX4_fillGood : ByteArray := prog_6_method_8_code
def yX4_fillGood : MethodName := ⟨RX4, "fillGood", "(LLakeWind$Lake;II)V"⟩
abbrev cX4_fillGoodAhead : ByteArray := prog_6_method_9_code
def yX4_fillGoodAhead : MethodName := ⟨RX4, "fillGoodAhead", "(LLakeWind$States;ILLakeWind$States;)V"⟩
abbrev cX4_advance : ByteArray := prog_6_method_10_code
def yX4_advance : MethodName := ⟨RX4, "advance", "(LLakeWind$States;I)V"⟩
abbrev cX4_throwHat : ByteArray := prog_6_method_11_code
def yX4_throwHat : MethodName := ⟨RX4, "throwHat", "(LLakeWind$States;ILLakeWind$States;)V"⟩
abbrev cX4_addAfter : ByteArray := prog_6_method_12_code
def yX4_addAfter : MethodName := ⟨RX4, "addAfter", "(LLakeWind$States;ILLakeWind$States;)V"⟩
abbrev cX4_rowOf : ByteArray := prog_6_method_13_code
def yX4_rowOf : MethodName := ⟨RX4, "rowOf", "(I)I"⟩
abbrev cX4_prepare : ByteArray := prog_6_method_14_code
def yX4_prepare : MethodName := ⟨RX4, "prepare", "(LLakeWind$Lake;)V"⟩
abbrev cX4_fillAfter : ByteArray := prog_6_method_15_code
def yX4_fillAfter : MethodName := ⟨RX4, "fillAfter", "(LLakeWind$Lake;II)V"⟩
abbrev cX4_findEnds : ByteArray := prog_6_method_16_code
def yX4_findEnds : MethodName := ⟨RX4, "findEnds", "(LLakeWind$Lake;I)I"⟩
def RX5 : String := "LakeWind$Sheet"
def TX5 : u_T := fun k => match k with
  | 0 => ("LakeWind$Sheet", "lane", "I", false)
  | 1 => ("LakeWind$Sheet", "size", "I", false)
  | _ => ("LakeWind$Sheet", "cells", "[I", true)
def tyX5 : Nat → FieldType := fun k => match k with
  | 0 => .int
  | 1 => .int
  | _ => .array .int
theorem nmX5 : ∀ a, a < 3 → ∀ b, b < 3 → a ≠ b → (TX5 a).2.1 ≠ (TX5 b).2.1 := by decide +kernel
theorem tyX5_ok : ∀ k, k < 3 → parseFieldDescriptor (TX5 k).2.2.1 = some (tyX5 k) := by decide +kernel
abbrev cX5_init : ByteArray := prog_7_method_1_code
def yX5_init : MethodName := ⟨RX5, "<init>", "()V"⟩
abbrev cX5_hasRow : ByteArray := prog_7_method_2_code
def yX5_hasRow : MethodName := ⟨RX5, "hasRow", "()Z"⟩
abbrev cX5_renew : ByteArray := prog_7_method_3_code
def yX5_renew : MethodName := ⟨RX5, "renew", "(II)V"⟩
abbrev cX5_faultAs : ByteArray := prog_7_method_4_code
def yX5_faultAs : MethodName := ⟨RX5, "faultAs", "(I)I"⟩
abbrev cX5_holds : ByteArray := prog_7_method_5_code
def yX5_holds : MethodName := ⟨RX5, "holds", "(II)Z"⟩
abbrev cX5_cut : ByteArray := prog_7_method_6_code
def yX5_cut : MethodName := ⟨RX5, "cut", "(I)I"⟩
def RX6 : String := "LakeWind$States"
def TX6 : u_T := fun k => match k with
  | 0 => ("LakeWind$States", "low", "J", false)
  | _ => ("LakeWind$States", "high", "J", false)
def tyX6 : Nat → FieldType := fun k => match k with
  | 0 => .long
  | _ => .long
theorem nmX6 : ∀ a, a < 2 → ∀ b, b < 2 → a ≠ b → (TX6 a).2.1 ≠ (TX6 b).2.1 := by decide +kernel
theorem tyX6_ok : ∀ k, k < 2 → parseFieldDescriptor (TX6 k).2.2.1 = some (tyX6 k) := by decide +kernel
abbrev cX6_init : ByteArray := prog_8_method_1_code
def yX6_init : MethodName := ⟨RX6, "<init>", "()V"⟩
abbrev cX6_clear : ByteArray := prog_8_method_2_code
def yX6_clear : MethodName := ⟨RX6, "clear", "()V"⟩
abbrev cX6_become : ByteArray := prog_8_method_3_code
def yX6_become : MethodName := ⟨RX6, "become", "(LLakeWind$States;)V"⟩
abbrev cX6_add : ByteArray := prog_8_method_4_code
def yX6_add : MethodName := ⟨RX6, "add", "(I)V"⟩
abbrev cX6_addAll : ByteArray := prog_8_method_5_code
def yX6_addAll : MethodName := ⟨RX6, "addAll", "(JJ)V"⟩
abbrev cX6_has : ByteArray := prog_8_method_6_code
def yX6_has : MethodName := ⟨RX6, "has", "(I)Z"⟩
abbrev cX6_meets : ByteArray := prog_8_method_7_code
def yX6_meets : MethodName := ⟨RX6, "meets", "(JJ)Z"⟩
def RX7 : String := "LakeWind$Text"
def TX7 : u_T := fun k => match k with
  | 0 => ("LakeWind$Text", "at", "I", false)
  | 1 => ("LakeWind$Text", "codes", "[I", false)
  | 2 => ("LakeWind$Text", "first", "I", false)
  | _ => ("LakeWind$Text", "end", "I", false)
def tyX7 : Nat → FieldType := fun k => match k with
  | 0 => .int
  | 1 => .array .int
  | 2 => .int
  | _ => .int
theorem nmX7 : ∀ a, a < 4 → ∀ b, b < 4 → a ≠ b → (TX7 a).2.1 ≠ (TX7 b).2.1 := by decide +kernel
theorem tyX7_ok : ∀ k, k < 4 → parseFieldDescriptor (TX7 k).2.2.1 = some (tyX7 k) := by decide +kernel
abbrev cX7_init : ByteArray := prog_9_method_1_code
def yX7_init : MethodName := ⟨RX7, "<init>", "()V"⟩
abbrev cX7_begin : ByteArray := prog_9_method_2_code
def yX7_begin : MethodName := ⟨RX7, "begin", "([III)V"⟩
abbrev cX7_readWater : ByteArray := prog_9_method_3_code
def yX7_readWater : MethodName := ⟨RX7, "readWater", "(LLakeWind$Lake;)Z"⟩
abbrev cX7_readWinds : ByteArray := prog_9_method_4_code
def yX7_readWinds : MethodName := ⟨RX7, "readWinds", "(LLakeWind$Lake;)Z"⟩
abbrev cX7_readBoats : ByteArray := prog_9_method_5_code
def yX7_readBoats : MethodName := ⟨RX7, "readBoats", "(LLakeWind$Lake;)Z"⟩
abbrev cX7_readBoat : ByteArray := prog_9_method_6_code
def yX7_readBoat : MethodName := ⟨RX7, "readBoat", "(LLakeWind$Lake;I)Z"⟩
abbrev cX7_isNext : ByteArray := prog_9_method_7_code
def yX7_isNext : MethodName := ⟨RX7, "isNext", "(I)Z"⟩
abbrev cX7_skip : ByteArray := prog_9_method_8_code
def yX7_skip : MethodName := ⟨RX7, "skip", "(I)Z"⟩
abbrev cX7_digit : ByteArray := prog_9_method_9_code
def yX7_digit : MethodName := ⟨RX7, "digit", "(II)I"⟩
abbrev cX7_windSign : ByteArray := prog_9_method_10_code
def yX7_windSign : MethodName := ⟨RX7, "windSign", "()I"⟩
abbrev cX7_kindLetter : ByteArray := prog_9_method_11_code
def yX7_kindLetter : MethodName := ⟨RX7, "kindLetter", "()I"⟩
def RX8 : String := "LakeWind$Towed"
def TX8 : u_T := fun k => match k with
  | 0 => ("LakeWind$Boat", "number", "I", true)
  | 1 => ("LakeWind$Boat", "from", "I", true)
  | _ => ("LakeWind$Boat", "fast", "I", true)
def tyX8 : Nat → FieldType := fun k => match k with
  | 0 => .int
  | 1 => .int
  | _ => .int
theorem nmX8 : ∀ a, a < 3 → ∀ b, b < 3 → a ≠ b → (TX8 a).2.1 ≠ (TX8 b).2.1 := by decide +kernel
theorem tyX8_ok : ∀ k, k < 3 → parseFieldDescriptor (TX8 k).2.2.1 = some (tyX8 k) := by decide +kernel
abbrev cX8_init : ByteArray := prog_10_method_1_code
def yX8_init : MethodName := ⟨RX8, "<init>", "(III)V"⟩
abbrev cX8_kindNumber : ByteArray := prog_10_method_2_code
def yX8_kindNumber : MethodName := ⟨RX8, "kindNumber", "()I"⟩
abbrev cX8_goesAgainst : ByteArray := prog_10_method_3_code
def yX8_goesAgainst : MethodName := ⟨RX8, "goesAgainst", "()I"⟩
abbrev cX8_counts : ByteArray := prog_10_method_4_code
def yX8_counts : MethodName := ⟨RX8, "counts", "()Z"⟩
abbrev cX8_telling : ByteArray := prog_10_method_5_code
def yX8_telling : MethodName := ⟨RX8, "telling", "(LLakeWind$Trace;)I"⟩
abbrev cX8_hailing : ByteArray := prog_10_method_6_code
def yX8_hailing : MethodName := ⟨RX8, "hailing", "(LLakeWind$Trace;)I"⟩
def RX9 : String := "LakeWind$Trace"
def TX9 : u_T := fun k => match k with
  | _ => ("LakeWind$Trace", "value", "I", false)
def tyX9 : Nat → FieldType := fun k => match k with
  | _ => .int
theorem nmX9 : ∀ a, a < 1 → ∀ b, b < 1 → a ≠ b → (TX9 a).2.1 ≠ (TX9 b).2.1 := by decide +kernel
theorem tyX9_ok : ∀ k, k < 1 → parseFieldDescriptor (TX9 k).2.2.1 = some (tyX9 k) := by decide +kernel
abbrev cX9_init : ByteArray := prog_11_method_1_code
def yX9_init : MethodName := ⟨RX9, "<init>", "()V"⟩
abbrev cX9_leave : ByteArray := prog_11_method_2_code
def yX9_leave : MethodName := ⟨RX9, "leave", "(I)V"⟩
def RX10 : String := "LakeWind$Voyage"
def TX10 : u_T := fun k => match k with
  | 0 => ("LakeWind$Voyage", "cells", "[I", true)
  | 1 => ("LakeWind$Voyage", "fines", "I", false)
  | 2 => ("LakeWind$Voyage", "firstFine", "I", false)
  | _ => ("LakeWind$Voyage", "allOver", "I", false)
def tyX10 : Nat → FieldType := fun k => match k with
  | 0 => .array .int
  | 1 => .int
  | 2 => .int
  | _ => .int
theorem nmX10 : ∀ a, a < 4 → ∀ b, b < 4 → a ≠ b → (TX10 a).2.1 ≠ (TX10 b).2.1 := by decide +kernel
theorem tyX10_ok : ∀ k, k < 4 → parseFieldDescriptor (TX10 k).2.2.1 = some (tyX10 k) := by decide +kernel
abbrev cX10_init : ByteArray := prog_12_method_1_code
def yX10_init : MethodName := ⟨RX10, "<init>", "()V"⟩
abbrev cX10_begin : ByteArray := prog_12_method_2_code
def yX10_begin : MethodName := ⟨RX10, "begin", "(LLakeWind$Lake;)V"⟩
abbrev cX10_sail : ByteArray := prog_12_method_3_code
def yX10_sail : MethodName := ⟨RX10, "sail", "(LLakeWind$Lake;II)I"⟩
abbrev cX10_sailAll : ByteArray := prog_12_method_4_code
def yX10_sailAll : MethodName := ⟨RX10, "sailAll", "(LLakeWind$Lake;[II)V"⟩
abbrev cX10_overSet : ByteArray := prog_12_method_5_code
def yX10_overSet : MethodName := ⟨RX10, "overSet", "(LLakeWind$Lake;)I"⟩
abbrev cX10_stateNumber : ByteArray := prog_12_method_6_code
def yX10_stateNumber : MethodName := ⟨RX10, "stateNumber", "(LLakeWind$Lake;)I"⟩
abbrev cX10_place : ByteArray := prog_12_method_7_code
def yX10_place : MethodName := ⟨RX10, "place", "(LLakeWind$Lake;I)V"⟩
def RX11 : String := "LakeWind"
def TX11 : u_T := fun k => match k with
  | 0 => ("LakeWind", "sheets", "[LLakeWind$Sheet;", true)
  | 1 => ("LakeWind", "text", "LLakeWind$Text;", true)
  | 2 => ("LakeWind", "readings", "LLakeWind$Readings;", true)
  | 3 => ("LakeWind", "voyage", "LLakeWind$Voyage;", true)
  | 4 => ("LakeWind", "search", "LLakeWind$Search;", true)
  | 5 => ("LakeWind", "marks", "LLakeWind$Trace;", true)
  | 6 => ("LakeWind", "orders", "[I", true)
  | 7 => ("LakeWind", "ways", "[I", false)
  | 8 => ("LakeWind", "nextWays", "[I", false)
  | 9 => ("LakeWind", "water", "LLakeWind$Lake;", false)
  | 10 => ("LakeWind", "spareWater", "LLakeWind$Lake;", false)
  | _ => ("LakeWind", "lastFault", "I", false)
def tyX11 : Nat → FieldType := fun k => match k with
  | 0 => .array (.object "LakeWind$Sheet")
  | 1 => .object "LakeWind$Text"
  | 2 => .object "LakeWind$Readings"
  | 3 => .object "LakeWind$Voyage"
  | 4 => .object "LakeWind$Search"
  | 5 => .object "LakeWind$Trace"
  | 6 => .array .int
  | 7 => .array .int
  | 8 => .array .int
  | 9 => .object "LakeWind$Lake"
  | 10 => .object "LakeWind$Lake"
  | _ => .int
theorem nmX11 : ∀ a, a < 12 → ∀ b, b < 12 → a ≠ b → (TX11 a).2.1 ≠ (TX11 b).2.1 := by decide +kernel
theorem tyX11_ok : ∀ k, k < 12 → parseFieldDescriptor (TX11 k).2.2.1 = some (tyX11 k) := by decide +kernel
abbrev cX11_init : ByteArray := prog_1_method_1_code
def yX11_init : MethodName := ⟨RX11, "<init>", "()V"⟩
abbrev cX11_lake : ByteArray := prog_1_method_2_code
def yX11_lake : MethodName := ⟨RX11, "lake", "(IIII)I"⟩
abbrev cX11_faultOfText : ByteArray := prog_1_method_3_code
def yX11_faultOfText : MethodName := ⟨RX11, "faultOfText", "(LLakeWind$Sheet;III)I"⟩
abbrev cX11_takeSpareWater : ByteArray := prog_1_method_4_code
def yX11_takeSpareWater : MethodName := ⟨RX11, "takeSpareWater", "()V"⟩
abbrev cX11_ofBoat : ByteArray := prog_1_method_5_code
def yX11_ofBoat : MethodName := ⟨RX11, "ofBoat", "(II)I"⟩
abbrev cX11_wind : ByteArray := prog_1_method_6_code
def yX11_wind : MethodName := ⟨RX11, "wind", "(II)I"⟩
abbrev cX11_isle : ByteArray := prog_1_method_7_code
def yX11_isle : MethodName := ⟨RX11, "isle", "(IZ)I"⟩
abbrev cX11_plan : ByteArray := prog_1_method_8_code
def yX11_plan : MethodName := ⟨RX11, "plan", "(IIIII)I"⟩
abbrev cX11_isQuestion : ByteArray := prog_1_method_9_code
def yX11_isQuestion : MethodName := ⟨RX11, "isQuestion", "(I)Z"⟩
abbrev cX11_answerOfVoyage : ByteArray := prog_1_method_10_code
def yX11_answerOfVoyage : MethodName := ⟨RX11, "answerOfVoyage", "(I)I"⟩
abbrev cX11_refusalOfRow : ByteArray := prog_1_method_11_code
def yX11_refusalOfRow : MethodName := ⟨RX11, "refusalOfRow", "(III)I"⟩
abbrev cX11_takeOrders : ByteArray := prog_1_method_12_code
def yX11_takeOrders : MethodName := ⟨RX11, "takeOrders", "(IIII)I"⟩
abbrev cX11_soonest : ByteArray := prog_1_method_13_code
def yX11_soonest : MethodName := ⟨RX11, "soonest", "(I)I"⟩
abbrev cX11_hats : ByteArray := prog_1_method_14_code
def yX11_hats : MethodName := ⟨RX11, "hats", "(II)I"⟩
abbrev cX11_rid : ByteArray := prog_1_method_15_code
def yX11_rid : MethodName := ⟨RX11, "rid", "(I)I"⟩
abbrev cX11_reading : ByteArray := prog_1_method_16_code
def yX11_reading : MethodName := ⟨RX11, "reading", "(III)I"⟩
abbrev cX11_back : ByteArray := prog_1_method_17_code
def yX11_back : MethodName := ⟨RX11, "back", "(I)I"⟩
abbrev cX11_winds : ByteArray := prog_1_method_18_code
def yX11_winds : MethodName := ⟨RX11, "winds", "(IIIII)I"⟩
abbrev cX11_kinds : ByteArray := prog_1_method_19_code
def yX11_kinds : MethodName := ⟨RX11, "kinds", "(IIIII)I"⟩
abbrev cX11_speeds : ByteArray := prog_1_method_20_code
def yX11_speeds : MethodName := ⟨RX11, "speeds", "(IIIII)I"⟩
abbrev cX11_refusalOfBoatPlan : ByteArray := prog_1_method_21_code
def yX11_refusalOfBoatPlan : MethodName := ⟨RX11, "refusalOfBoatPlan", "(IIIII)I"⟩
abbrev cX11_bitIfAsRead : ByteArray := prog_1_method_22_code
def yX11_bitIfAsRead : MethodName := ⟨RX11, "bitIfAsRead", "(II)I"⟩
abbrev cX11_odds : ByteArray := prog_1_method_23_code
def yX11_odds : MethodName := ⟨RX11, "odds", "(IIIII)J"⟩
abbrev cX11_waysWithoutFine : ByteArray := prog_1_method_24_code
def yX11_waysWithoutFine : MethodName := ⟨RX11, "waysWithoutFine", "(I)I"⟩
abbrev cX11_sailByChance : ByteArray := prog_1_method_25_code
def yX11_sailByChance : MethodName := ⟨RX11, "sailByChance", "(II)V"⟩
abbrev cX11_sheet : ByteArray := prog_1_method_26_code
def yX11_sheet : MethodName := ⟨RX11, "sheet", "(III)I"⟩
abbrev cX11_lose : ByteArray := prog_1_method_27_code
def yX11_lose : MethodName := ⟨RX11, "lose", "(I)I"⟩
abbrev cX11_put : ByteArray := prog_1_method_28_code
def yX11_put : MethodName := ⟨RX11, "put", "(III)I"⟩
abbrev cX11_cell : ByteArray := prog_1_method_29_code
def yX11_cell : MethodName := ⟨RX11, "cell", "(III)J"⟩
abbrev cX11_copy : ByteArray := prog_1_method_30_code
def yX11_copy : MethodName := ⟨RX11, "copy", "(IIIII)I"⟩
abbrev cX11_tell : ByteArray := prog_1_method_31_code
def yX11_tell : MethodName := ⟨RX11, "tell", "(I)I"⟩
abbrev cX11_hail : ByteArray := prog_1_method_32_code
def yX11_hail : MethodName := ⟨RX11, "hail", "(I)I"⟩
abbrev cX11_as : ByteArray := prog_1_method_33_code
def yX11_as : MethodName := ⟨RX11, "as", "(II)I"⟩
abbrev cX11_isOfKind : ByteArray := prog_1_method_34_code
def yX11_isOfKind : MethodName := ⟨RX11, "isOfKind", "(LLakeWind$Boat;I)Z"⟩
abbrev cX11_trace : ByteArray := prog_1_method_35_code
def yX11_trace : MethodName := ⟨RX11, "trace", "()I"⟩
abbrev cX11_fault : ByteArray := prog_1_method_36_code
def yX11_fault : MethodName := ⟨RX11, "fault", "()I"⟩
abbrev cX11_many : ByteArray := prog_1_method_37_code
def yX11_many : MethodName := ⟨RX11, "many", "(I)I"⟩
abbrev cX11_faulted : ByteArray := prog_1_method_38_code
def yX11_faulted : MethodName := ⟨RX11, "faulted", "(I)I"⟩
abbrev cX11_isSheet : ByteArray := prog_1_method_39_code
def yX11_isSheet : MethodName := ⟨RX11, "isSheet", "(I)Z"⟩
abbrev cX11_isLane : ByteArray := prog_1_method_40_code
def yX11_isLane : MethodName := ⟨RX11, "isLane", "(I)Z"⟩
abbrev cX11_isBoat : ByteArray := prog_1_method_41_code
def yX11_isBoat : MethodName := ⟨RX11, "isBoat", "(I)Z"⟩
abbrev cX11_isHour : ByteArray := prog_1_method_42_code
def yX11_isHour : MethodName := ⟨RX11, "isHour", "(I)Z"⟩
abbrev cX11_isSet : ByteArray := prog_1_method_43_code
def yX11_isSet : MethodName := ⟨RX11, "isSet", "(I)Z"⟩
abbrev cX11_newBoat : ByteArray := prog_1_method_44_code
def yX11_newBoat : MethodName := ⟨RX11, "newBoat", "(IIII)LLakeWind$Boat;"⟩
def RX12 : String := "LakeWindModel"
def TX12 : u_T := fun k => match k with
  | 0 => ("LakeWindModel", "fault", "I", false)
  | 1 => ("LakeWindModel", "trace", "I", false)
  | 2 => ("LakeWindModel", "sorts", "[I", true)
  | 3 => ("LakeWindModel", "sheetLong", "[I", true)
  | 4 => ("LakeWindModel", "cells", "[I", true)
  | 5 => ("LakeWindModel", "wide", "I", false)
  | 6 => ("LakeWindModel", "hours", "I", false)
  | 7 => ("LakeWindModel", "boats", "I", false)
  | 8 => ("LakeWindModel", "hasIsle", "[Z", true)
  | 9 => ("LakeWindModel", "windOf", "[I", true)
  | 10 => ("LakeWindModel", "kind", "[I", true)
  | 11 => ("LakeWindModel", "from", "[I", true)
  | 12 => ("LakeWindModel", "fast", "[I", true)
  | 13 => ("LakeWindModel", "at", "I", false)
  | 14 => ("LakeWindModel", "readWide", "I", false)
  | 15 => ("LakeWindModel", "readHours", "I", false)
  | 16 => ("LakeWindModel", "readMany", "I", false)
  | 17 => ("LakeWindModel", "readIsle", "[I", true)
  | 18 => ("LakeWindModel", "readWind", "[I", true)
  | 19 => ("LakeWindModel", "read", "[I", true)
  | 20 => ("LakeWindModel", "place", "[I", true)
  | 21 => ("LakeWindModel", "planned", "I", false)
  | 22 => ("LakeWindModel", "sets", "[I", true)
  | 23 => ("LakeWindModel", "fines", "I", false)
  | 24 => ("LakeWindModel", "firstFined", "I", false)
  | 25 => ("LakeWindModel", "firstOver", "I", false)
  | 26 => ("LakeWindModel", "canBe", "[Z", true)
  | 27 => ("LakeWindModel", "then", "[Z", true)
  | 28 => ("LakeWindModel", "readings", "I", false)
  | 29 => ("LakeWindModel", "readBoatOf", "[I", true)
  | 30 => ("LakeWindModel", "readHour", "[I", true)
  | _ => ("LakeWindModel", "readCell", "[I", true)
def tyX12 : Nat → FieldType := fun k => match k with
  | 0 => .int
  | 1 => .int
  | 2 => .array .int
  | 3 => .array .int
  | 4 => .array .int
  | 5 => .int
  | 6 => .int
  | 7 => .int
  | 8 => .array .boolean
  | 9 => .array .int
  | 10 => .array .int
  | 11 => .array .int
  | 12 => .array .int
  | 13 => .int
  | 14 => .int
  | 15 => .int
  | 16 => .int
  | 17 => .array .int
  | 18 => .array .int
  | 19 => .array .int
  | 20 => .array .int
  | 21 => .int
  | 22 => .array .int
  | 23 => .int
  | 24 => .int
  | 25 => .int
  | 26 => .array .boolean
  | 27 => .array .boolean
  | 28 => .int
  | 29 => .array .int
  | 30 => .array .int
  | _ => .array .int
theorem nmX12 : ∀ a, a < 32 → ∀ b, b < 32 → a ≠ b → (TX12 a).2.1 ≠ (TX12 b).2.1 := by decide +kernel
theorem tyX12_ok : ∀ k, k < 32 → parseFieldDescriptor (TX12 k).2.2.1 = some (tyX12 k) := by decide +kernel
abbrev cX12_init : ByteArray := prog_14_method_1_code
def yX12_init : MethodName := ⟨RX12, "<init>", "()V"⟩
abbrev cX12_fails : ByteArray := prog_14_method_3_code
def yX12_fails : MethodName := ⟨RX12, "fails", "(I)I"⟩
abbrev cX12_lost : ByteArray := prog_14_method_4_code
def yX12_lost : MethodName := ⟨RX12, "lost", "(I)J"⟩
abbrev cX12_within : ByteArray := prog_14_method_5_code
def yX12_within : MethodName := ⟨RX12, "within", "(III)Z"⟩
abbrev cX12_isSheet : ByteArray := prog_14_method_6_code
def yX12_isSheet : MethodName := ⟨RX12, "isSheet", "(I)Z"⟩
abbrev cX12_isSort : ByteArray := prog_14_method_7_code
def yX12_isSort : MethodName := ⟨RX12, "isSort", "(I)Z"⟩
abbrev cX12_against : ByteArray := prog_14_method_8_code
def yX12_against : MethodName := ⟨RX12, "against", "(IIII)I"⟩
abbrev cX12_isBoat : ByteArray := prog_14_method_9_code
def yX12_isBoat : MethodName := ⟨RX12, "isBoat", "(I)Z"⟩
abbrev cX12_isHour : ByteArray := prog_14_method_10_code
def yX12_isHour : MethodName := ⟨RX12, "isHour", "(I)Z"⟩
abbrev cX12_all : ByteArray := prog_14_method_11_code
def yX12_all : MethodName := ⟨RX12, "all", "()I"⟩
abbrev cX12_digit : ByteArray := prog_14_method_12_code
def yX12_digit : MethodName := ⟨RX12, "digit", "(III)I"⟩
abbrev cX12_isSign : ByteArray := prog_14_method_13_code
def yX12_isSign : MethodName := ⟨RX12, "isSign", "(II)Z"⟩
abbrev cX12_lake : ByteArray := prog_14_method_14_code
def yX12_lake : MethodName := ⟨RX12, "lake", "(IIII)I"⟩
abbrev cX12_takeLake : ByteArray := prog_14_method_15_code
def yX12_takeLake : MethodName := ⟨RX12, "takeLake", "()V"⟩
abbrev cX12_windBy : ByteArray := prog_14_method_16_code
def yX12_windBy : MethodName := ⟨RX12, "windBy", "(I)I"⟩
abbrev cX12_readLake : ByteArray := prog_14_method_17_code
def yX12_readLake : MethodName := ⟨RX12, "readLake", "(I)Z"⟩
abbrev cX12_readBoat : ByteArray := prog_14_method_18_code
def yX12_readBoat : MethodName := ⟨RX12, "readBoat", "(I)Z"⟩
abbrev cX12_ofBoat : ByteArray := prog_14_method_19_code
def yX12_ofBoat : MethodName := ⟨RX12, "ofBoat", "(II)I"⟩
abbrev cX12_wind : ByteArray := prog_14_method_20_code
def yX12_wind : MethodName := ⟨RX12, "wind", "(II)I"⟩
abbrev cX12_isle : ByteArray := prog_14_method_21_code
def yX12_isle : MethodName := ⟨RX12, "isle", "(IZ)I"⟩
abbrev cX12_asNumber : ByteArray := prog_14_method_22_code
def yX12_asNumber : MethodName := ⟨RX12, "asNumber", "()I"⟩
abbrev cX12_asPlaces : ByteArray := prog_14_method_23_code
def yX12_asPlaces : MethodName := ⟨RX12, "asPlaces", "(I)V"⟩
abbrev cX12_begins : ByteArray := prog_14_method_24_code
def yX12_begins : MethodName := ⟨RX12, "begins", "(Z)I"⟩
abbrev cX12_isOver : ByteArray := prog_14_method_25_code
def yX12_isOver : MethodName := ⟨RX12, "isOver", "(I)Z"⟩
abbrev cX12_over : ByteArray := prog_14_method_26_code
def yX12_over : MethodName := ⟨RX12, "over", "()I"⟩
abbrev cX12_isWith : ByteArray := prog_14_method_27_code
def yX12_isWith : MethodName := ⟨RX12, "isWith", "(II)Z"⟩
abbrev cX12_finedBy : ByteArray := prog_14_method_28_code
def yX12_finedBy : MethodName := ⟨RX12, "finedBy", "(II)I"⟩
abbrev cX12_bounded : ByteArray := prog_14_method_29_code
def yX12_bounded : MethodName := ⟨RX12, "bounded", "(I)I"⟩
abbrev cX12_goHour : ByteArray := prog_14_method_30_code
def yX12_goHour : MethodName := ⟨RX12, "goHour", "(II)V"⟩
abbrev cX12_layPlan : ByteArray := prog_14_method_31_code
def yX12_layPlan : MethodName := ⟨RX12, "layPlan", "(IIII)I"⟩
abbrev cX12_isRow : ByteArray := prog_14_method_32_code
def yX12_isRow : MethodName := ⟨RX12, "isRow", "(II)Z"⟩
abbrev cX12_goPlan : ByteArray := prog_14_method_33_code
def yX12_goPlan : MethodName := ⟨RX12, "goPlan", "()V"⟩
abbrev cX12_plan : ByteArray := prog_14_method_34_code
def yX12_plan : MethodName := ⟨RX12, "plan", "(IIIII)I"⟩
abbrev cX12_isThere : ByteArray := prog_14_method_35_code
def yX12_isThere : MethodName := ⟨RX12, "isThere", "(I)Z"⟩
abbrev cX12_goAll : ByteArray := prog_14_method_36_code
def yX12_goAll : MethodName := ⟨RX12, "goAll", "(I)V"⟩
abbrev cX12_soonestOf : ByteArray := prog_14_method_37_code
def yX12_soonestOf : MethodName := ⟨RX12, "soonestOf", "(I)I"⟩
abbrev cX12_soonest : ByteArray := prog_14_method_38_code
def yX12_soonest : MethodName := ⟨RX12, "soonest", "(I)I"⟩
abbrev cX12_isInTime : ByteArray := prog_14_method_39_code
def yX12_isInTime : MethodName := ⟨RX12, "isInTime", "(II)Z"⟩
abbrev cX12_isByTwo : ByteArray := prog_14_method_40_code
def yX12_isByTwo : MethodName := ⟨RX12, "isByTwo", "(IIII)Z"⟩
abbrev cX12_isByOne : ByteArray := prog_14_method_41_code
def yX12_isByOne : MethodName := ⟨RX12, "isByOne", "(III)Z"⟩
abbrev cX12_hats : ByteArray := prog_14_method_42_code
def yX12_hats : MethodName := ⟨RX12, "hats", "(II)I"⟩
abbrev cX12_rid : ByteArray := prog_14_method_43_code
def yX12_rid : MethodName := ⟨RX12, "rid", "(I)I"⟩
abbrev cX12_reading : ByteArray := prog_14_method_44_code
def yX12_reading : MethodName := ⟨RX12, "reading", "(III)I"⟩
abbrev cX12_back : ByteArray := prog_14_method_45_code
def yX12_back : MethodName := ⟨RX12, "back", "(I)I"⟩
abbrev cX12_areSo : ByteArray := prog_14_method_46_code
def yX12_areSo : MethodName := ⟨RX12, "areSo", "()Z"⟩
abbrev cX12_lay : ByteArray := prog_14_method_47_code
def yX12_lay : MethodName := ⟨RX12, "lay", "(IIIII)I"⟩
abbrev cX12_winds : ByteArray := prog_14_method_48_code
def yX12_winds : MethodName := ⟨RX12, "winds", "(IIIII)I"⟩
abbrev cX12_kinds : ByteArray := prog_14_method_49_code
def yX12_kinds : MethodName := ⟨RX12, "kinds", "(IIIII)I"⟩
abbrev cX12_speeds : ByteArray := prog_14_method_50_code
def yX12_speeds : MethodName := ⟨RX12, "speeds", "(IIIII)I"⟩
abbrev cX12_inLeastTerms : ByteArray := prog_14_method_51_code
def yX12_inLeastTerms : MethodName := ⟨RX12, "inLeastTerms", "(JJI)J"⟩
abbrev cX12_isFree : ByteArray := prog_14_method_52_code
def yX12_isFree : MethodName := ⟨RX12, "isFree", "(I)Z"⟩
abbrev cX12_odds : ByteArray := prog_14_method_53_code
def yX12_odds : MethodName := ⟨RX12, "odds", "(IIIII)J"⟩
abbrev cX12_sheet : ByteArray := prog_14_method_54_code
def yX12_sheet : MethodName := ⟨RX12, "sheet", "(III)I"⟩
abbrev cX12_lose : ByteArray := prog_14_method_55_code
def yX12_lose : MethodName := ⟨RX12, "lose", "(I)I"⟩
abbrev cX12_put : ByteArray := prog_14_method_56_code
def yX12_put : MethodName := ⟨RX12, "put", "(III)I"⟩
abbrev cX12_cell : ByteArray := prog_14_method_57_code
def yX12_cell : MethodName := ⟨RX12, "cell", "(III)J"⟩
abbrev cX12_copy : ByteArray := prog_14_method_58_code
def yX12_copy : MethodName := ⟨RX12, "copy", "(IIIII)I"⟩
abbrev cX12_leaves : ByteArray := prog_14_method_59_code
def yX12_leaves : MethodName := ⟨RX12, "leaves", "(I)V"⟩
abbrev cX12_tell : ByteArray := prog_14_method_60_code
def yX12_tell : MethodName := ⟨RX12, "tell", "(I)I"⟩
abbrev cX12_hail : ByteArray := prog_14_method_61_code
def yX12_hail : MethodName := ⟨RX12, "hail", "(I)I"⟩
abbrev cX12_as : ByteArray := prog_14_method_62_code
def yX12_as : MethodName := ⟨RX12, "as", "(II)I"⟩
abbrev cX12_trace : ByteArray := prog_14_method_63_code
def yX12_trace : MethodName := ⟨RX12, "trace", "()I"⟩
abbrev cX12_fault : ByteArray := prog_14_method_64_code
def yX12_fault : MethodName := ⟨RX12, "fault", "()I"⟩
abbrev cX12_many : ByteArray := prog_14_method_65_code
def yX12_many : MethodName := ⟨RX12, "many", "(I)I"⟩
def RL : String := "LakeWindLaw"
abbrev cL_law : ByteArray := code
abbrev vwCl : List vw_C := [(RX0, TX0, 3), (RX1, TX1, 6), (RX2, TX2, 3), (RX3, TX3, 4), (RX4, TX4, 13), (RX5, TX5, 3), (RX6, TX6, 2), (RX7, TX7, 4), (RX8, TX8, 3), (RX9, TX9, 1), (RX10, TX10, 4), (RX11, TX11, 12), (RX12, TX12, 32)]
end
section
theorem dX0_init_0 : decode cX0_init 0 = .ok (.aload_n 0, 1) := by decide +kernel
theorem dX0_init_1 : decode cX0_init 1 = .ok (.invokespecial 1, 3) := by decide +kernel
theorem dX0_init_4 : decode cX0_init 4 = .ok (.aload_n 0, 1) := by decide +kernel
theorem dX0_init_5 : decode cX0_init 5 = .ok (.iload_n 1, 1) := by decide +kernel
theorem dX0_init_6 : decode cX0_init 6 = .ok (.putfield 7, 3) := by decide +kernel
theorem dX0_init_9 : decode cX0_init 9 = .ok (.aload_n 0, 1) := by decide +kernel
theorem dX0_init_10 : decode cX0_init 10 = .ok (.iload_n 2, 1) := by decide +kernel
theorem dX0_init_11 : decode cX0_init 11 = .ok (.putfield 13, 3) := by decide +kernel
theorem dX0_init_14 : decode cX0_init 14 = .ok (.aload_n 0, 1) := by decide +kernel
theorem dX0_init_15 : decode cX0_init 15 = .ok (.iload_n 3, 1) := by decide +kernel
theorem dX0_init_16 : decode cX0_init 16 = .ok (.putfield 16, 3) := by decide +kernel
theorem dX0_init_19 : decode cX0_init 19 = .ok (.return_, 1) := by decide +kernel
theorem dX0_kindNumber_0 : decode cX0_kindNumber 0 = .ok (.iconst 0, 1) := by decide +kernel
theorem dX0_kindNumber_1 : decode cX0_kindNumber 1 = .ok (.ireturn, 1) := by decide +kernel
theorem dX0_goesAgainst_0 : decode cX0_goesAgainst 0 = .ok (.aload_n 0, 1) := by decide +kernel
theorem dX0_goesAgainst_1 : decode cX0_goesAgainst 1 = .ok (.getfield 16, 3) := by decide +kernel
theorem dX0_goesAgainst_4 : decode cX0_goesAgainst 4 = .ok (.ireturn, 1) := by decide +kernel
theorem dX0_counts_0 : decode cX0_counts 0 = .ok (.iconst 1, 1) := by decide +kernel
theorem dX0_counts_1 : decode cX0_counts 1 = .ok (.ireturn, 1) := by decide +kernel
theorem dX0_telling_0 : decode cX0_telling 0 = .ok (.aload_n 0, 1) := by decide +kernel
theorem dX0_telling_1 : decode cX0_telling 1 = .ok (.aload_n 1, 1) := by decide +kernel
theorem dX0_telling_2 : decode cX0_telling 2 = .ok (.invokevirtual 19, 3) := by decide +kernel
theorem dX0_telling_5 : decode cX0_telling 5 = .ok (.ireturn, 1) := by decide +kernel
theorem dX0_tellingOfBoat_0 : decode cX0_tellingOfBoat 0 = .ok (.aload_n 1, 1) := by decide +kernel
theorem dX0_tellingOfBoat_1 : decode cX0_tellingOfBoat 1 = .ok (.iconst 1, 1) := by decide +kernel
theorem dX0_tellingOfBoat_2 : decode cX0_tellingOfBoat 2 = .ok (.invokevirtual 23, 3) := by decide +kernel
theorem dX0_tellingOfBoat_5 : decode cX0_tellingOfBoat 5 = .ok (.aload_n 0, 1) := by decide +kernel
theorem dX0_tellingOfBoat_6 : decode cX0_tellingOfBoat 6 = .ok (.getfield 16, 3) := by decide +kernel
theorem dX0_tellingOfBoat_9 : decode cX0_tellingOfBoat 9 = .ok (.ireturn, 1) := by decide +kernel
theorem dX0_hailing_0 : decode cX0_hailing 0 = .ok (.aload_n 1, 1) := by decide +kernel
theorem dX0_hailing_1 : decode cX0_hailing 1 = .ok (.iconst 4, 1) := by decide +kernel
theorem dX0_hailing_2 : decode cX0_hailing 2 = .ok (.invokevirtual 23, 3) := by decide +kernel
theorem dX0_hailing_5 : decode cX0_hailing 5 = .ok (.aload_n 0, 1) := by decide +kernel
theorem dX0_hailing_6 : decode cX0_hailing 6 = .ok (.getfield 7, 3) := by decide +kernel
theorem dX0_hailing_9 : decode cX0_hailing 9 = .ok (.ireturn, 1) := by decide +kernel
theorem dX1_init_0 : decode cX1_init 0 = .ok (.aload_n 0, 1) := by decide +kernel
theorem dX1_init_1 : decode cX1_init 1 = .ok (.invokespecial 3, 3) := by decide +kernel
theorem dX1_init_4 : decode cX1_init 4 = .ok (.aload_n 0, 1) := by decide +kernel
theorem dX1_init_5 : decode cX1_init 5 = .ok (.iconst 0, 1) := by decide +kernel
theorem dX1_init_6 : decode cX1_init 6 = .ok (.putfield 9, 3) := by decide +kernel
theorem dX1_init_9 : decode cX1_init 9 = .ok (.aload_n 0, 1) := by decide +kernel
theorem dX1_init_10 : decode cX1_init 10 = .ok (.iconst 0, 1) := by decide +kernel
theorem dX1_init_11 : decode cX1_init 11 = .ok (.putfield 15, 3) := by decide +kernel
theorem dX1_init_14 : decode cX1_init 14 = .ok (.aload_n 0, 1) := by decide +kernel
theorem dX1_init_15 : decode cX1_init 15 = .ok (.iconst 0, 1) := by decide +kernel
theorem dX1_init_16 : decode cX1_init 16 = .ok (.putfield 18, 3) := by decide +kernel
theorem dX1_init_19 : decode cX1_init 19 = .ok (.aload_n 0, 1) := by decide +kernel
theorem dX1_init_20 : decode cX1_init 20 = .ok (.iconst 0, 1) := by decide +kernel
theorem dX1_init_21 : decode cX1_init 21 = .ok (.putfield 21, 3) := by decide +kernel
theorem dX1_init_24 : decode cX1_init 24 = .ok (.aload_n 0, 1) := by decide +kernel
theorem dX1_init_25 : decode cX1_init 25 = .ok (.bipush 10, 2) := by decide +kernel
theorem dX1_init_27 : decode cX1_init 27 = .ok (.newarray .int, 2) := by decide +kernel
theorem dX1_init_29 : decode cX1_init 29 = .ok (.putfield 24, 3) := by decide +kernel
theorem dX1_init_32 : decode cX1_init 32 = .ok (.aload_n 0, 1) := by decide +kernel
theorem dX1_init_33 : decode cX1_init 33 = .ok (.iconst 3, 1) := by decide +kernel
theorem dX1_init_34 : decode cX1_init 34 = .ok (.anewarray 28, 3) := by decide +kernel
theorem dX1_init_37 : decode cX1_init 37 = .ok (.putfield 30, 3) := by decide +kernel
theorem dX1_init_40 : decode cX1_init 40 = .ok (.iconst 0, 1) := by decide +kernel
theorem dX1_init_41 : decode cX1_init 41 = .ok (.istore_n 1, 1) := by decide +kernel
theorem dX1_init_42 : decode cX1_init 42 = .ok (.iload_n 1, 1) := by decide +kernel
theorem dX1_init_43 : decode cX1_init 43 = .ok (.iconst 3, 1) := by decide +kernel
theorem dX1_init_44 : decode cX1_init 44 = .ok (.if_icmp .ge 25, 3) := by decide +kernel
theorem dX1_init_47 : decode cX1_init 47 = .ok (.aload_n 0, 1) := by decide +kernel
theorem dX1_init_48 : decode cX1_init 48 = .ok (.getfield 30, 3) := by decide +kernel
theorem dX1_init_51 : decode cX1_init 51 = .ok (.iload_n 1, 1) := by decide +kernel
theorem dX1_init_52 : decode cX1_init 52 = .ok (.new 28, 3) := by decide +kernel
theorem dX1_init_55 : decode cX1_init 55 = .ok (.dup, 1) := by decide +kernel
theorem dX1_init_56 : decode cX1_init 56 = .ok (.iload_n 1, 1) := by decide +kernel
theorem dX1_init_57 : decode cX1_init 57 = .ok (.iconst 0, 1) := by decide +kernel
theorem dX1_init_58 : decode cX1_init 58 = .ok (.iconst 1, 1) := by decide +kernel
theorem dX1_init_59 : decode cX1_init 59 = .ok (.invokespecial 34, 3) := by decide +kernel
theorem dX1_init_62 : decode cX1_init 62 = .ok (.aastore, 1) := by decide +kernel
theorem dX1_init_63 : decode cX1_init 63 = .ok (.iinc 1 1, 3) := by decide +kernel
theorem dX1_init_66 : decode cX1_init 66 = .ok (.goto (-24), 3) := by decide +kernel
theorem dX1_init_69 : decode cX1_init 69 = .ok (.return_, 1) := by decide +kernel
theorem dX1_drain_0 : decode cX1_drain 0 = .ok (.aload_n 0, 1) := by decide +kernel
theorem dX1_drain_1 : decode cX1_drain 1 = .ok (.iconst 0, 1) := by decide +kernel
theorem dX1_drain_2 : decode cX1_drain 2 = .ok (.putfield 9, 3) := by decide +kernel
theorem dX1_drain_5 : decode cX1_drain 5 = .ok (.aload_n 0, 1) := by decide +kernel
theorem dX1_drain_6 : decode cX1_drain 6 = .ok (.iconst 0, 1) := by decide +kernel
theorem dX1_drain_7 : decode cX1_drain 7 = .ok (.putfield 15, 3) := by decide +kernel
theorem dX1_drain_10 : decode cX1_drain 10 = .ok (.aload_n 0, 1) := by decide +kernel
theorem dX1_drain_11 : decode cX1_drain 11 = .ok (.iconst 0, 1) := by decide +kernel
theorem dX1_drain_12 : decode cX1_drain 12 = .ok (.putfield 18, 3) := by decide +kernel
theorem dX1_drain_15 : decode cX1_drain 15 = .ok (.aload_n 0, 1) := by decide +kernel
theorem dX1_drain_16 : decode cX1_drain 16 = .ok (.iconst 0, 1) := by decide +kernel
theorem dX1_drain_17 : decode cX1_drain 17 = .ok (.putfield 21, 3) := by decide +kernel
theorem dX1_drain_20 : decode cX1_drain 20 = .ok (.return_, 1) := by decide +kernel
theorem dX1_isThere_0 : decode cX1_isThere 0 = .ok (.aload_n 0, 1) := by decide +kernel
theorem dX1_isThere_1 : decode cX1_isThere 1 = .ok (.getfield 21, 3) := by decide +kernel
theorem dX1_isThere_4 : decode cX1_isThere 4 = .ok (.ifCond .le 7, 3) := by decide +kernel
theorem dX1_isThere_7 : decode cX1_isThere 7 = .ok (.iconst 1, 1) := by decide +kernel
theorem dX1_isThere_8 : decode cX1_isThere 8 = .ok (.goto 4, 3) := by decide +kernel
theorem dX1_isThere_11 : decode cX1_isThere 11 = .ok (.iconst 0, 1) := by decide +kernel
theorem dX1_isThere_12 : decode cX1_isThere 12 = .ok (.ireturn, 1) := by decide +kernel
theorem dX1_allBoats_0 : decode cX1_allBoats 0 = .ok (.iconst 1, 1) := by decide +kernel
theorem dX1_allBoats_1 : decode cX1_allBoats 1 = .ok (.aload_n 0, 1) := by decide +kernel
theorem dX1_allBoats_2 : decode cX1_allBoats 2 = .ok (.getfield 21, 3) := by decide +kernel
theorem dX1_allBoats_5 : decode cX1_allBoats 5 = .ok (.ishl, 1) := by decide +kernel
theorem dX1_allBoats_6 : decode cX1_allBoats 6 = .ok (.iconst 1, 1) := by decide +kernel
theorem dX1_allBoats_7 : decode cX1_allBoats 7 = .ok (.isub, 1) := by decide +kernel
theorem dX1_allBoats_8 : decode cX1_allBoats 8 = .ok (.ireturn, 1) := by decide +kernel
theorem dX1_hasIsle_0 : decode cX1_hasIsle 0 = .ok (.aload_n 0, 1) := by decide +kernel
theorem dX1_hasIsle_1 : decode cX1_hasIsle 1 = .ok (.getfield 15, 3) := by decide +kernel
theorem dX1_hasIsle_4 : decode cX1_hasIsle 4 = .ok (.iload_n 1, 1) := by decide +kernel
theorem dX1_hasIsle_5 : decode cX1_hasIsle 5 = .ok (.ishr, 1) := by decide +kernel
theorem dX1_hasIsle_6 : decode cX1_hasIsle 6 = .ok (.iconst 1, 1) := by decide +kernel
theorem dX1_hasIsle_7 : decode cX1_hasIsle 7 = .ok (.iand, 1) := by decide +kernel
theorem dX1_hasIsle_8 : decode cX1_hasIsle 8 = .ok (.iconst 1, 1) := by decide +kernel
theorem dX1_hasIsle_9 : decode cX1_hasIsle 9 = .ok (.if_icmp .ne 7, 3) := by decide +kernel
theorem dX1_hasIsle_12 : decode cX1_hasIsle 12 = .ok (.iconst 1, 1) := by decide +kernel
theorem dX1_hasIsle_13 : decode cX1_hasIsle 13 = .ok (.goto 4, 3) := by decide +kernel
theorem dX1_hasIsle_16 : decode cX1_hasIsle 16 = .ok (.iconst 0, 1) := by decide +kernel
theorem dX1_hasIsle_17 : decode cX1_hasIsle 17 = .ok (.ireturn, 1) := by decide +kernel
theorem dX1_startOf_0 : decode cX1_startOf 0 = .ok (.aload_n 1, 1) := by decide +kernel
theorem dX1_startOf_1 : decode cX1_startOf 1 = .ok (.getfield 37, 3) := by decide +kernel
theorem dX1_startOf_4 : decode cX1_startOf 4 = .ok (.ifCond .ne 7, 3) := by decide +kernel
theorem dX1_startOf_7 : decode cX1_startOf 7 = .ok (.iconst 0, 1) := by decide +kernel
theorem dX1_startOf_8 : decode cX1_startOf 8 = .ok (.goto 7, 3) := by decide +kernel
theorem dX1_startOf_11 : decode cX1_startOf 11 = .ok (.aload_n 0, 1) := by decide +kernel
theorem dX1_startOf_12 : decode cX1_startOf 12 = .ok (.getfield 9, 3) := by decide +kernel
theorem dX1_startOf_15 : decode cX1_startOf 15 = .ok (.ireturn, 1) := by decide +kernel
theorem dX1_goalOf_0 : decode cX1_goalOf 0 = .ok (.aload_n 1, 1) := by decide +kernel
theorem dX1_goalOf_1 : decode cX1_goalOf 1 = .ok (.getfield 37, 3) := by decide +kernel
theorem dX1_goalOf_4 : decode cX1_goalOf 4 = .ok (.ifCond .ne 10, 3) := by decide +kernel
theorem dX1_goalOf_7 : decode cX1_goalOf 7 = .ok (.aload_n 0, 1) := by decide +kernel
theorem dX1_goalOf_8 : decode cX1_goalOf 8 = .ok (.getfield 9, 3) := by decide +kernel
theorem dX1_goalOf_11 : decode cX1_goalOf 11 = .ok (.goto 4, 3) := by decide +kernel
theorem dX1_goalOf_14 : decode cX1_goalOf 14 = .ok (.iconst 0, 1) := by decide +kernel
theorem dX1_goalOf_15 : decode cX1_goalOf 15 = .ok (.ireturn, 1) := by decide +kernel
theorem dX1_isWith_0 : decode cX1_isWith 0 = .ok (.iload_n 2, 1) := by decide +kernel
theorem dX1_isWith_1 : decode cX1_isWith 1 = .ok (.aload_n 1, 1) := by decide +kernel
theorem dX1_isWith_2 : decode cX1_isWith 2 = .ok (.getfield 37, 3) := by decide +kernel
theorem dX1_isWith_5 : decode cX1_isWith 5 = .ok (.ifCond .ne 7, 3) := by decide +kernel
theorem dX1_isWith_8 : decode cX1_isWith 8 = .ok (.iconst 1, 1) := by decide +kernel
theorem dX1_isWith_9 : decode cX1_isWith 9 = .ok (.goto 4, 3) := by decide +kernel
theorem dX1_isWith_12 : decode cX1_isWith 12 = .ok (.iconst 2, 1) := by decide +kernel
theorem dX1_isWith_13 : decode cX1_isWith 13 = .ok (.if_icmp .ne 7, 3) := by decide +kernel
theorem dX1_isWith_16 : decode cX1_isWith 16 = .ok (.iconst 1, 1) := by decide +kernel
theorem dX1_isWith_17 : decode cX1_isWith 17 = .ok (.goto 4, 3) := by decide +kernel
theorem dX1_isWith_20 : decode cX1_isWith 20 = .ok (.iconst 0, 1) := by decide +kernel
theorem dX1_isWith_21 : decode cX1_isWith 21 = .ok (.ireturn, 1) := by decide +kernel
theorem dX1_countsWith_0 : decode cX1_countsWith 0 = .ok (.aload_n 1, 1) := by decide +kernel
theorem dX1_countsWith_1 : decode cX1_countsWith 1 = .ok (.invokevirtual 40, 3) := by decide +kernel
theorem dX1_countsWith_4 : decode cX1_countsWith 4 = .ok (.ifCond .eq 16, 3) := by decide +kernel
theorem dX1_countsWith_7 : decode cX1_countsWith 7 = .ok (.aload_n 0, 1) := by decide +kernel
theorem dX1_countsWith_8 : decode cX1_countsWith 8 = .ok (.aload_n 1, 1) := by decide +kernel
theorem dX1_countsWith_9 : decode cX1_countsWith 9 = .ok (.iload_n 2, 1) := by decide +kernel
theorem dX1_countsWith_10 : decode cX1_countsWith 10 = .ok (.invokevirtual 44, 3) := by decide +kernel
theorem dX1_countsWith_13 : decode cX1_countsWith 13 = .ok (.ifCond .eq 7, 3) := by decide +kernel
theorem dX1_countsWith_16 : decode cX1_countsWith 16 = .ok (.iconst 1, 1) := by decide +kernel
theorem dX1_countsWith_17 : decode cX1_countsWith 17 = .ok (.goto 4, 3) := by decide +kernel
theorem dX1_countsWith_20 : decode cX1_countsWith 20 = .ok (.iconst 0, 1) := by decide +kernel
theorem dX1_countsWith_21 : decode cX1_countsWith 21 = .ok (.ireturn, 1) := by decide +kernel
theorem dX1_cellAfter_0 : decode cX1_cellAfter 0 = .ok (.iload_n 3, 1) := by decide +kernel
theorem dX1_cellAfter_1 : decode cX1_cellAfter 1 = .ok (.ifCond .eq 12, 3) := by decide +kernel
theorem dX1_cellAfter_4 : decode cX1_cellAfter 4 = .ok (.iload_n 2, 1) := by decide +kernel
theorem dX1_cellAfter_5 : decode cX1_cellAfter 5 = .ok (.aload_n 0, 1) := by decide +kernel
theorem dX1_cellAfter_6 : decode cX1_cellAfter 6 = .ok (.aload_n 1, 1) := by decide +kernel
theorem dX1_cellAfter_7 : decode cX1_cellAfter 7 = .ok (.invokevirtual 48, 3) := by decide +kernel
theorem dX1_cellAfter_10 : decode cX1_cellAfter 10 = .ok (.if_icmp .ne 5, 3) := by decide +kernel
theorem dX1_cellAfter_13 : decode cX1_cellAfter 13 = .ok (.iload_n 2, 1) := by decide +kernel
theorem dX1_cellAfter_14 : decode cX1_cellAfter 14 = .ok (.ireturn, 1) := by decide +kernel
theorem dX1_cellAfter_15 : decode cX1_cellAfter 15 = .ok (.iload 4, 2) := by decide +kernel
theorem dX1_cellAfter_17 : decode cX1_cellAfter 17 = .ok (.ifCond .eq 55, 3) := by decide +kernel
theorem dX1_cellAfter_20 : decode cX1_cellAfter 20 = .ok (.aload_n 0, 1) := by decide +kernel
theorem dX1_cellAfter_21 : decode cX1_cellAfter 21 = .ok (.aload_n 1, 1) := by decide +kernel
theorem dX1_cellAfter_22 : decode cX1_cellAfter 22 = .ok (.iload_n 3, 1) := by decide +kernel
theorem dX1_cellAfter_23 : decode cX1_cellAfter 23 = .ok (.invokevirtual 44, 3) := by decide +kernel
theorem dX1_cellAfter_26 : decode cX1_cellAfter 26 = .ok (.ifCond .eq 10, 3) := by decide +kernel
theorem dX1_cellAfter_29 : decode cX1_cellAfter 29 = .ok (.aload_n 1, 1) := by decide +kernel
theorem dX1_cellAfter_30 : decode cX1_cellAfter 30 = .ok (.getfield 52, 3) := by decide +kernel
theorem dX1_cellAfter_33 : decode cX1_cellAfter 33 = .ok (.goto 7, 3) := by decide +kernel
theorem dX1_cellAfter_36 : decode cX1_cellAfter 36 = .ok (.aload_n 1, 1) := by decide +kernel
theorem dX1_cellAfter_37 : decode cX1_cellAfter 37 = .ok (.invokevirtual 55, 3) := by decide +kernel
theorem dX1_cellAfter_40 : decode cX1_cellAfter 40 = .ok (.istore 5, 2) := by decide +kernel
theorem dX1_cellAfter_42 : decode cX1_cellAfter 42 = .ok (.aload_n 1, 1) := by decide +kernel
theorem dX1_cellAfter_43 : decode cX1_cellAfter 43 = .ok (.getfield 37, 3) := by decide +kernel
theorem dX1_cellAfter_46 : decode cX1_cellAfter 46 = .ok (.ifCond .ne 17, 3) := by decide +kernel
theorem dX1_cellAfter_49 : decode cX1_cellAfter 49 = .ok (.aload_n 0, 1) := by decide +kernel
theorem dX1_cellAfter_50 : decode cX1_cellAfter 50 = .ok (.getfield 9, 3) := by decide +kernel
theorem dX1_cellAfter_53 : decode cX1_cellAfter 53 = .ok (.iload_n 2, 1) := by decide +kernel
theorem dX1_cellAfter_54 : decode cX1_cellAfter 54 = .ok (.iload 5, 2) := by decide +kernel
theorem dX1_cellAfter_56 : decode cX1_cellAfter 56 = .ok (.iadd, 1) := by decide +kernel
theorem dX1_cellAfter_57 : decode cX1_cellAfter 57 = .ok (.invokestatic 59, 3) := by decide +kernel
theorem dX1_cellAfter_60 : decode cX1_cellAfter 60 = .ok (.goto 11, 3) := by decide +kernel
theorem dX1_cellAfter_63 : decode cX1_cellAfter 63 = .ok (.iconst 0, 1) := by decide +kernel
theorem dX1_cellAfter_64 : decode cX1_cellAfter 64 = .ok (.iload_n 2, 1) := by decide +kernel
theorem dX1_cellAfter_65 : decode cX1_cellAfter 65 = .ok (.iload 5, 2) := by decide +kernel
theorem dX1_cellAfter_67 : decode cX1_cellAfter 67 = .ok (.isub, 1) := by decide +kernel
theorem dX1_cellAfter_68 : decode cX1_cellAfter 68 = .ok (.invokestatic 65, 3) := by decide +kernel
theorem dX1_cellAfter_71 : decode cX1_cellAfter 71 = .ok (.ireturn, 1) := by decide +kernel
theorem dX1_cellAfter_72 : decode cX1_cellAfter 72 = .ok (.iload_n 2, 1) := by decide +kernel
theorem dX1_cellAfter_73 : decode cX1_cellAfter 73 = .ok (.ifCond .eq 19, 3) := by decide +kernel
theorem dX1_cellAfter_76 : decode cX1_cellAfter 76 = .ok (.iload_n 2, 1) := by decide +kernel
theorem dX1_cellAfter_77 : decode cX1_cellAfter 77 = .ok (.aload_n 0, 1) := by decide +kernel
theorem dX1_cellAfter_78 : decode cX1_cellAfter 78 = .ok (.getfield 9, 3) := by decide +kernel
theorem dX1_cellAfter_81 : decode cX1_cellAfter 81 = .ok (.if_icmp .eq 11, 3) := by decide +kernel
theorem dX1_cellAfter_84 : decode cX1_cellAfter 84 = .ok (.aload_n 0, 1) := by decide +kernel
theorem dX1_cellAfter_85 : decode cX1_cellAfter 85 = .ok (.iload_n 2, 1) := by decide +kernel
theorem dX1_cellAfter_86 : decode cX1_cellAfter 86 = .ok (.invokevirtual 68, 3) := by decide +kernel
theorem dX1_cellAfter_89 : decode cX1_cellAfter 89 = .ok (.ifCond .eq 5, 3) := by decide +kernel
theorem dX1_cellAfter_92 : decode cX1_cellAfter 92 = .ok (.iload_n 2, 1) := by decide +kernel
theorem dX1_cellAfter_93 : decode cX1_cellAfter 93 = .ok (.ireturn, 1) := by decide +kernel
theorem dX1_cellAfter_94 : decode cX1_cellAfter 94 = .ok (.iload_n 3, 1) := by decide +kernel
theorem dX1_cellAfter_95 : decode cX1_cellAfter 95 = .ok (.iconst 1, 1) := by decide +kernel
theorem dX1_cellAfter_96 : decode cX1_cellAfter 96 = .ok (.if_icmp .ne 9, 3) := by decide +kernel
theorem dX1_cellAfter_99 : decode cX1_cellAfter 99 = .ok (.iload_n 2, 1) := by decide +kernel
theorem dX1_cellAfter_100 : decode cX1_cellAfter 100 = .ok (.iconst 1, 1) := by decide +kernel
theorem dX1_cellAfter_101 : decode cX1_cellAfter 101 = .ok (.iadd, 1) := by decide +kernel
theorem dX1_cellAfter_102 : decode cX1_cellAfter 102 = .ok (.goto 6, 3) := by decide +kernel
theorem dX1_cellAfter_105 : decode cX1_cellAfter 105 = .ok (.iload_n 2, 1) := by decide +kernel
theorem dX1_cellAfter_106 : decode cX1_cellAfter 106 = .ok (.iconst 1, 1) := by decide +kernel
theorem dX1_cellAfter_107 : decode cX1_cellAfter 107 = .ok (.isub, 1) := by decide +kernel
theorem dX1_cellAfter_108 : decode cX1_cellAfter 108 = .ok (.ireturn, 1) := by decide +kernel
theorem dX1_states_0 : decode cX1_states 0 = .ok (.iconst 1, 1) := by decide +kernel
theorem dX1_states_1 : decode cX1_states 1 = .ok (.istore_n 1, 1) := by decide +kernel
theorem dX1_states_2 : decode cX1_states 2 = .ok (.iconst 0, 1) := by decide +kernel
theorem dX1_states_3 : decode cX1_states 3 = .ok (.istore_n 2, 1) := by decide +kernel
theorem dX1_states_4 : decode cX1_states 4 = .ok (.iload_n 2, 1) := by decide +kernel
theorem dX1_states_5 : decode cX1_states 5 = .ok (.aload_n 0, 1) := by decide +kernel
theorem dX1_states_6 : decode cX1_states 6 = .ok (.getfield 21, 3) := by decide +kernel
theorem dX1_states_9 : decode cX1_states 9 = .ok (.if_icmp .ge 18, 3) := by decide +kernel
theorem dX1_states_12 : decode cX1_states 12 = .ok (.iload_n 1, 1) := by decide +kernel
theorem dX1_states_13 : decode cX1_states 13 = .ok (.aload_n 0, 1) := by decide +kernel
theorem dX1_states_14 : decode cX1_states 14 = .ok (.getfield 9, 3) := by decide +kernel
theorem dX1_states_17 : decode cX1_states 17 = .ok (.iconst 1, 1) := by decide +kernel
theorem dX1_states_18 : decode cX1_states 18 = .ok (.iadd, 1) := by decide +kernel
theorem dX1_states_19 : decode cX1_states 19 = .ok (.imul, 1) := by decide +kernel
theorem dX1_states_20 : decode cX1_states 20 = .ok (.istore_n 1, 1) := by decide +kernel
theorem dX1_states_21 : decode cX1_states 21 = .ok (.iinc 2 1, 3) := by decide +kernel
theorem dX1_states_24 : decode cX1_states 24 = .ok (.goto (-20), 3) := by decide +kernel
theorem dX1_states_27 : decode cX1_states 27 = .ok (.iload_n 1, 1) := by decide +kernel
theorem dX1_states_28 : decode cX1_states 28 = .ok (.ireturn, 1) := by decide +kernel
theorem dX2_init_0 : decode cX2_init 0 = .ok (.aload_n 0, 1) := by decide +kernel
theorem dX2_init_1 : decode cX2_init 1 = .ok (.iload_n 1, 1) := by decide +kernel
theorem dX2_init_2 : decode cX2_init 2 = .ok (.iload_n 2, 1) := by decide +kernel
theorem dX2_init_3 : decode cX2_init 3 = .ok (.iload_n 3, 1) := by decide +kernel
theorem dX2_init_4 : decode cX2_init 4 = .ok (.invokespecial 1, 3) := by decide +kernel
theorem dX2_init_7 : decode cX2_init 7 = .ok (.return_, 1) := by decide +kernel
theorem dX2_kindNumber_0 : decode cX2_kindNumber 0 = .ok (.iconst 1, 1) := by decide +kernel
theorem dX2_kindNumber_1 : decode cX2_kindNumber 1 = .ok (.ireturn, 1) := by decide +kernel
theorem dX2_goesAgainst_0 : decode cX2_goesAgainst 0 = .ok (.aload_n 0, 1) := by decide +kernel
theorem dX2_goesAgainst_1 : decode cX2_goesAgainst 1 = .ok (.getfield 7, 3) := by decide +kernel
theorem dX2_goesAgainst_4 : decode cX2_goesAgainst 4 = .ok (.iconst 1, 1) := by decide +kernel
theorem dX2_goesAgainst_5 : decode cX2_goesAgainst 5 = .ok (.iadd, 1) := by decide +kernel
theorem dX2_goesAgainst_6 : decode cX2_goesAgainst 6 = .ok (.ireturn, 1) := by decide +kernel
theorem dX2_telling_0 : decode cX2_telling 0 = .ok (.aload_n 1, 1) := by decide +kernel
theorem dX2_telling_1 : decode cX2_telling 1 = .ok (.iconst 2, 1) := by decide +kernel
theorem dX2_telling_2 : decode cX2_telling 2 = .ok (.invokevirtual 13, 3) := by decide +kernel
theorem dX2_telling_5 : decode cX2_telling 5 = .ok (.aload_n 0, 1) := by decide +kernel
theorem dX2_telling_6 : decode cX2_telling 6 = .ok (.aload_n 1, 1) := by decide +kernel
theorem dX2_telling_7 : decode cX2_telling 7 = .ok (.invokespecial 19, 3) := by decide +kernel
theorem dX2_telling_10 : decode cX2_telling 10 = .ok (.bipush 100, 2) := by decide +kernel
theorem dX2_telling_12 : decode cX2_telling 12 = .ok (.iadd, 1) := by decide +kernel
theorem dX2_telling_13 : decode cX2_telling 13 = .ok (.ireturn, 1) := by decide +kernel
theorem dX3_init_0 : decode cX3_init 0 = .ok (.aload_n 0, 1) := by decide +kernel
theorem dX3_init_1 : decode cX3_init 1 = .ok (.invokespecial 3, 3) := by decide +kernel
theorem dX3_init_4 : decode cX3_init 4 = .ok (.aload_n 0, 1) := by decide +kernel
theorem dX3_init_5 : decode cX3_init 5 = .ok (.iconst 0, 1) := by decide +kernel
theorem dX3_init_6 : decode cX3_init 6 = .ok (.putfield 9, 3) := by decide +kernel
theorem dX3_init_9 : decode cX3_init 9 = .ok (.aload_n 0, 1) := by decide +kernel
theorem dX3_init_10 : decode cX3_init 10 = .ok (.bipush 8, 2) := by decide +kernel
theorem dX3_init_12 : decode cX3_init 12 = .ok (.newarray .int, 2) := by decide +kernel
theorem dX3_init_14 : decode cX3_init 14 = .ok (.putfield 15, 3) := by decide +kernel
theorem dX3_init_17 : decode cX3_init 17 = .ok (.aload_n 0, 1) := by decide +kernel
theorem dX3_init_18 : decode cX3_init 18 = .ok (.bipush 8, 2) := by decide +kernel
theorem dX3_init_20 : decode cX3_init 20 = .ok (.newarray .int, 2) := by decide +kernel
theorem dX3_init_22 : decode cX3_init 22 = .ok (.putfield 19, 3) := by decide +kernel
theorem dX3_init_25 : decode cX3_init 25 = .ok (.aload_n 0, 1) := by decide +kernel
theorem dX3_init_26 : decode cX3_init 26 = .ok (.bipush 8, 2) := by decide +kernel
theorem dX3_init_28 : decode cX3_init 28 = .ok (.newarray .int, 2) := by decide +kernel
theorem dX3_init_30 : decode cX3_init 30 = .ok (.putfield 22, 3) := by decide +kernel
theorem dX3_init_33 : decode cX3_init 33 = .ok (.return_, 1) := by decide +kernel
theorem dX3_add_0 : decode cX3_add 0 = .ok (.aload_n 0, 1) := by decide +kernel
theorem dX3_add_1 : decode cX3_add 1 = .ok (.getfield 9, 3) := by decide +kernel
theorem dX3_add_4 : decode cX3_add 4 = .ok (.bipush 8, 2) := by decide +kernel
theorem dX3_add_6 : decode cX3_add 6 = .ok (.if_icmp .lt 6, 3) := by decide +kernel
theorem dX3_add_9 : decode cX3_add 9 = .ok (.bipush (-4), 2) := by decide +kernel
theorem dX3_add_11 : decode cX3_add 11 = .ok (.ireturn, 1) := by decide +kernel
theorem dX3_add_12 : decode cX3_add 12 = .ok (.aload_n 0, 1) := by decide +kernel
theorem dX3_add_13 : decode cX3_add 13 = .ok (.getfield 15, 3) := by decide +kernel
theorem dX3_add_16 : decode cX3_add 16 = .ok (.aload_n 0, 1) := by decide +kernel
theorem dX3_add_17 : decode cX3_add 17 = .ok (.getfield 9, 3) := by decide +kernel
theorem dX3_add_20 : decode cX3_add 20 = .ok (.iload_n 1, 1) := by decide +kernel
theorem dX3_add_21 : decode cX3_add 21 = .ok (.iastore, 1) := by decide +kernel
theorem dX3_add_22 : decode cX3_add 22 = .ok (.aload_n 0, 1) := by decide +kernel
theorem dX3_add_23 : decode cX3_add 23 = .ok (.getfield 19, 3) := by decide +kernel
theorem dX3_add_26 : decode cX3_add 26 = .ok (.aload_n 0, 1) := by decide +kernel
theorem dX3_add_27 : decode cX3_add 27 = .ok (.getfield 9, 3) := by decide +kernel
theorem dX3_add_30 : decode cX3_add 30 = .ok (.iload_n 2, 1) := by decide +kernel
theorem dX3_add_31 : decode cX3_add 31 = .ok (.iastore, 1) := by decide +kernel
theorem dX3_add_32 : decode cX3_add 32 = .ok (.aload_n 0, 1) := by decide +kernel
theorem dX3_add_33 : decode cX3_add 33 = .ok (.getfield 22, 3) := by decide +kernel
theorem dX3_add_36 : decode cX3_add 36 = .ok (.aload_n 0, 1) := by decide +kernel
theorem dX3_add_37 : decode cX3_add 37 = .ok (.getfield 9, 3) := by decide +kernel
theorem dX3_add_40 : decode cX3_add 40 = .ok (.iload_n 3, 1) := by decide +kernel
theorem dX3_add_41 : decode cX3_add 41 = .ok (.iastore, 1) := by decide +kernel
theorem dX3_add_42 : decode cX3_add 42 = .ok (.aload_n 0, 1) := by decide +kernel
theorem dX3_add_43 : decode cX3_add 43 = .ok (.dup, 1) := by decide +kernel
theorem dX3_add_44 : decode cX3_add 44 = .ok (.getfield 9, 3) := by decide +kernel
theorem dX3_add_47 : decode cX3_add 47 = .ok (.iconst 1, 1) := by decide +kernel
theorem dX3_add_48 : decode cX3_add 48 = .ok (.iadd, 1) := by decide +kernel
theorem dX3_add_49 : decode cX3_add 49 = .ok (.putfield 9, 3) := by decide +kernel
theorem dX3_add_52 : decode cX3_add 52 = .ok (.aload_n 0, 1) := by decide +kernel
theorem dX3_add_53 : decode cX3_add 53 = .ok (.getfield 9, 3) := by decide +kernel
theorem dX3_add_56 : decode cX3_add 56 = .ok (.iconst 1, 1) := by decide +kernel
theorem dX3_add_57 : decode cX3_add 57 = .ok (.isub, 1) := by decide +kernel
theorem dX3_add_58 : decode cX3_add 58 = .ok (.ireturn, 1) := by decide +kernel
theorem dX3_areWithin_0 : decode cX3_areWithin 0 = .ok (.iconst 0, 1) := by decide +kernel
theorem dX3_areWithin_1 : decode cX3_areWithin 1 = .ok (.istore_n 2, 1) := by decide +kernel
theorem dX3_areWithin_2 : decode cX3_areWithin 2 = .ok (.iload_n 2, 1) := by decide +kernel
theorem dX3_areWithin_3 : decode cX3_areWithin 3 = .ok (.aload_n 0, 1) := by decide +kernel
theorem dX3_areWithin_4 : decode cX3_areWithin 4 = .ok (.getfield 9, 3) := by decide +kernel
theorem dX3_areWithin_7 : decode cX3_areWithin 7 = .ok (.if_icmp .ge 21, 3) := by decide +kernel
theorem dX3_areWithin_10 : decode cX3_areWithin 10 = .ok (.aload_n 0, 1) := by decide +kernel
theorem dX3_areWithin_11 : decode cX3_areWithin 11 = .ok (.getfield 19, 3) := by decide +kernel
theorem dX3_areWithin_14 : decode cX3_areWithin 14 = .ok (.iload_n 2, 1) := by decide +kernel
theorem dX3_areWithin_15 : decode cX3_areWithin 15 = .ok (.iaload, 1) := by decide +kernel
theorem dX3_areWithin_16 : decode cX3_areWithin 16 = .ok (.iload_n 1, 1) := by decide +kernel
theorem dX3_areWithin_17 : decode cX3_areWithin 17 = .ok (.if_icmp .lt 5, 3) := by decide +kernel
theorem dX3_areWithin_20 : decode cX3_areWithin 20 = .ok (.iconst 0, 1) := by decide +kernel
theorem dX3_areWithin_21 : decode cX3_areWithin 21 = .ok (.ireturn, 1) := by decide +kernel
theorem dX3_areWithin_22 : decode cX3_areWithin 22 = .ok (.iinc 2 1, 3) := by decide +kernel
theorem dX3_areWithin_25 : decode cX3_areWithin 25 = .ok (.goto (-23), 3) := by decide +kernel
theorem dX3_areWithin_28 : decode cX3_areWithin 28 = .ok (.iconst 1, 1) := by decide +kernel
theorem dX3_areWithin_29 : decode cX3_areWithin 29 = .ok (.ireturn, 1) := by decide +kernel
theorem dX3_areSo_0 : decode cX3_areSo 0 = .ok (.iconst 0, 1) := by decide +kernel
theorem dX3_areSo_1 : decode cX3_areSo 1 = .ok (.istore_n 3, 1) := by decide +kernel
theorem dX3_areSo_2 : decode cX3_areSo 2 = .ok (.iload_n 3, 1) := by decide +kernel
theorem dX3_areSo_3 : decode cX3_areSo 3 = .ok (.aload_n 0, 1) := by decide +kernel
theorem dX3_areSo_4 : decode cX3_areSo 4 = .ok (.getfield 9, 3) := by decide +kernel
theorem dX3_areSo_7 : decode cX3_areSo 7 = .ok (.if_icmp .ge 38, 3) := by decide +kernel
theorem dX3_areSo_10 : decode cX3_areSo 10 = .ok (.aload_n 0, 1) := by decide +kernel
theorem dX3_areSo_11 : decode cX3_areSo 11 = .ok (.getfield 19, 3) := by decide +kernel
theorem dX3_areSo_14 : decode cX3_areSo 14 = .ok (.iload_n 3, 1) := by decide +kernel
theorem dX3_areSo_15 : decode cX3_areSo 15 = .ok (.iaload, 1) := by decide +kernel
theorem dX3_areSo_16 : decode cX3_areSo 16 = .ok (.iload_n 1, 1) := by decide +kernel
theorem dX3_areSo_17 : decode cX3_areSo 17 = .ok (.if_icmp .ne 22, 3) := by decide +kernel
theorem dX3_areSo_20 : decode cX3_areSo 20 = .ok (.aload_n 2, 1) := by decide +kernel
theorem dX3_areSo_21 : decode cX3_areSo 21 = .ok (.aload_n 0, 1) := by decide +kernel
theorem dX3_areSo_22 : decode cX3_areSo 22 = .ok (.getfield 15, 3) := by decide +kernel
theorem dX3_areSo_25 : decode cX3_areSo 25 = .ok (.iload_n 3, 1) := by decide +kernel
theorem dX3_areSo_26 : decode cX3_areSo 26 = .ok (.iaload, 1) := by decide +kernel
theorem dX3_areSo_27 : decode cX3_areSo 27 = .ok (.iaload, 1) := by decide +kernel
theorem dX3_areSo_28 : decode cX3_areSo 28 = .ok (.aload_n 0, 1) := by decide +kernel
theorem dX3_areSo_29 : decode cX3_areSo 29 = .ok (.getfield 22, 3) := by decide +kernel
theorem dX3_areSo_32 : decode cX3_areSo 32 = .ok (.iload_n 3, 1) := by decide +kernel
theorem dX3_areSo_33 : decode cX3_areSo 33 = .ok (.iaload, 1) := by decide +kernel
theorem dX3_areSo_34 : decode cX3_areSo 34 = .ok (.if_icmp .eq 5, 3) := by decide +kernel
theorem dX3_areSo_37 : decode cX3_areSo 37 = .ok (.iconst 0, 1) := by decide +kernel
theorem dX3_areSo_38 : decode cX3_areSo 38 = .ok (.ireturn, 1) := by decide +kernel
theorem dX3_areSo_39 : decode cX3_areSo 39 = .ok (.iinc 3 1, 3) := by decide +kernel
theorem dX3_areSo_42 : decode cX3_areSo 42 = .ok (.goto (-40), 3) := by decide +kernel
theorem dX3_areSo_45 : decode cX3_areSo 45 = .ok (.iconst 1, 1) := by decide +kernel
theorem dX3_areSo_46 : decode cX3_areSo 46 = .ok (.ireturn, 1) := by decide +kernel
theorem dX4_init_0 : decode cX4_init 0 = .ok (.aload_n 0, 1) := by decide +kernel
theorem dX4_init_1 : decode cX4_init 1 = .ok (.invokespecial 3, 3) := by decide +kernel
theorem dX4_init_4 : decode cX4_init 4 = .ok (.aload_n 0, 1) := by decide +kernel
theorem dX4_init_5 : decode cX4_init 5 = .ok (.iconst 1, 1) := by decide +kernel
theorem dX4_init_6 : decode cX4_init 6 = .ok (.putfield 9, 3) := by decide +kernel
theorem dX4_init_9 : decode cX4_init 9 = .ok (.aload_n 0, 1) := by decide +kernel
theorem dX4_init_10 : decode cX4_init 10 = .ok (.iconst 0, 1) := by decide +kernel
theorem dX4_init_11 : decode cX4_init 11 = .ok (.putfield 15, 3) := by decide +kernel
theorem dX4_init_14 : decode cX4_init 14 = .ok (.aload_n 0, 1) := by decide +kernel
theorem dX4_init_15 : decode cX4_init 15 = .ok (.iconst 0, 1) := by decide +kernel
theorem dX4_init_16 : decode cX4_init 16 = .ok (.putfield 19, 3) := by decide +kernel
theorem dX4_init_19 : decode cX4_init 19 = .ok (.aload_n 0, 1) := by decide +kernel
theorem dX4_init_20 : decode cX4_init 20 = .ok (.sipush 250, 3) := by decide +kernel
theorem dX4_init_23 : decode cX4_init 23 = .ok (.newarray .long, 2) := by decide +kernel
theorem dX4_init_25 : decode cX4_init 25 = .ok (.putfield 22, 3) := by decide +kernel
theorem dX4_init_28 : decode cX4_init 28 = .ok (.aload_n 0, 1) := by decide +kernel
theorem dX4_init_29 : decode cX4_init 29 = .ok (.sipush 250, 3) := by decide +kernel
theorem dX4_init_32 : decode cX4_init 32 = .ok (.newarray .long, 2) := by decide +kernel
theorem dX4_init_34 : decode cX4_init 34 = .ok (.putfield 26, 3) := by decide +kernel
theorem dX4_init_37 : decode cX4_init 37 = .ok (.aload_n 0, 1) := by decide +kernel
theorem dX4_init_38 : decode cX4_init 38 = .ok (.bipush 125, 2) := by decide +kernel
theorem dX4_init_40 : decode cX4_init 40 = .ok (.newarray .int, 2) := by decide +kernel
theorem dX4_init_42 : decode cX4_init 42 = .ok (.putfield 29, 3) := by decide +kernel
theorem dX4_init_45 : decode cX4_init 45 = .ok (.aload_n 0, 1) := by decide +kernel
theorem dX4_init_46 : decode cX4_init 46 = .ok (.bipush 8, 2) := by decide +kernel
theorem dX4_init_48 : decode cX4_init 48 = .ok (.newarray .int, 2) := by decide +kernel
theorem dX4_init_50 : decode cX4_init 50 = .ok (.putfield 33, 3) := by decide +kernel
theorem dX4_init_53 : decode cX4_init 53 = .ok (.aload_n 0, 1) := by decide +kernel
theorem dX4_init_54 : decode cX4_init 54 = .ok (.bipush 8, 2) := by decide +kernel
theorem dX4_init_56 : decode cX4_init 56 = .ok (.newarray .int, 2) := by decide +kernel
theorem dX4_init_58 : decode cX4_init 58 = .ok (.putfield 36, 3) := by decide +kernel
theorem dX4_init_61 : decode cX4_init 61 = .ok (.aload_n 0, 1) := by decide +kernel
theorem dX4_init_62 : decode cX4_init 62 = .ok (.new 39, 3) := by decide +kernel
theorem dX4_init_65 : decode cX4_init 65 = .ok (.dup, 1) := by decide +kernel
theorem dX4_init_66 : decode cX4_init 66 = .ok (.invokespecial 41, 3) := by decide +kernel
theorem dX4_init_69 : decode cX4_init 69 = .ok (.putfield 42, 3) := by decide +kernel
theorem dX4_init_72 : decode cX4_init 72 = .ok (.aload_n 0, 1) := by decide +kernel
theorem dX4_init_73 : decode cX4_init 73 = .ok (.new 46, 3) := by decide +kernel
theorem dX4_init_76 : decode cX4_init 76 = .ok (.dup, 1) := by decide +kernel
theorem dX4_init_77 : decode cX4_init 77 = .ok (.invokespecial 48, 3) := by decide +kernel
theorem dX4_init_80 : decode cX4_init 80 = .ok (.putfield 49, 3) := by decide +kernel
theorem dX4_init_83 : decode cX4_init 83 = .ok (.aload_n 0, 1) := by decide +kernel
theorem dX4_init_84 : decode cX4_init 84 = .ok (.new 46, 3) := by decide +kernel
theorem dX4_init_87 : decode cX4_init 87 = .ok (.dup, 1) := by decide +kernel
theorem dX4_init_88 : decode cX4_init 88 = .ok (.invokespecial 48, 3) := by decide +kernel
theorem dX4_init_91 : decode cX4_init 91 = .ok (.putfield 53, 3) := by decide +kernel
theorem dX4_init_94 : decode cX4_init 94 = .ok (.aload_n 0, 1) := by decide +kernel
theorem dX4_init_95 : decode cX4_init 95 = .ok (.bipush 11, 2) := by decide +kernel
theorem dX4_init_97 : decode cX4_init 97 = .ok (.anewarray 46, 3) := by decide +kernel
theorem dX4_init_100 : decode cX4_init 100 = .ok (.putfield 56, 3) := by decide +kernel
theorem dX4_init_103 : decode cX4_init 103 = .ok (.aload_n 0, 1) := by decide +kernel
theorem dX4_init_104 : decode cX4_init 104 = .ok (.bipush 10, 2) := by decide +kernel
theorem dX4_init_106 : decode cX4_init 106 = .ok (.anewarray 46, 3) := by decide +kernel
theorem dX4_init_109 : decode cX4_init 109 = .ok (.putfield 60, 3) := by decide +kernel
theorem dX4_init_112 : decode cX4_init 112 = .ok (.iconst 0, 1) := by decide +kernel
theorem dX4_init_113 : decode cX4_init 113 = .ok (.istore_n 1, 1) := by decide +kernel
theorem dX4_init_114 : decode cX4_init 114 = .ok (.iload_n 1, 1) := by decide +kernel
theorem dX4_init_115 : decode cX4_init 115 = .ok (.bipush 10, 2) := by decide +kernel
theorem dX4_init_117 : decode cX4_init 117 = .ok (.if_icmp .ge 35, 3) := by decide +kernel
theorem dX4_init_120 : decode cX4_init 120 = .ok (.aload_n 0, 1) := by decide +kernel
theorem dX4_init_121 : decode cX4_init 121 = .ok (.getfield 56, 3) := by decide +kernel
theorem dX4_init_124 : decode cX4_init 124 = .ok (.iload_n 1, 1) := by decide +kernel
theorem dX4_init_125 : decode cX4_init 125 = .ok (.new 46, 3) := by decide +kernel
theorem dX4_init_128 : decode cX4_init 128 = .ok (.dup, 1) := by decide +kernel
theorem dX4_init_129 : decode cX4_init 129 = .ok (.invokespecial 48, 3) := by decide +kernel
theorem dX4_init_132 : decode cX4_init 132 = .ok (.aastore, 1) := by decide +kernel
theorem dX4_init_133 : decode cX4_init 133 = .ok (.aload_n 0, 1) := by decide +kernel
theorem dX4_init_134 : decode cX4_init 134 = .ok (.getfield 60, 3) := by decide +kernel
theorem dX4_init_137 : decode cX4_init 137 = .ok (.iload_n 1, 1) := by decide +kernel
theorem dX4_init_138 : decode cX4_init 138 = .ok (.new 46, 3) := by decide +kernel
theorem dX4_init_141 : decode cX4_init 141 = .ok (.dup, 1) := by decide +kernel
theorem dX4_init_142 : decode cX4_init 142 = .ok (.invokespecial 48, 3) := by decide +kernel
theorem dX4_init_145 : decode cX4_init 145 = .ok (.aastore, 1) := by decide +kernel
theorem dX4_init_146 : decode cX4_init 146 = .ok (.iinc 1 1, 3) := by decide +kernel
theorem dX4_init_149 : decode cX4_init 149 = .ok (.goto (-35), 3) := by decide +kernel
theorem dX4_init_152 : decode cX4_init 152 = .ok (.aload_n 0, 1) := by decide +kernel
theorem dX4_init_153 : decode cX4_init 153 = .ok (.getfield 56, 3) := by decide +kernel
theorem dX4_init_156 : decode cX4_init 156 = .ok (.bipush 10, 2) := by decide +kernel
theorem dX4_init_158 : decode cX4_init 158 = .ok (.new 46, 3) := by decide +kernel
theorem dX4_init_161 : decode cX4_init 161 = .ok (.dup, 1) := by decide +kernel
theorem dX4_init_162 : decode cX4_init 162 = .ok (.invokespecial 48, 3) := by decide +kernel
theorem dX4_init_165 : decode cX4_init 165 = .ok (.aastore, 1) := by decide +kernel
theorem dX4_init_166 : decode cX4_init 166 = .ok (.return_, 1) := by decide +kernel
theorem dX4_fewestHours_0 : decode cX4_fewestHours 0 = .ok (.aload_n 0, 1) := by decide +kernel
theorem dX4_fewestHours_1 : decode cX4_fewestHours 1 = .ok (.aload_n 1, 1) := by decide +kernel
theorem dX4_fewestHours_2 : decode cX4_fewestHours 2 = .ok (.invokevirtual 63, 3) := by decide +kernel
theorem dX4_fewestHours_5 : decode cX4_fewestHours 5 = .ok (.aload_n 0, 1) := by decide +kernel
theorem dX4_fewestHours_6 : decode cX4_fewestHours 6 = .ok (.invokevirtual 67, 3) := by decide +kernel
theorem dX4_fewestHours_9 : decode cX4_fewestHours 9 = .ok (.iconst 0, 1) := by decide +kernel
theorem dX4_fewestHours_10 : decode cX4_fewestHours 10 = .ok (.istore_n 3, 1) := by decide +kernel
theorem dX4_fewestHours_11 : decode cX4_fewestHours 11 = .ok (.iload_n 3, 1) := by decide +kernel
theorem dX4_fewestHours_12 : decode cX4_fewestHours 12 = .ok (.aload_n 1, 1) := by decide +kernel
theorem dX4_fewestHours_13 : decode cX4_fewestHours 13 = .ok (.getfield 70, 3) := by decide +kernel
theorem dX4_fewestHours_16 : decode cX4_fewestHours 16 = .ok (.if_icmp .ge 37, 3) := by decide +kernel
theorem dX4_fewestHours_19 : decode cX4_fewestHours 19 = .ok (.aload_n 0, 1) := by decide +kernel
theorem dX4_fewestHours_20 : decode cX4_fewestHours 20 = .ok (.aload_n 0, 1) := by decide +kernel
theorem dX4_fewestHours_21 : decode cX4_fewestHours 21 = .ok (.getfield 49, 3) := by decide +kernel
theorem dX4_fewestHours_24 : decode cX4_fewestHours 24 = .ok (.iload_n 2, 1) := by decide +kernel
theorem dX4_fewestHours_25 : decode cX4_fewestHours 25 = .ok (.invokevirtual 75, 3) := by decide +kernel
theorem dX4_fewestHours_28 : decode cX4_fewestHours 28 = .ok (.ifCond .eq 5, 3) := by decide +kernel
theorem dX4_fewestHours_31 : decode cX4_fewestHours 31 = .ok (.iload_n 3, 1) := by decide +kernel
theorem dX4_fewestHours_32 : decode cX4_fewestHours 32 = .ok (.ireturn, 1) := by decide +kernel
theorem dX4_fewestHours_33 : decode cX4_fewestHours 33 = .ok (.aload_n 0, 1) := by decide +kernel
theorem dX4_fewestHours_34 : decode cX4_fewestHours 34 = .ok (.aload_n 0, 1) := by decide +kernel
theorem dX4_fewestHours_35 : decode cX4_fewestHours 35 = .ok (.getfield 49, 3) := by decide +kernel
theorem dX4_fewestHours_38 : decode cX4_fewestHours 38 = .ok (.aload_n 1, 1) := by decide +kernel
theorem dX4_fewestHours_39 : decode cX4_fewestHours 39 = .ok (.getfield 79, 3) := by decide +kernel
theorem dX4_fewestHours_42 : decode cX4_fewestHours 42 = .ok (.iload_n 3, 1) := by decide +kernel
theorem dX4_fewestHours_43 : decode cX4_fewestHours 43 = .ok (.iaload, 1) := by decide +kernel
theorem dX4_fewestHours_44 : decode cX4_fewestHours 44 = .ok (.invokevirtual 82, 3) := by decide +kernel
theorem dX4_fewestHours_47 : decode cX4_fewestHours 47 = .ok (.iinc 3 1, 3) := by decide +kernel
theorem dX4_fewestHours_50 : decode cX4_fewestHours 50 = .ok (.goto (-39), 3) := by decide +kernel
theorem dX4_fewestHours_53 : decode cX4_fewestHours 53 = .ok (.aload_n 0, 1) := by decide +kernel
theorem dX4_fewestHours_54 : decode cX4_fewestHours 54 = .ok (.aload_n 0, 1) := by decide +kernel
theorem dX4_fewestHours_55 : decode cX4_fewestHours 55 = .ok (.getfield 49, 3) := by decide +kernel
theorem dX4_fewestHours_58 : decode cX4_fewestHours 58 = .ok (.iload_n 2, 1) := by decide +kernel
theorem dX4_fewestHours_59 : decode cX4_fewestHours 59 = .ok (.invokevirtual 75, 3) := by decide +kernel
theorem dX4_fewestHours_62 : decode cX4_fewestHours 62 = .ok (.ifCond .eq 10, 3) := by decide +kernel
theorem dX4_fewestHours_65 : decode cX4_fewestHours 65 = .ok (.aload_n 1, 1) := by decide +kernel
theorem dX4_fewestHours_66 : decode cX4_fewestHours 66 = .ok (.getfield 70, 3) := by decide +kernel
theorem dX4_fewestHours_69 : decode cX4_fewestHours 69 = .ok (.goto 5, 3) := by decide +kernel
theorem dX4_fewestHours_72 : decode cX4_fewestHours 72 = .ok (.bipush (-9), 2) := by decide +kernel
theorem dX4_fewestHours_74 : decode cX4_fewestHours 74 = .ok (.ireturn, 1) := by decide +kernel
theorem dX4_fewestHats_0 : decode cX4_fewestHats 0 = .ok (.aload_n 0, 1) := by decide +kernel
theorem dX4_fewestHats_1 : decode cX4_fewestHats 1 = .ok (.aload_n 1, 1) := by decide +kernel
theorem dX4_fewestHats_2 : decode cX4_fewestHats 2 = .ok (.invokevirtual 63, 3) := by decide +kernel
theorem dX4_fewestHats_5 : decode cX4_fewestHats 5 = .ok (.aload_n 0, 1) := by decide +kernel
theorem dX4_fewestHats_6 : decode cX4_fewestHats 6 = .ok (.aload_n 1, 1) := by decide +kernel
theorem dX4_fewestHats_7 : decode cX4_fewestHats 7 = .ok (.iload_n 2, 1) := by decide +kernel
theorem dX4_fewestHats_8 : decode cX4_fewestHats 8 = .ok (.iload_n 3, 1) := by decide +kernel
theorem dX4_fewestHats_9 : decode cX4_fewestHats 9 = .ok (.invokevirtual 86, 3) := by decide +kernel
theorem dX4_fewestHats_12 : decode cX4_fewestHats 12 = .ok (.aload_n 0, 1) := by decide +kernel
theorem dX4_fewestHats_13 : decode cX4_fewestHats 13 = .ok (.getfield 56, 3) := by decide +kernel
theorem dX4_fewestHats_16 : decode cX4_fewestHats 16 = .ok (.iconst 0, 1) := by decide +kernel
theorem dX4_fewestHats_17 : decode cX4_fewestHats 17 = .ok (.aaload, 1) := by decide +kernel
theorem dX4_fewestHats_18 : decode cX4_fewestHats 18 = .ok (.aload_n 0, 1) := by decide +kernel
theorem dX4_fewestHats_19 : decode cX4_fewestHats 19 = .ok (.getfield 19, 3) := by decide +kernel
theorem dX4_fewestHats_22 : decode cX4_fewestHats 22 = .ok (.invokevirtual 90, 3) := by decide +kernel
theorem dX4_fewestHats_25 : decode cX4_fewestHats 25 = .ok (.ifCond .eq 5, 3) := by decide +kernel
theorem dX4_fewestHats_28 : decode cX4_fewestHats 28 = .ok (.iconst 0, 1) := by decide +kernel
theorem dX4_fewestHats_29 : decode cX4_fewestHats 29 = .ok (.ireturn, 1) := by decide +kernel
theorem dX4_fewestHats_30 : decode cX4_fewestHats 30 = .ok (.aload_n 0, 1) := by decide +kernel
theorem dX4_fewestHats_31 : decode cX4_fewestHats 31 = .ok (.aload_n 1, 1) := by decide +kernel
theorem dX4_fewestHats_32 : decode cX4_fewestHats 32 = .ok (.iload_n 3, 1) := by decide +kernel
theorem dX4_fewestHats_33 : decode cX4_fewestHats 33 = .ok (.invokevirtual 94, 3) := by decide +kernel
theorem dX4_fewestHats_36 : decode cX4_fewestHats 36 = .ok (.istore 4, 2) := by decide +kernel
theorem dX4_fewestHats_38 : decode cX4_fewestHats 38 = .ok (.iload 4, 2) := by decide +kernel
theorem dX4_fewestHats_40 : decode cX4_fewestHats 40 = .ok (.bipush (-9), 2) := by decide +kernel
theorem dX4_fewestHats_42 : decode cX4_fewestHats 42 = .ok (.if_icmp .eq 8, 3) := by decide +kernel
theorem dX4_fewestHats_45 : decode cX4_fewestHats 45 = .ok (.iload 4, 2) := by decide +kernel
theorem dX4_fewestHats_47 : decode cX4_fewestHats 47 = .ok (.goto 9, 3) := by decide +kernel
theorem dX4_fewestHats_50 : decode cX4_fewestHats 50 = .ok (.aload_n 0, 1) := by decide +kernel
theorem dX4_fewestHats_51 : decode cX4_fewestHats 51 = .ok (.aload_n 1, 1) := by decide +kernel
theorem dX4_fewestHats_52 : decode cX4_fewestHats 52 = .ok (.iload_n 3, 1) := by decide +kernel
theorem dX4_fewestHats_53 : decode cX4_fewestHats 53 = .ok (.invokevirtual 98, 3) := by decide +kernel
theorem dX4_fewestHats_56 : decode cX4_fewestHats 56 = .ok (.ireturn, 1) := by decide +kernel
theorem dX4_leastHat_0 : decode cX4_leastHat 0 = .ok (.aload_n 0, 1) := by decide +kernel
theorem dX4_leastHat_1 : decode cX4_leastHat 1 = .ok (.invokevirtual 67, 3) := by decide +kernel
theorem dX4_leastHat_4 : decode cX4_leastHat 4 = .ok (.iconst 0, 1) := by decide +kernel
theorem dX4_leastHat_5 : decode cX4_leastHat 5 = .ok (.istore_n 3, 1) := by decide +kernel
theorem dX4_leastHat_6 : decode cX4_leastHat 6 = .ok (.iload_n 3, 1) := by decide +kernel
theorem dX4_leastHat_7 : decode cX4_leastHat 7 = .ok (.iload_n 2, 1) := by decide +kernel
theorem dX4_leastHat_8 : decode cX4_leastHat 8 = .ok (.if_icmp .ge 77, 3) := by decide +kernel
theorem dX4_leastHat_11 : decode cX4_leastHat 11 = .ok (.aload_n 0, 1) := by decide +kernel
theorem dX4_leastHat_12 : decode cX4_leastHat 12 = .ok (.aload_n 0, 1) := by decide +kernel
theorem dX4_leastHat_13 : decode cX4_leastHat 13 = .ok (.getfield 49, 3) := by decide +kernel
theorem dX4_leastHat_16 : decode cX4_leastHat 16 = .ok (.aload_n 1, 1) := by decide +kernel
theorem dX4_leastHat_17 : decode cX4_leastHat 17 = .ok (.getfield 79, 3) := by decide +kernel
theorem dX4_leastHat_20 : decode cX4_leastHat 20 = .ok (.iload_n 3, 1) := by decide +kernel
theorem dX4_leastHat_21 : decode cX4_leastHat 21 = .ok (.iaload, 1) := by decide +kernel
theorem dX4_leastHat_22 : decode cX4_leastHat 22 = .ok (.aload_n 0, 1) := by decide +kernel
theorem dX4_leastHat_23 : decode cX4_leastHat 23 = .ok (.getfield 53, 3) := by decide +kernel
theorem dX4_leastHat_26 : decode cX4_leastHat 26 = .ok (.invokevirtual 101, 3) := by decide +kernel
theorem dX4_leastHat_29 : decode cX4_leastHat 29 = .ok (.aload_n 0, 1) := by decide +kernel
theorem dX4_leastHat_30 : decode cX4_leastHat 30 = .ok (.getfield 53, 3) := by decide +kernel
theorem dX4_leastHat_33 : decode cX4_leastHat 33 = .ok (.aload_n 0, 1) := by decide +kernel
theorem dX4_leastHat_34 : decode cX4_leastHat 34 = .ok (.getfield 56, 3) := by decide +kernel
theorem dX4_leastHat_37 : decode cX4_leastHat 37 = .ok (.iload_n 3, 1) := by decide +kernel
theorem dX4_leastHat_38 : decode cX4_leastHat 38 = .ok (.iconst 1, 1) := by decide +kernel
theorem dX4_leastHat_39 : decode cX4_leastHat 39 = .ok (.iadd, 1) := by decide +kernel
theorem dX4_leastHat_40 : decode cX4_leastHat 40 = .ok (.aaload, 1) := by decide +kernel
theorem dX4_leastHat_41 : decode cX4_leastHat 41 = .ok (.getfield 105, 3) := by decide +kernel
theorem dX4_leastHat_44 : decode cX4_leastHat 44 = .ok (.aload_n 0, 1) := by decide +kernel
theorem dX4_leastHat_45 : decode cX4_leastHat 45 = .ok (.getfield 56, 3) := by decide +kernel
theorem dX4_leastHat_48 : decode cX4_leastHat 48 = .ok (.iload_n 3, 1) := by decide +kernel
theorem dX4_leastHat_49 : decode cX4_leastHat 49 = .ok (.iconst 1, 1) := by decide +kernel
theorem dX4_leastHat_50 : decode cX4_leastHat 50 = .ok (.iadd, 1) := by decide +kernel
theorem dX4_leastHat_51 : decode cX4_leastHat 51 = .ok (.aaload, 1) := by decide +kernel
theorem dX4_leastHat_52 : decode cX4_leastHat 52 = .ok (.getfield 109, 3) := by decide +kernel
theorem dX4_leastHat_55 : decode cX4_leastHat 55 = .ok (.invokevirtual 112, 3) := by decide +kernel
theorem dX4_leastHat_58 : decode cX4_leastHat 58 = .ok (.ifCond .eq 7, 3) := by decide +kernel
theorem dX4_leastHat_61 : decode cX4_leastHat 61 = .ok (.iconst 1, 1) := by decide +kernel
theorem dX4_leastHat_62 : decode cX4_leastHat 62 = .ok (.iload_n 3, 1) := by decide +kernel
theorem dX4_leastHat_63 : decode cX4_leastHat 63 = .ok (.ishl, 1) := by decide +kernel
theorem dX4_leastHat_64 : decode cX4_leastHat 64 = .ok (.ireturn, 1) := by decide +kernel
theorem dX4_leastHat_65 : decode cX4_leastHat 65 = .ok (.aload_n 0, 1) := by decide +kernel
theorem dX4_leastHat_66 : decode cX4_leastHat 66 = .ok (.aload_n 0, 1) := by decide +kernel
theorem dX4_leastHat_67 : decode cX4_leastHat 67 = .ok (.getfield 49, 3) := by decide +kernel
theorem dX4_leastHat_70 : decode cX4_leastHat 70 = .ok (.aload_n 1, 1) := by decide +kernel
theorem dX4_leastHat_71 : decode cX4_leastHat 71 = .ok (.getfield 79, 3) := by decide +kernel
theorem dX4_leastHat_74 : decode cX4_leastHat 74 = .ok (.iload_n 3, 1) := by decide +kernel
theorem dX4_leastHat_75 : decode cX4_leastHat 75 = .ok (.iaload, 1) := by decide +kernel
theorem dX4_leastHat_76 : decode cX4_leastHat 76 = .ok (.invokevirtual 82, 3) := by decide +kernel
theorem dX4_leastHat_79 : decode cX4_leastHat 79 = .ok (.iinc 3 1, 3) := by decide +kernel
theorem dX4_leastHat_82 : decode cX4_leastHat 82 = .ok (.goto (-76), 3) := by decide +kernel
theorem dX4_leastHat_85 : decode cX4_leastHat 85 = .ok (.bipush (-9), 2) := by decide +kernel
theorem dX4_leastHat_87 : decode cX4_leastHat 87 = .ok (.ireturn, 1) := by decide +kernel
theorem dX4_leastTwoHats_0 : decode cX4_leastTwoHats 0 = .ok (.aload_n 0, 1) := by decide +kernel
theorem dX4_leastTwoHats_1 : decode cX4_leastTwoHats 1 = .ok (.invokevirtual 67, 3) := by decide +kernel
theorem dX4_leastTwoHats_4 : decode cX4_leastTwoHats 4 = .ok (.iconst 0, 1) := by decide +kernel
theorem dX4_leastTwoHats_5 : decode cX4_leastTwoHats 5 = .ok (.istore_n 3, 1) := by decide +kernel
theorem dX4_leastTwoHats_6 : decode cX4_leastTwoHats 6 = .ok (.iload_n 3, 1) := by decide +kernel
theorem dX4_leastTwoHats_7 : decode cX4_leastTwoHats 7 = .ok (.iload_n 2, 1) := by decide +kernel
theorem dX4_leastTwoHats_8 : decode cX4_leastTwoHats 8 = .ok (.if_icmp .ge 129, 3) := by decide +kernel
theorem dX4_leastTwoHats_11 : decode cX4_leastTwoHats 11 = .ok (.aload_n 1, 1) := by decide +kernel
theorem dX4_leastTwoHats_12 : decode cX4_leastTwoHats 12 = .ok (.getfield 79, 3) := by decide +kernel
theorem dX4_leastTwoHats_15 : decode cX4_leastTwoHats 15 = .ok (.iload_n 3, 1) := by decide +kernel
theorem dX4_leastTwoHats_16 : decode cX4_leastTwoHats 16 = .ok (.iaload, 1) := by decide +kernel
theorem dX4_leastTwoHats_17 : decode cX4_leastTwoHats 17 = .ok (.istore 4, 2) := by decide +kernel
theorem dX4_leastTwoHats_19 : decode cX4_leastTwoHats 19 = .ok (.iconst 0, 1) := by decide +kernel
theorem dX4_leastTwoHats_20 : decode cX4_leastTwoHats 20 = .ok (.istore 5, 2) := by decide +kernel
theorem dX4_leastTwoHats_22 : decode cX4_leastTwoHats 22 = .ok (.iload 5, 2) := by decide +kernel
theorem dX4_leastTwoHats_24 : decode cX4_leastTwoHats 24 = .ok (.iload_n 3, 1) := by decide +kernel
theorem dX4_leastTwoHats_25 : decode cX4_leastTwoHats 25 = .ok (.if_icmp .ge 80, 3) := by decide +kernel
theorem dX4_leastTwoHats_28 : decode cX4_leastTwoHats 28 = .ok (.aload_n 0, 1) := by decide +kernel
theorem dX4_leastTwoHats_29 : decode cX4_leastTwoHats 29 = .ok (.aload_n 0, 1) := by decide +kernel
theorem dX4_leastTwoHats_30 : decode cX4_leastTwoHats 30 = .ok (.getfield 60, 3) := by decide +kernel
theorem dX4_leastTwoHats_33 : decode cX4_leastTwoHats 33 = .ok (.iload 5, 2) := by decide +kernel
theorem dX4_leastTwoHats_35 : decode cX4_leastTwoHats 35 = .ok (.aaload, 1) := by decide +kernel
theorem dX4_leastTwoHats_36 : decode cX4_leastTwoHats 36 = .ok (.iload 4, 2) := by decide +kernel
theorem dX4_leastTwoHats_38 : decode cX4_leastTwoHats 38 = .ok (.aload_n 0, 1) := by decide +kernel
theorem dX4_leastTwoHats_39 : decode cX4_leastTwoHats 39 = .ok (.getfield 53, 3) := by decide +kernel
theorem dX4_leastTwoHats_42 : decode cX4_leastTwoHats 42 = .ok (.invokevirtual 101, 3) := by decide +kernel
theorem dX4_leastTwoHats_45 : decode cX4_leastTwoHats 45 = .ok (.aload_n 0, 1) := by decide +kernel
theorem dX4_leastTwoHats_46 : decode cX4_leastTwoHats 46 = .ok (.getfield 53, 3) := by decide +kernel
theorem dX4_leastTwoHats_49 : decode cX4_leastTwoHats 49 = .ok (.aload_n 0, 1) := by decide +kernel
theorem dX4_leastTwoHats_50 : decode cX4_leastTwoHats 50 = .ok (.getfield 56, 3) := by decide +kernel
theorem dX4_leastTwoHats_53 : decode cX4_leastTwoHats 53 = .ok (.iload_n 3, 1) := by decide +kernel
theorem dX4_leastTwoHats_54 : decode cX4_leastTwoHats 54 = .ok (.iconst 1, 1) := by decide +kernel
theorem dX4_leastTwoHats_55 : decode cX4_leastTwoHats 55 = .ok (.iadd, 1) := by decide +kernel
theorem dX4_leastTwoHats_56 : decode cX4_leastTwoHats 56 = .ok (.aaload, 1) := by decide +kernel
theorem dX4_leastTwoHats_57 : decode cX4_leastTwoHats 57 = .ok (.getfield 105, 3) := by decide +kernel
theorem dX4_leastTwoHats_60 : decode cX4_leastTwoHats 60 = .ok (.aload_n 0, 1) := by decide +kernel
theorem dX4_leastTwoHats_61 : decode cX4_leastTwoHats 61 = .ok (.getfield 56, 3) := by decide +kernel
theorem dX4_leastTwoHats_64 : decode cX4_leastTwoHats 64 = .ok (.iload_n 3, 1) := by decide +kernel
theorem dX4_leastTwoHats_65 : decode cX4_leastTwoHats 65 = .ok (.iconst 1, 1) := by decide +kernel
theorem dX4_leastTwoHats_66 : decode cX4_leastTwoHats 66 = .ok (.iadd, 1) := by decide +kernel
theorem dX4_leastTwoHats_67 : decode cX4_leastTwoHats 67 = .ok (.aaload, 1) := by decide +kernel
theorem dX4_leastTwoHats_68 : decode cX4_leastTwoHats 68 = .ok (.getfield 109, 3) := by decide +kernel
theorem dX4_leastTwoHats_71 : decode cX4_leastTwoHats 71 = .ok (.invokevirtual 112, 3) := by decide +kernel
theorem dX4_leastTwoHats_74 : decode cX4_leastTwoHats 74 = .ok (.ifCond .eq 12, 3) := by decide +kernel
theorem dX4_leastTwoHats_77 : decode cX4_leastTwoHats 77 = .ok (.iconst 1, 1) := by decide +kernel
theorem dX4_leastTwoHats_78 : decode cX4_leastTwoHats 78 = .ok (.iload_n 3, 1) := by decide +kernel
theorem dX4_leastTwoHats_79 : decode cX4_leastTwoHats 79 = .ok (.ishl, 1) := by decide +kernel
theorem dX4_leastTwoHats_80 : decode cX4_leastTwoHats 80 = .ok (.iconst 1, 1) := by decide +kernel
theorem dX4_leastTwoHats_81 : decode cX4_leastTwoHats 81 = .ok (.iload 5, 2) := by decide +kernel
theorem dX4_leastTwoHats_83 : decode cX4_leastTwoHats 83 = .ok (.ishl, 1) := by decide +kernel
theorem dX4_leastTwoHats_84 : decode cX4_leastTwoHats 84 = .ok (.ior, 1) := by decide +kernel
theorem dX4_leastTwoHats_85 : decode cX4_leastTwoHats 85 = .ok (.ireturn, 1) := by decide +kernel
theorem dX4_leastTwoHats_86 : decode cX4_leastTwoHats 86 = .ok (.aload_n 0, 1) := by decide +kernel
theorem dX4_leastTwoHats_87 : decode cX4_leastTwoHats 87 = .ok (.aload_n 0, 1) := by decide +kernel
theorem dX4_leastTwoHats_88 : decode cX4_leastTwoHats 88 = .ok (.getfield 60, 3) := by decide +kernel
theorem dX4_leastTwoHats_91 : decode cX4_leastTwoHats 91 = .ok (.iload 5, 2) := by decide +kernel
theorem dX4_leastTwoHats_93 : decode cX4_leastTwoHats 93 = .ok (.aaload, 1) := by decide +kernel
theorem dX4_leastTwoHats_94 : decode cX4_leastTwoHats 94 = .ok (.iload 4, 2) := by decide +kernel
theorem dX4_leastTwoHats_96 : decode cX4_leastTwoHats 96 = .ok (.invokevirtual 82, 3) := by decide +kernel
theorem dX4_leastTwoHats_99 : decode cX4_leastTwoHats 99 = .ok (.iinc 5 1, 3) := by decide +kernel
theorem dX4_leastTwoHats_102 : decode cX4_leastTwoHats 102 = .ok (.goto (-80), 3) := by decide +kernel
theorem dX4_leastTwoHats_105 : decode cX4_leastTwoHats 105 = .ok (.aload_n 0, 1) := by decide +kernel
theorem dX4_leastTwoHats_106 : decode cX4_leastTwoHats 106 = .ok (.aload_n 0, 1) := by decide +kernel
theorem dX4_leastTwoHats_107 : decode cX4_leastTwoHats 107 = .ok (.getfield 49, 3) := by decide +kernel
theorem dX4_leastTwoHats_110 : decode cX4_leastTwoHats 110 = .ok (.iload 4, 2) := by decide +kernel
theorem dX4_leastTwoHats_112 : decode cX4_leastTwoHats 112 = .ok (.aload_n 0, 1) := by decide +kernel
theorem dX4_leastTwoHats_113 : decode cX4_leastTwoHats 113 = .ok (.getfield 60, 3) := by decide +kernel
theorem dX4_leastTwoHats_116 : decode cX4_leastTwoHats 116 = .ok (.iload_n 3, 1) := by decide +kernel
theorem dX4_leastTwoHats_117 : decode cX4_leastTwoHats 117 = .ok (.aaload, 1) := by decide +kernel
theorem dX4_leastTwoHats_118 : decode cX4_leastTwoHats 118 = .ok (.invokevirtual 101, 3) := by decide +kernel
theorem dX4_leastTwoHats_121 : decode cX4_leastTwoHats 121 = .ok (.aload_n 0, 1) := by decide +kernel
theorem dX4_leastTwoHats_122 : decode cX4_leastTwoHats 122 = .ok (.aload_n 0, 1) := by decide +kernel
theorem dX4_leastTwoHats_123 : decode cX4_leastTwoHats 123 = .ok (.getfield 49, 3) := by decide +kernel
theorem dX4_leastTwoHats_126 : decode cX4_leastTwoHats 126 = .ok (.iload 4, 2) := by decide +kernel
theorem dX4_leastTwoHats_128 : decode cX4_leastTwoHats 128 = .ok (.invokevirtual 82, 3) := by decide +kernel
theorem dX4_leastTwoHats_131 : decode cX4_leastTwoHats 131 = .ok (.iinc 3 1, 3) := by decide +kernel
theorem dX4_leastTwoHats_134 : decode cX4_leastTwoHats 134 = .ok (.goto (-128), 3) := by decide +kernel
theorem dX4_leastTwoHats_137 : decode cX4_leastTwoHats 137 = .ok (.bipush (-9), 2) := by decide +kernel
theorem dX4_leastTwoHats_139 : decode cX4_leastTwoHats 139 = .ok (.ireturn, 1) := by decide +kernel
theorem dX4_startNow_0 : decode cX4_startNow 0 = .ok (.aload_n 0, 1) := by decide +kernel
theorem dX4_startNow_1 : decode cX4_startNow 1 = .ok (.getfield 49, 3) := by decide +kernel
theorem dX4_startNow_4 : decode cX4_startNow 4 = .ok (.invokevirtual 116, 3) := by decide +kernel
theorem dX4_startNow_7 : decode cX4_startNow 7 = .ok (.aload_n 0, 1) := by decide +kernel
theorem dX4_startNow_8 : decode cX4_startNow 8 = .ok (.getfield 49, 3) := by decide +kernel
theorem dX4_startNow_11 : decode cX4_startNow 11 = .ok (.aload_n 0, 1) := by decide +kernel
theorem dX4_startNow_12 : decode cX4_startNow 12 = .ok (.getfield 19, 3) := by decide +kernel
theorem dX4_startNow_15 : decode cX4_startNow 15 = .ok (.invokevirtual 119, 3) := by decide +kernel
theorem dX4_startNow_18 : decode cX4_startNow 18 = .ok (.return_, 1) := by decide +kernel
theorem dX4_isOverInSome_0 : decode cX4_isOverInSome 0 = .ok (.iconst 0, 1) := by decide +kernel
theorem dX4_isOverInSome_1 : decode cX4_isOverInSome 1 = .ok (.istore_n 3, 1) := by decide +kernel
theorem dX4_isOverInSome_2 : decode cX4_isOverInSome 2 = .ok (.iload_n 3, 1) := by decide +kernel
theorem dX4_isOverInSome_3 : decode cX4_isOverInSome 3 = .ok (.aload_n 0, 1) := by decide +kernel
theorem dX4_isOverInSome_4 : decode cX4_isOverInSome 4 = .ok (.getfield 15, 3) := by decide +kernel
theorem dX4_isOverInSome_7 : decode cX4_isOverInSome 7 = .ok (.if_icmp .ge 31, 3) := by decide +kernel
theorem dX4_isOverInSome_10 : decode cX4_isOverInSome 10 = .ok (.aload_n 0, 1) := by decide +kernel
theorem dX4_isOverInSome_11 : decode cX4_isOverInSome 11 = .ok (.getfield 29, 3) := by decide +kernel
theorem dX4_isOverInSome_14 : decode cX4_isOverInSome 14 = .ok (.iload_n 3, 1) := by decide +kernel
theorem dX4_isOverInSome_15 : decode cX4_isOverInSome 15 = .ok (.iaload, 1) := by decide +kernel
theorem dX4_isOverInSome_16 : decode cX4_isOverInSome 16 = .ok (.iload_n 2, 1) := by decide +kernel
theorem dX4_isOverInSome_17 : decode cX4_isOverInSome 17 = .ok (.iand, 1) := by decide +kernel
theorem dX4_isOverInSome_18 : decode cX4_isOverInSome 18 = .ok (.iload_n 2, 1) := by decide +kernel
theorem dX4_isOverInSome_19 : decode cX4_isOverInSome 19 = .ok (.if_icmp .ne 13, 3) := by decide +kernel
theorem dX4_isOverInSome_22 : decode cX4_isOverInSome 22 = .ok (.aload_n 1, 1) := by decide +kernel
theorem dX4_isOverInSome_23 : decode cX4_isOverInSome 23 = .ok (.iload_n 3, 1) := by decide +kernel
theorem dX4_isOverInSome_24 : decode cX4_isOverInSome 24 = .ok (.invokevirtual 90, 3) := by decide +kernel
theorem dX4_isOverInSome_27 : decode cX4_isOverInSome 27 = .ok (.ifCond .eq 5, 3) := by decide +kernel
theorem dX4_isOverInSome_30 : decode cX4_isOverInSome 30 = .ok (.iconst 1, 1) := by decide +kernel
theorem dX4_isOverInSome_31 : decode cX4_isOverInSome 31 = .ok (.ireturn, 1) := by decide +kernel
theorem dX4_isOverInSome_32 : decode cX4_isOverInSome 32 = .ok (.iinc 3 1, 3) := by decide +kernel
theorem dX4_isOverInSome_35 : decode cX4_isOverInSome 35 = .ok (.goto (-33), 3) := by decide +kernel
theorem dX4_isOverInSome_38 : decode cX4_isOverInSome 38 = .ok (.iconst 0, 1) := by decide +kernel
theorem dX4_isOverInSome_39 : decode cX4_isOverInSome 39 = .ok (.ireturn, 1) := by decide +kernel
theorem dX4_fillGood_0 : decode cX4_fillGood 0 = .ok (.aload_n 0, 1) := by decide +kernel
theorem dX4_fillGood_1 : decode cX4_fillGood 1 = .ok (.getfield 56, 3) := by decide +kernel
theorem dX4_fillGood_4 : decode cX4_fillGood 4 = .ok (.iload_n 3, 1) := by decide +kernel
theorem dX4_fillGood_5 : decode cX4_fillGood 5 = .ok (.aaload, 1) := by decide +kernel
theorem dX4_fillGood_6 : decode cX4_fillGood 6 = .ok (.invokevirtual 116, 3) := by decide +kernel
theorem dX4_fillGood_9 : decode cX4_fillGood 9 = .ok (.iconst 0, 1) := by decide +kernel
theorem dX4_fillGood_10 : decode cX4_fillGood 10 = .ok (.istore 4, 2) := by decide +kernel
theorem dX4_fillGood_12 : decode cX4_fillGood 12 = .ok (.iload 4, 2) := by decide +kernel
theorem dX4_fillGood_14 : decode cX4_fillGood 14 = .ok (.aload_n 0, 1) := by decide +kernel
theorem dX4_fillGood_15 : decode cX4_fillGood 15 = .ok (.getfield 15, 3) := by decide +kernel
theorem dX4_fillGood_18 : decode cX4_fillGood 18 = .ok (.if_icmp .ge 33, 3) := by decide +kernel
theorem dX4_fillGood_21 : decode cX4_fillGood 21 = .ok (.aload_n 0, 1) := by decide +kernel
theorem dX4_fillGood_22 : decode cX4_fillGood 22 = .ok (.getfield 29, 3) := by decide +kernel
theorem dX4_fillGood_25 : decode cX4_fillGood 25 = .ok (.iload 4, 2) := by decide +kernel
theorem dX4_fillGood_27 : decode cX4_fillGood 27 = .ok (.iaload, 1) := by decide +kernel
theorem dX4_fillGood_28 : decode cX4_fillGood 28 = .ok (.iload_n 2, 1) := by decide +kernel
theorem dX4_fillGood_29 : decode cX4_fillGood 29 = .ok (.iand, 1) := by decide +kernel
theorem dX4_fillGood_30 : decode cX4_fillGood 30 = .ok (.iload_n 2, 1) := by decide +kernel
theorem dX4_fillGood_31 : decode cX4_fillGood 31 = .ok (.if_icmp .ne 14, 3) := by decide +kernel
theorem dX4_fillGood_34 : decode cX4_fillGood 34 = .ok (.aload_n 0, 1) := by decide +kernel
theorem dX4_fillGood_35 : decode cX4_fillGood 35 = .ok (.getfield 56, 3) := by decide +kernel
theorem dX4_fillGood_38 : decode cX4_fillGood 38 = .ok (.iload_n 3, 1) := by decide +kernel
theorem dX4_fillGood_39 : decode cX4_fillGood 39 = .ok (.aaload, 1) := by decide +kernel
theorem dX4_fillGood_40 : decode cX4_fillGood 40 = .ok (.iload 4, 2) := by decide +kernel
theorem dX4_fillGood_42 : decode cX4_fillGood 42 = .ok (.invokevirtual 119, 3) := by decide +kernel
theorem dX4_fillGood_45 : decode cX4_fillGood 45 = .ok (.iinc 4 1, 3) := by decide +kernel
theorem dX4_fillGood_48 : decode cX4_fillGood 48 = .ok (.goto (-36), 3) := by decide +kernel
theorem dX4_fillGood_51 : decode cX4_fillGood 51 = .ok (.iload_n 3, 1) := by decide +kernel
theorem dX4_fillGood_52 : decode cX4_fillGood 52 = .ok (.iconst 1, 1) := by decide +kernel
theorem dX4_fillGood_53 : decode cX4_fillGood 53 = .ok (.isub, 1) := by decide +kernel
theorem dX4_fillGood_54 : decode cX4_fillGood 54 = .ok (.istore 4, 2) := by decide +kernel
theorem dX4_fillGood_56 : decode cX4_fillGood 56 = .ok (.iload 4, 2) := by decide +kernel
theorem dX4_fillGood_58 : decode cX4_fillGood 58 = .ok (.ifCond .lt 36, 3) := by decide +kernel
theorem dX4_fillGood_61 : decode cX4_fillGood 61 = .ok (.aload_n 0, 1) := by decide +kernel
theorem dX4_fillGood_62 : decode cX4_fillGood 62 = .ok (.aload_n 0, 1) := by decide +kernel
theorem dX4_fillGood_63 : decode cX4_fillGood 63 = .ok (.getfield 56, 3) := by decide +kernel
theorem dX4_fillGood_66 : decode cX4_fillGood 66 = .ok (.iload 4, 2) := by decide +kernel
theorem dX4_fillGood_68 : decode cX4_fillGood 68 = .ok (.aaload, 1) := by decide +kernel
theorem dX4_fillGood_69 : decode cX4_fillGood 69 = .ok (.aload_n 1, 1) := by decide +kernel
theorem dX4_fillGood_70 : decode cX4_fillGood 70 = .ok (.getfield 79, 3) := by decide +kernel
theorem dX4_fillGood_73 : decode cX4_fillGood 73 = .ok (.iload 4, 2) := by decide +kernel
theorem dX4_fillGood_75 : decode cX4_fillGood 75 = .ok (.iaload, 1) := by decide +kernel
theorem dX4_fillGood_76 : decode cX4_fillGood 76 = .ok (.aload_n 0, 1) := by decide +kernel
theorem dX4_fillGood_77 : decode cX4_fillGood 77 = .ok (.getfield 56, 3) := by decide +kernel
theorem dX4_fillGood_80 : decode cX4_fillGood 80 = .ok (.iload 4, 2) := by decide +kernel
theorem dX4_fillGood_82 : decode cX4_fillGood 82 = .ok (.iconst 1, 1) := by decide +kernel
theorem dX4_fillGood_83 : decode cX4_fillGood 83 = .ok (.iadd, 1) := by decide +kernel
theorem dX4_fillGood_84 : decode cX4_fillGood 84 = .ok (.aaload, 1) := by decide +kernel
theorem dX4_fillGood_85 : decode cX4_fillGood 85 = .ok (.invokevirtual 123, 3) := by decide +kernel
theorem dX4_fillGood_88 : decode cX4_fillGood 88 = .ok (.iinc 4 (-1), 3) := by decide +kernel
theorem dX4_fillGood_91 : decode cX4_fillGood 91 = .ok (.goto (-35), 3) := by decide +kernel
theorem dX4_fillGood_94 : decode cX4_fillGood 94 = .ok (.return_, 1) := by decide +kernel
theorem dX4_fillGoodAhead_0 : decode cX4_fillGoodAhead 0 = .ok (.iload_n 2, 1) := by decide +kernel
theorem dX4_fillGoodAhead_1 : decode cX4_fillGoodAhead 1 = .ok (.ifCond .ne 9, 3) := by decide +kernel
theorem dX4_fillGoodAhead_4 : decode cX4_fillGoodAhead 4 = .ok (.aload_n 1, 1) := by decide +kernel
theorem dX4_fillGoodAhead_5 : decode cX4_fillGoodAhead 5 = .ok (.aload_n 3, 1) := by decide +kernel
theorem dX4_fillGoodAhead_6 : decode cX4_fillGoodAhead 6 = .ok (.invokevirtual 126, 3) := by decide +kernel
theorem dX4_fillGoodAhead_9 : decode cX4_fillGoodAhead 9 = .ok (.return_, 1) := by decide +kernel
theorem dX4_fillGoodAhead_10 : decode cX4_fillGoodAhead 10 = .ok (.aload_n 1, 1) := by decide +kernel
theorem dX4_fillGoodAhead_11 : decode cX4_fillGoodAhead 11 = .ok (.invokevirtual 116, 3) := by decide +kernel
theorem dX4_fillGoodAhead_14 : decode cX4_fillGoodAhead 14 = .ok (.iload_n 2, 1) := by decide +kernel
theorem dX4_fillGoodAhead_15 : decode cX4_fillGoodAhead 15 = .ok (.invokestatic 130, 3) := by decide +kernel
theorem dX4_fillGoodAhead_18 : decode cX4_fillGoodAhead 18 = .ok (.istore 4, 2) := by decide +kernel
theorem dX4_fillGoodAhead_20 : decode cX4_fillGoodAhead 20 = .ok (.iconst 0, 1) := by decide +kernel
theorem dX4_fillGoodAhead_21 : decode cX4_fillGoodAhead 21 = .ok (.istore 5, 2) := by decide +kernel
theorem dX4_fillGoodAhead_23 : decode cX4_fillGoodAhead 23 = .ok (.iload 5, 2) := by decide +kernel
theorem dX4_fillGoodAhead_25 : decode cX4_fillGoodAhead 25 = .ok (.aload_n 0, 1) := by decide +kernel
theorem dX4_fillGoodAhead_26 : decode cX4_fillGoodAhead 26 = .ok (.getfield 15, 3) := by decide +kernel
theorem dX4_fillGoodAhead_29 : decode cX4_fillGoodAhead 29 = .ok (.if_icmp .ge 42, 3) := by decide +kernel
theorem dX4_fillGoodAhead_32 : decode cX4_fillGoodAhead 32 = .ok (.aload_n 3, 1) := by decide +kernel
theorem dX4_fillGoodAhead_33 : decode cX4_fillGoodAhead 33 = .ok (.aload_n 0, 1) := by decide +kernel
theorem dX4_fillGoodAhead_34 : decode cX4_fillGoodAhead 34 = .ok (.getfield 22, 3) := by decide +kernel
theorem dX4_fillGoodAhead_37 : decode cX4_fillGoodAhead 37 = .ok (.iload 4, 2) := by decide +kernel
theorem dX4_fillGoodAhead_39 : decode cX4_fillGoodAhead 39 = .ok (.iload 5, 2) := by decide +kernel
theorem dX4_fillGoodAhead_41 : decode cX4_fillGoodAhead 41 = .ok (.iadd, 1) := by decide +kernel
theorem dX4_fillGoodAhead_42 : decode cX4_fillGoodAhead 42 = .ok (.laload, 1) := by decide +kernel
theorem dX4_fillGoodAhead_43 : decode cX4_fillGoodAhead 43 = .ok (.aload_n 0, 1) := by decide +kernel
theorem dX4_fillGoodAhead_44 : decode cX4_fillGoodAhead 44 = .ok (.getfield 26, 3) := by decide +kernel
theorem dX4_fillGoodAhead_47 : decode cX4_fillGoodAhead 47 = .ok (.iload 4, 2) := by decide +kernel
theorem dX4_fillGoodAhead_49 : decode cX4_fillGoodAhead 49 = .ok (.iload 5, 2) := by decide +kernel
theorem dX4_fillGoodAhead_51 : decode cX4_fillGoodAhead 51 = .ok (.iadd, 1) := by decide +kernel
theorem dX4_fillGoodAhead_52 : decode cX4_fillGoodAhead 52 = .ok (.laload, 1) := by decide +kernel
theorem dX4_fillGoodAhead_53 : decode cX4_fillGoodAhead 53 = .ok (.invokevirtual 112, 3) := by decide +kernel
theorem dX4_fillGoodAhead_56 : decode cX4_fillGoodAhead 56 = .ok (.ifCond .eq 9, 3) := by decide +kernel
theorem dX4_fillGoodAhead_59 : decode cX4_fillGoodAhead 59 = .ok (.aload_n 1, 1) := by decide +kernel
theorem dX4_fillGoodAhead_60 : decode cX4_fillGoodAhead 60 = .ok (.iload 5, 2) := by decide +kernel
theorem dX4_fillGoodAhead_62 : decode cX4_fillGoodAhead 62 = .ok (.invokevirtual 119, 3) := by decide +kernel
theorem dX4_fillGoodAhead_65 : decode cX4_fillGoodAhead 65 = .ok (.iinc 5 1, 3) := by decide +kernel
theorem dX4_fillGoodAhead_68 : decode cX4_fillGoodAhead 68 = .ok (.goto (-45), 3) := by decide +kernel
theorem dX4_fillGoodAhead_71 : decode cX4_fillGoodAhead 71 = .ok (.return_, 1) := by decide +kernel
theorem dX4_advance_0 : decode cX4_advance 0 = .ok (.aload_n 0, 1) := by decide +kernel
theorem dX4_advance_1 : decode cX4_advance 1 = .ok (.getfield 53, 3) := by decide +kernel
theorem dX4_advance_4 : decode cX4_advance 4 = .ok (.invokevirtual 116, 3) := by decide +kernel
theorem dX4_advance_7 : decode cX4_advance 7 = .ok (.aload_n 0, 1) := by decide +kernel
theorem dX4_advance_8 : decode cX4_advance 8 = .ok (.aload_n 1, 1) := by decide +kernel
theorem dX4_advance_9 : decode cX4_advance 9 = .ok (.iload_n 2, 1) := by decide +kernel
theorem dX4_advance_10 : decode cX4_advance 10 = .ok (.aload_n 0, 1) := by decide +kernel
theorem dX4_advance_11 : decode cX4_advance 11 = .ok (.getfield 53, 3) := by decide +kernel
theorem dX4_advance_14 : decode cX4_advance 14 = .ok (.invokevirtual 134, 3) := by decide +kernel
theorem dX4_advance_17 : decode cX4_advance 17 = .ok (.aload_n 1, 1) := by decide +kernel
theorem dX4_advance_18 : decode cX4_advance 18 = .ok (.aload_n 0, 1) := by decide +kernel
theorem dX4_advance_19 : decode cX4_advance 19 = .ok (.getfield 53, 3) := by decide +kernel
theorem dX4_advance_22 : decode cX4_advance 22 = .ok (.invokevirtual 126, 3) := by decide +kernel
theorem dX4_advance_25 : decode cX4_advance 25 = .ok (.return_, 1) := by decide +kernel
theorem dX4_throwHat_0 : decode cX4_throwHat 0 = .ok (.aload_n 3, 1) := by decide +kernel
theorem dX4_throwHat_1 : decode cX4_throwHat 1 = .ok (.invokevirtual 116, 3) := by decide +kernel
theorem dX4_throwHat_4 : decode cX4_throwHat 4 = .ok (.iconst 0, 1) := by decide +kernel
theorem dX4_throwHat_5 : decode cX4_throwHat 5 = .ok (.istore 4, 2) := by decide +kernel
theorem dX4_throwHat_7 : decode cX4_throwHat 7 = .ok (.iload 4, 2) := by decide +kernel
theorem dX4_throwHat_9 : decode cX4_throwHat 9 = .ok (.iconst 3, 1) := by decide +kernel
theorem dX4_throwHat_10 : decode cX4_throwHat 10 = .ok (.if_icmp .ge 23, 3) := by decide +kernel
theorem dX4_throwHat_13 : decode cX4_throwHat 13 = .ok (.iload 4, 2) := by decide +kernel
theorem dX4_throwHat_15 : decode cX4_throwHat 15 = .ok (.iload_n 2, 1) := by decide +kernel
theorem dX4_throwHat_16 : decode cX4_throwHat 16 = .ok (.if_icmp .eq 11, 3) := by decide +kernel
theorem dX4_throwHat_19 : decode cX4_throwHat 19 = .ok (.aload_n 0, 1) := by decide +kernel
theorem dX4_throwHat_20 : decode cX4_throwHat 20 = .ok (.aload_n 1, 1) := by decide +kernel
theorem dX4_throwHat_21 : decode cX4_throwHat 21 = .ok (.iload 4, 2) := by decide +kernel
theorem dX4_throwHat_23 : decode cX4_throwHat 23 = .ok (.aload_n 3, 1) := by decide +kernel
theorem dX4_throwHat_24 : decode cX4_throwHat 24 = .ok (.invokevirtual 134, 3) := by decide +kernel
theorem dX4_throwHat_27 : decode cX4_throwHat 27 = .ok (.iinc 4 1, 3) := by decide +kernel
theorem dX4_throwHat_30 : decode cX4_throwHat 30 = .ok (.goto (-23), 3) := by decide +kernel
theorem dX4_throwHat_33 : decode cX4_throwHat 33 = .ok (.return_, 1) := by decide +kernel
theorem dX4_addAfter_0 : decode cX4_addAfter 0 = .ok (.iload_n 2, 1) := by decide +kernel
theorem dX4_addAfter_1 : decode cX4_addAfter 1 = .ok (.ifCond .ne 16, 3) := by decide +kernel
theorem dX4_addAfter_4 : decode cX4_addAfter 4 = .ok (.aload_n 3, 1) := by decide +kernel
theorem dX4_addAfter_5 : decode cX4_addAfter 5 = .ok (.aload_n 1, 1) := by decide +kernel
theorem dX4_addAfter_6 : decode cX4_addAfter 6 = .ok (.getfield 105, 3) := by decide +kernel
theorem dX4_addAfter_9 : decode cX4_addAfter 9 = .ok (.aload_n 1, 1) := by decide +kernel
theorem dX4_addAfter_10 : decode cX4_addAfter 10 = .ok (.getfield 109, 3) := by decide +kernel
theorem dX4_addAfter_13 : decode cX4_addAfter 13 = .ok (.invokevirtual 137, 3) := by decide +kernel
theorem dX4_addAfter_16 : decode cX4_addAfter 16 = .ok (.return_, 1) := by decide +kernel
theorem dX4_addAfter_17 : decode cX4_addAfter 17 = .ok (.iload_n 2, 1) := by decide +kernel
theorem dX4_addAfter_18 : decode cX4_addAfter 18 = .ok (.invokestatic 130, 3) := by decide +kernel
theorem dX4_addAfter_21 : decode cX4_addAfter 21 = .ok (.istore 4, 2) := by decide +kernel
theorem dX4_addAfter_23 : decode cX4_addAfter 23 = .ok (.iconst 0, 1) := by decide +kernel
theorem dX4_addAfter_24 : decode cX4_addAfter 24 = .ok (.istore 5, 2) := by decide +kernel
theorem dX4_addAfter_26 : decode cX4_addAfter 26 = .ok (.iload 5, 2) := by decide +kernel
theorem dX4_addAfter_28 : decode cX4_addAfter 28 = .ok (.aload_n 0, 1) := by decide +kernel
theorem dX4_addAfter_29 : decode cX4_addAfter 29 = .ok (.getfield 15, 3) := by decide +kernel
theorem dX4_addAfter_32 : decode cX4_addAfter 32 = .ok (.if_icmp .ge 42, 3) := by decide +kernel
theorem dX4_addAfter_35 : decode cX4_addAfter 35 = .ok (.aload_n 1, 1) := by decide +kernel
theorem dX4_addAfter_36 : decode cX4_addAfter 36 = .ok (.iload 5, 2) := by decide +kernel
theorem dX4_addAfter_38 : decode cX4_addAfter 38 = .ok (.invokevirtual 90, 3) := by decide +kernel
theorem dX4_addAfter_41 : decode cX4_addAfter 41 = .ok (.ifCond .eq 27, 3) := by decide +kernel
theorem dX4_addAfter_44 : decode cX4_addAfter 44 = .ok (.aload_n 3, 1) := by decide +kernel
theorem dX4_addAfter_45 : decode cX4_addAfter 45 = .ok (.aload_n 0, 1) := by decide +kernel
theorem dX4_addAfter_46 : decode cX4_addAfter 46 = .ok (.getfield 22, 3) := by decide +kernel
theorem dX4_addAfter_49 : decode cX4_addAfter 49 = .ok (.iload 4, 2) := by decide +kernel
theorem dX4_addAfter_51 : decode cX4_addAfter 51 = .ok (.iload 5, 2) := by decide +kernel
theorem dX4_addAfter_53 : decode cX4_addAfter 53 = .ok (.iadd, 1) := by decide +kernel
theorem dX4_addAfter_54 : decode cX4_addAfter 54 = .ok (.laload, 1) := by decide +kernel
theorem dX4_addAfter_55 : decode cX4_addAfter 55 = .ok (.aload_n 0, 1) := by decide +kernel
theorem dX4_addAfter_56 : decode cX4_addAfter 56 = .ok (.getfield 26, 3) := by decide +kernel
theorem dX4_addAfter_59 : decode cX4_addAfter 59 = .ok (.iload 4, 2) := by decide +kernel
theorem dX4_addAfter_61 : decode cX4_addAfter 61 = .ok (.iload 5, 2) := by decide +kernel
theorem dX4_addAfter_63 : decode cX4_addAfter 63 = .ok (.iadd, 1) := by decide +kernel
theorem dX4_addAfter_64 : decode cX4_addAfter 64 = .ok (.laload, 1) := by decide +kernel
theorem dX4_addAfter_65 : decode cX4_addAfter 65 = .ok (.invokevirtual 137, 3) := by decide +kernel
theorem dX4_addAfter_68 : decode cX4_addAfter 68 = .ok (.iinc 5 1, 3) := by decide +kernel
theorem dX4_addAfter_71 : decode cX4_addAfter 71 = .ok (.goto (-45), 3) := by decide +kernel
theorem dX4_addAfter_74 : decode cX4_addAfter 74 = .ok (.return_, 1) := by decide +kernel
theorem dX4_rowOf_0 : decode cX4_rowOf 0 = .ok (.iload_n 0, 1) := by decide +kernel
theorem dX4_rowOf_1 : decode cX4_rowOf 1 = .ok (.iconst 2, 1) := by decide +kernel
theorem dX4_rowOf_2 : decode cX4_rowOf 2 = .ok (.if_icmp .ne 8, 3) := by decide +kernel
theorem dX4_rowOf_5 : decode cX4_rowOf 5 = .ok (.bipush 125, 2) := by decide +kernel
theorem dX4_rowOf_7 : decode cX4_rowOf 7 = .ok (.goto 4, 3) := by decide +kernel
theorem dX4_rowOf_10 : decode cX4_rowOf 10 = .ok (.iconst 0, 1) := by decide +kernel
theorem dX4_rowOf_11 : decode cX4_rowOf 11 = .ok (.ireturn, 1) := by decide +kernel
theorem dX4_prepare_0 : decode cX4_prepare 0 = .ok (.aload_n 0, 1) := by decide +kernel
theorem dX4_prepare_1 : decode cX4_prepare 1 = .ok (.getfield 9, 3) := by decide +kernel
theorem dX4_prepare_4 : decode cX4_prepare 4 = .ok (.ifCond .ne 4, 3) := by decide +kernel
theorem dX4_prepare_7 : decode cX4_prepare 7 = .ok (.return_, 1) := by decide +kernel
theorem dX4_prepare_8 : decode cX4_prepare 8 = .ok (.aload_n 0, 1) := by decide +kernel
theorem dX4_prepare_9 : decode cX4_prepare 9 = .ok (.iconst 0, 1) := by decide +kernel
theorem dX4_prepare_10 : decode cX4_prepare 10 = .ok (.putfield 9, 3) := by decide +kernel
theorem dX4_prepare_13 : decode cX4_prepare 13 = .ok (.aload_n 0, 1) := by decide +kernel
theorem dX4_prepare_14 : decode cX4_prepare 14 = .ok (.aload_n 1, 1) := by decide +kernel
theorem dX4_prepare_15 : decode cX4_prepare 15 = .ok (.invokevirtual 141, 3) := by decide +kernel
theorem dX4_prepare_18 : decode cX4_prepare 18 = .ok (.putfield 15, 3) := by decide +kernel
theorem dX4_prepare_21 : decode cX4_prepare 21 = .ok (.aload_n 0, 1) := by decide +kernel
theorem dX4_prepare_22 : decode cX4_prepare 22 = .ok (.getfield 42, 3) := by decide +kernel
theorem dX4_prepare_25 : decode cX4_prepare 25 = .ok (.aload_n 1, 1) := by decide +kernel
theorem dX4_prepare_26 : decode cX4_prepare 26 = .ok (.invokevirtual 144, 3) := by decide +kernel
theorem dX4_prepare_29 : decode cX4_prepare 29 = .ok (.aload_n 0, 1) := by decide +kernel
theorem dX4_prepare_30 : decode cX4_prepare 30 = .ok (.aload_n 0, 1) := by decide +kernel
theorem dX4_prepare_31 : decode cX4_prepare 31 = .ok (.getfield 42, 3) := by decide +kernel
theorem dX4_prepare_34 : decode cX4_prepare 34 = .ok (.aload_n 1, 1) := by decide +kernel
theorem dX4_prepare_35 : decode cX4_prepare 35 = .ok (.invokevirtual 147, 3) := by decide +kernel
theorem dX4_prepare_38 : decode cX4_prepare 38 = .ok (.putfield 19, 3) := by decide +kernel
theorem dX4_prepare_41 : decode cX4_prepare 41 = .ok (.iconst 0, 1) := by decide +kernel
theorem dX4_prepare_42 : decode cX4_prepare 42 = .ok (.istore_n 2, 1) := by decide +kernel
theorem dX4_prepare_43 : decode cX4_prepare 43 = .ok (.iload_n 2, 1) := by decide +kernel
theorem dX4_prepare_44 : decode cX4_prepare 44 = .ok (.aload_n 0, 1) := by decide +kernel
theorem dX4_prepare_45 : decode cX4_prepare 45 = .ok (.getfield 15, 3) := by decide +kernel
theorem dX4_prepare_48 : decode cX4_prepare 48 = .ok (.if_icmp .ge 46, 3) := by decide +kernel
theorem dX4_prepare_51 : decode cX4_prepare 51 = .ok (.aload_n 0, 1) := by decide +kernel
theorem dX4_prepare_52 : decode cX4_prepare 52 = .ok (.getfield 42, 3) := by decide +kernel
theorem dX4_prepare_55 : decode cX4_prepare 55 = .ok (.aload_n 1, 1) := by decide +kernel
theorem dX4_prepare_56 : decode cX4_prepare 56 = .ok (.iload_n 2, 1) := by decide +kernel
theorem dX4_prepare_57 : decode cX4_prepare 57 = .ok (.invokevirtual 151, 3) := by decide +kernel
theorem dX4_prepare_60 : decode cX4_prepare 60 = .ok (.aload_n 0, 1) := by decide +kernel
theorem dX4_prepare_61 : decode cX4_prepare 61 = .ok (.getfield 29, 3) := by decide +kernel
theorem dX4_prepare_64 : decode cX4_prepare 64 = .ok (.iload_n 2, 1) := by decide +kernel
theorem dX4_prepare_65 : decode cX4_prepare 65 = .ok (.aload_n 0, 1) := by decide +kernel
theorem dX4_prepare_66 : decode cX4_prepare 66 = .ok (.getfield 42, 3) := by decide +kernel
theorem dX4_prepare_69 : decode cX4_prepare 69 = .ok (.aload_n 1, 1) := by decide +kernel
theorem dX4_prepare_70 : decode cX4_prepare 70 = .ok (.invokevirtual 155, 3) := by decide +kernel
theorem dX4_prepare_73 : decode cX4_prepare 73 = .ok (.iastore, 1) := by decide +kernel
theorem dX4_prepare_74 : decode cX4_prepare 74 = .ok (.aload_n 0, 1) := by decide +kernel
theorem dX4_prepare_75 : decode cX4_prepare 75 = .ok (.aload_n 1, 1) := by decide +kernel
theorem dX4_prepare_76 : decode cX4_prepare 76 = .ok (.iload_n 2, 1) := by decide +kernel
theorem dX4_prepare_77 : decode cX4_prepare 77 = .ok (.iconst 1, 1) := by decide +kernel
theorem dX4_prepare_78 : decode cX4_prepare 78 = .ok (.invokevirtual 158, 3) := by decide +kernel
theorem dX4_prepare_81 : decode cX4_prepare 81 = .ok (.aload_n 0, 1) := by decide +kernel
theorem dX4_prepare_82 : decode cX4_prepare 82 = .ok (.aload_n 1, 1) := by decide +kernel
theorem dX4_prepare_83 : decode cX4_prepare 83 = .ok (.iload_n 2, 1) := by decide +kernel
theorem dX4_prepare_84 : decode cX4_prepare 84 = .ok (.iconst 2, 1) := by decide +kernel
theorem dX4_prepare_85 : decode cX4_prepare 85 = .ok (.invokevirtual 158, 3) := by decide +kernel
theorem dX4_prepare_88 : decode cX4_prepare 88 = .ok (.iinc 2 1, 3) := by decide +kernel
theorem dX4_prepare_91 : decode cX4_prepare 91 = .ok (.goto (-48), 3) := by decide +kernel
theorem dX4_prepare_94 : decode cX4_prepare 94 = .ok (.return_, 1) := by decide +kernel
theorem dX4_fillAfter_0 : decode cX4_fillAfter 0 = .ok (.aload_n 0, 1) := by decide +kernel
theorem dX4_fillAfter_1 : decode cX4_fillAfter 1 = .ok (.aload_n 1, 1) := by decide +kernel
theorem dX4_fillAfter_2 : decode cX4_fillAfter 2 = .ok (.iload_n 3, 1) := by decide +kernel
theorem dX4_fillAfter_3 : decode cX4_fillAfter 3 = .ok (.invokevirtual 161, 3) := by decide +kernel
theorem dX4_fillAfter_6 : decode cX4_fillAfter 6 = .ok (.istore 4, 2) := by decide +kernel
theorem dX4_fillAfter_8 : decode cX4_fillAfter 8 = .ok (.aload_n 0, 1) := by decide +kernel
theorem dX4_fillAfter_9 : decode cX4_fillAfter 9 = .ok (.getfield 53, 3) := by decide +kernel
theorem dX4_fillAfter_12 : decode cX4_fillAfter 12 = .ok (.invokevirtual 116, 3) := by decide +kernel
theorem dX4_fillAfter_15 : decode cX4_fillAfter 15 = .ok (.iconst 0, 1) := by decide +kernel
theorem dX4_fillAfter_16 : decode cX4_fillAfter 16 = .ok (.istore 5, 2) := by decide +kernel
theorem dX4_fillAfter_18 : decode cX4_fillAfter 18 = .ok (.iload 5, 2) := by decide +kernel
theorem dX4_fillAfter_20 : decode cX4_fillAfter 20 = .ok (.iload 4, 2) := by decide +kernel
theorem dX4_fillAfter_22 : decode cX4_fillAfter 22 = .ok (.if_icmp .ge 23, 3) := by decide +kernel
theorem dX4_fillAfter_25 : decode cX4_fillAfter 25 = .ok (.aload_n 0, 1) := by decide +kernel
theorem dX4_fillAfter_26 : decode cX4_fillAfter 26 = .ok (.getfield 53, 3) := by decide +kernel
theorem dX4_fillAfter_29 : decode cX4_fillAfter 29 = .ok (.aload_n 0, 1) := by decide +kernel
theorem dX4_fillAfter_30 : decode cX4_fillAfter 30 = .ok (.getfield 33, 3) := by decide +kernel
theorem dX4_fillAfter_33 : decode cX4_fillAfter 33 = .ok (.iload 5, 2) := by decide +kernel
theorem dX4_fillAfter_35 : decode cX4_fillAfter 35 = .ok (.iaload, 1) := by decide +kernel
theorem dX4_fillAfter_36 : decode cX4_fillAfter 36 = .ok (.invokevirtual 119, 3) := by decide +kernel
theorem dX4_fillAfter_39 : decode cX4_fillAfter 39 = .ok (.iinc 5 1, 3) := by decide +kernel
theorem dX4_fillAfter_42 : decode cX4_fillAfter 42 = .ok (.goto (-24), 3) := by decide +kernel
theorem dX4_fillAfter_45 : decode cX4_fillAfter 45 = .ok (.aload_n 0, 1) := by decide +kernel
theorem dX4_fillAfter_46 : decode cX4_fillAfter 46 = .ok (.getfield 22, 3) := by decide +kernel
theorem dX4_fillAfter_49 : decode cX4_fillAfter 49 = .ok (.iload_n 3, 1) := by decide +kernel
theorem dX4_fillAfter_50 : decode cX4_fillAfter 50 = .ok (.invokestatic 130, 3) := by decide +kernel
theorem dX4_fillAfter_53 : decode cX4_fillAfter 53 = .ok (.iload_n 2, 1) := by decide +kernel
theorem dX4_fillAfter_54 : decode cX4_fillAfter 54 = .ok (.iadd, 1) := by decide +kernel
theorem dX4_fillAfter_55 : decode cX4_fillAfter 55 = .ok (.aload_n 0, 1) := by decide +kernel
theorem dX4_fillAfter_56 : decode cX4_fillAfter 56 = .ok (.getfield 53, 3) := by decide +kernel
theorem dX4_fillAfter_59 : decode cX4_fillAfter 59 = .ok (.getfield 105, 3) := by decide +kernel
theorem dX4_fillAfter_62 : decode cX4_fillAfter 62 = .ok (.lastore, 1) := by decide +kernel
theorem dX4_fillAfter_63 : decode cX4_fillAfter 63 = .ok (.aload_n 0, 1) := by decide +kernel
theorem dX4_fillAfter_64 : decode cX4_fillAfter 64 = .ok (.getfield 26, 3) := by decide +kernel
theorem dX4_fillAfter_67 : decode cX4_fillAfter 67 = .ok (.iload_n 3, 1) := by decide +kernel
theorem dX4_fillAfter_68 : decode cX4_fillAfter 68 = .ok (.invokestatic 130, 3) := by decide +kernel
theorem dX4_fillAfter_71 : decode cX4_fillAfter 71 = .ok (.iload_n 2, 1) := by decide +kernel
theorem dX4_fillAfter_72 : decode cX4_fillAfter 72 = .ok (.iadd, 1) := by decide +kernel
theorem dX4_fillAfter_73 : decode cX4_fillAfter 73 = .ok (.aload_n 0, 1) := by decide +kernel
theorem dX4_fillAfter_74 : decode cX4_fillAfter 74 = .ok (.getfield 53, 3) := by decide +kernel
theorem dX4_fillAfter_77 : decode cX4_fillAfter 77 = .ok (.getfield 109, 3) := by decide +kernel
theorem dX4_fillAfter_80 : decode cX4_fillAfter 80 = .ok (.lastore, 1) := by decide +kernel
theorem dX4_fillAfter_81 : decode cX4_fillAfter 81 = .ok (.return_, 1) := by decide +kernel
theorem dX4_findEnds_0 : decode cX4_findEnds 0 = .ok (.aload_n 0, 1) := by decide +kernel
theorem dX4_findEnds_1 : decode cX4_findEnds 1 = .ok (.getfield 33, 3) := by decide +kernel
theorem dX4_findEnds_4 : decode cX4_findEnds 4 = .ok (.iconst 0, 1) := by decide +kernel
theorem dX4_findEnds_5 : decode cX4_findEnds 5 = .ok (.iconst 0, 1) := by decide +kernel
theorem dX4_findEnds_6 : decode cX4_findEnds 6 = .ok (.iastore, 1) := by decide +kernel
theorem dX4_findEnds_7 : decode cX4_findEnds 7 = .ok (.aload_n 0, 1) := by decide +kernel
theorem dX4_findEnds_8 : decode cX4_findEnds 8 = .ok (.getfield 36, 3) := by decide +kernel
theorem dX4_findEnds_11 : decode cX4_findEnds 11 = .ok (.iconst 0, 1) := by decide +kernel
theorem dX4_findEnds_12 : decode cX4_findEnds 12 = .ok (.iconst 0, 1) := by decide +kernel
theorem dX4_findEnds_13 : decode cX4_findEnds 13 = .ok (.iastore, 1) := by decide +kernel
theorem dX4_findEnds_14 : decode cX4_findEnds 14 = .ok (.iconst 1, 1) := by decide +kernel
theorem dX4_findEnds_15 : decode cX4_findEnds 15 = .ok (.istore_n 3, 1) := by decide +kernel
theorem dX4_findEnds_16 : decode cX4_findEnds 16 = .ok (.iconst 1, 1) := by decide +kernel
theorem dX4_findEnds_17 : decode cX4_findEnds 17 = .ok (.istore 4, 2) := by decide +kernel
theorem dX4_findEnds_19 : decode cX4_findEnds 19 = .ok (.iconst 0, 1) := by decide +kernel
theorem dX4_findEnds_20 : decode cX4_findEnds 20 = .ok (.istore 5, 2) := by decide +kernel
theorem dX4_findEnds_22 : decode cX4_findEnds 22 = .ok (.iload 5, 2) := by decide +kernel
theorem dX4_findEnds_24 : decode cX4_findEnds 24 = .ok (.aload_n 1, 1) := by decide +kernel
theorem dX4_findEnds_25 : decode cX4_findEnds 25 = .ok (.getfield 164, 3) := by decide +kernel
theorem dX4_findEnds_28 : decode cX4_findEnds 28 = .ok (.if_icmp .ge 191, 3) := by decide +kernel
theorem dX4_findEnds_31 : decode cX4_findEnds 31 = .ok (.aload_n 1, 1) := by decide +kernel
theorem dX4_findEnds_32 : decode cX4_findEnds 32 = .ok (.getfield 167, 3) := by decide +kernel
theorem dX4_findEnds_35 : decode cX4_findEnds 35 = .ok (.iload 5, 2) := by decide +kernel
theorem dX4_findEnds_37 : decode cX4_findEnds 37 = .ok (.aaload, 1) := by decide +kernel
theorem dX4_findEnds_38 : decode cX4_findEnds 38 = .ok (.astore 6, 2) := by decide +kernel
theorem dX4_findEnds_40 : decode cX4_findEnds 40 = .ok (.aload_n 0, 1) := by decide +kernel
theorem dX4_findEnds_41 : decode cX4_findEnds 41 = .ok (.getfield 42, 3) := by decide +kernel
theorem dX4_findEnds_44 : decode cX4_findEnds 44 = .ok (.getfield 171, 3) := by decide +kernel
theorem dX4_findEnds_47 : decode cX4_findEnds 47 = .ok (.iload 5, 2) := by decide +kernel
theorem dX4_findEnds_49 : decode cX4_findEnds 49 = .ok (.iaload, 1) := by decide +kernel
theorem dX4_findEnds_50 : decode cX4_findEnds 50 = .ok (.istore 7, 2) := by decide +kernel
theorem dX4_findEnds_52 : decode cX4_findEnds 52 = .ok (.iload 7, 2) := by decide +kernel
theorem dX4_findEnds_54 : decode cX4_findEnds 54 = .ok (.aload_n 1, 1) := by decide +kernel
theorem dX4_findEnds_55 : decode cX4_findEnds 55 = .ok (.aload 6, 2) := by decide +kernel
theorem dX4_findEnds_57 : decode cX4_findEnds 57 = .ok (.invokevirtual 174, 3) := by decide +kernel
theorem dX4_findEnds_60 : decode cX4_findEnds 60 = .ok (.if_icmp .eq 7, 3) := by decide +kernel
theorem dX4_findEnds_63 : decode cX4_findEnds 63 = .ok (.iconst 1, 1) := by decide +kernel
theorem dX4_findEnds_64 : decode cX4_findEnds 64 = .ok (.goto 4, 3) := by decide +kernel
theorem dX4_findEnds_67 : decode cX4_findEnds 67 = .ok (.iconst 0, 1) := by decide +kernel
theorem dX4_findEnds_68 : decode cX4_findEnds 68 = .ok (.istore 8, 2) := by decide +kernel
theorem dX4_findEnds_70 : decode cX4_findEnds 70 = .ok (.aload_n 1, 1) := by decide +kernel
theorem dX4_findEnds_71 : decode cX4_findEnds 71 = .ok (.aload 6, 2) := by decide +kernel
theorem dX4_findEnds_73 : decode cX4_findEnds 73 = .ok (.iload_n 2, 1) := by decide +kernel
theorem dX4_findEnds_74 : decode cX4_findEnds 74 = .ok (.invokevirtual 178, 3) := by decide +kernel
theorem dX4_findEnds_77 : decode cX4_findEnds 77 = .ok (.ifCond .eq 7, 3) := by decide +kernel
theorem dX4_findEnds_80 : decode cX4_findEnds 80 = .ok (.iconst 1, 1) := by decide +kernel
theorem dX4_findEnds_81 : decode cX4_findEnds 81 = .ok (.goto 4, 3) := by decide +kernel
theorem dX4_findEnds_84 : decode cX4_findEnds 84 = .ok (.iconst 0, 1) := by decide +kernel
theorem dX4_findEnds_85 : decode cX4_findEnds 85 = .ok (.istore 9, 2) := by decide +kernel
theorem dX4_findEnds_87 : decode cX4_findEnds 87 = .ok (.iload 4, 2) := by decide +kernel
theorem dX4_findEnds_89 : decode cX4_findEnds 89 = .ok (.aload_n 1, 1) := by decide +kernel
theorem dX4_findEnds_90 : decode cX4_findEnds 90 = .ok (.aload 6, 2) := by decide +kernel
theorem dX4_findEnds_92 : decode cX4_findEnds 92 = .ok (.iload 7, 2) := by decide +kernel
theorem dX4_findEnds_94 : decode cX4_findEnds 94 = .ok (.iload_n 2, 1) := by decide +kernel
theorem dX4_findEnds_95 : decode cX4_findEnds 95 = .ok (.iconst 0, 1) := by decide +kernel
theorem dX4_findEnds_96 : decode cX4_findEnds 96 = .ok (.invokevirtual 182, 3) := by decide +kernel
theorem dX4_findEnds_99 : decode cX4_findEnds 99 = .ok (.imul, 1) := by decide +kernel
theorem dX4_findEnds_100 : decode cX4_findEnds 100 = .ok (.istore 10, 2) := by decide +kernel
theorem dX4_findEnds_102 : decode cX4_findEnds 102 = .ok (.iload 4, 2) := by decide +kernel
theorem dX4_findEnds_104 : decode cX4_findEnds 104 = .ok (.aload_n 1, 1) := by decide +kernel
theorem dX4_findEnds_105 : decode cX4_findEnds 105 = .ok (.aload 6, 2) := by decide +kernel
theorem dX4_findEnds_107 : decode cX4_findEnds 107 = .ok (.iload 7, 2) := by decide +kernel
theorem dX4_findEnds_109 : decode cX4_findEnds 109 = .ok (.iload_n 2, 1) := by decide +kernel
theorem dX4_findEnds_110 : decode cX4_findEnds 110 = .ok (.iconst 1, 1) := by decide +kernel
theorem dX4_findEnds_111 : decode cX4_findEnds 111 = .ok (.invokevirtual 182, 3) := by decide +kernel
theorem dX4_findEnds_114 : decode cX4_findEnds 114 = .ok (.imul, 1) := by decide +kernel
theorem dX4_findEnds_115 : decode cX4_findEnds 115 = .ok (.istore 11, 2) := by decide +kernel
theorem dX4_findEnds_117 : decode cX4_findEnds 117 = .ok (.iload_n 3, 1) := by decide +kernel
theorem dX4_findEnds_118 : decode cX4_findEnds 118 = .ok (.istore 12, 2) := by decide +kernel
theorem dX4_findEnds_120 : decode cX4_findEnds 120 = .ok (.iconst 0, 1) := by decide +kernel
theorem dX4_findEnds_121 : decode cX4_findEnds 121 = .ok (.istore 13, 2) := by decide +kernel
theorem dX4_findEnds_123 : decode cX4_findEnds 123 = .ok (.iload 13, 2) := by decide +kernel
theorem dX4_findEnds_125 : decode cX4_findEnds 125 = .ok (.iload 12, 2) := by decide +kernel
theorem dX4_findEnds_127 : decode cX4_findEnds 127 = .ok (.if_icmp .ge 75, 3) := by decide +kernel
theorem dX4_findEnds_130 : decode cX4_findEnds 130 = .ok (.iload 8, 2) := by decide +kernel
theorem dX4_findEnds_132 : decode cX4_findEnds 132 = .ok (.ifCond .eq 52, 3) := by decide +kernel
theorem dX4_findEnds_135 : decode cX4_findEnds 135 = .ok (.aload_n 0, 1) := by decide +kernel
theorem dX4_findEnds_136 : decode cX4_findEnds 136 = .ok (.getfield 36, 3) := by decide +kernel
theorem dX4_findEnds_139 : decode cX4_findEnds 139 = .ok (.iload 13, 2) := by decide +kernel
theorem dX4_findEnds_141 : decode cX4_findEnds 141 = .ok (.iaload, 1) := by decide +kernel
theorem dX4_findEnds_142 : decode cX4_findEnds 142 = .ok (.iload 9, 2) := by decide +kernel
theorem dX4_findEnds_144 : decode cX4_findEnds 144 = .ok (.iadd, 1) := by decide +kernel
theorem dX4_findEnds_145 : decode cX4_findEnds 145 = .ok (.iconst 1, 1) := by decide +kernel
theorem dX4_findEnds_146 : decode cX4_findEnds 146 = .ok (.if_icmp .gt 38, 3) := by decide +kernel
theorem dX4_findEnds_149 : decode cX4_findEnds 149 = .ok (.aload_n 0, 1) := by decide +kernel
theorem dX4_findEnds_150 : decode cX4_findEnds 150 = .ok (.getfield 33, 3) := by decide +kernel
theorem dX4_findEnds_153 : decode cX4_findEnds 153 = .ok (.iload_n 3, 1) := by decide +kernel
theorem dX4_findEnds_154 : decode cX4_findEnds 154 = .ok (.aload_n 0, 1) := by decide +kernel
theorem dX4_findEnds_155 : decode cX4_findEnds 155 = .ok (.getfield 33, 3) := by decide +kernel
theorem dX4_findEnds_158 : decode cX4_findEnds 158 = .ok (.iload 13, 2) := by decide +kernel
theorem dX4_findEnds_160 : decode cX4_findEnds 160 = .ok (.iaload, 1) := by decide +kernel
theorem dX4_findEnds_161 : decode cX4_findEnds 161 = .ok (.iload 11, 2) := by decide +kernel
theorem dX4_findEnds_163 : decode cX4_findEnds 163 = .ok (.iadd, 1) := by decide +kernel
theorem dX4_findEnds_164 : decode cX4_findEnds 164 = .ok (.iastore, 1) := by decide +kernel
theorem dX4_findEnds_165 : decode cX4_findEnds 165 = .ok (.aload_n 0, 1) := by decide +kernel
theorem dX4_findEnds_166 : decode cX4_findEnds 166 = .ok (.getfield 36, 3) := by decide +kernel
theorem dX4_findEnds_169 : decode cX4_findEnds 169 = .ok (.iload_n 3, 1) := by decide +kernel
theorem dX4_findEnds_170 : decode cX4_findEnds 170 = .ok (.aload_n 0, 1) := by decide +kernel
theorem dX4_findEnds_171 : decode cX4_findEnds 171 = .ok (.getfield 36, 3) := by decide +kernel
theorem dX4_findEnds_174 : decode cX4_findEnds 174 = .ok (.iload 13, 2) := by decide +kernel
theorem dX4_findEnds_176 : decode cX4_findEnds 176 = .ok (.iaload, 1) := by decide +kernel
theorem dX4_findEnds_177 : decode cX4_findEnds 177 = .ok (.iload 9, 2) := by decide +kernel
theorem dX4_findEnds_179 : decode cX4_findEnds 179 = .ok (.iadd, 1) := by decide +kernel
theorem dX4_findEnds_180 : decode cX4_findEnds 180 = .ok (.iastore, 1) := by decide +kernel
theorem dX4_findEnds_181 : decode cX4_findEnds 181 = .ok (.iinc 3 1, 3) := by decide +kernel
theorem dX4_findEnds_184 : decode cX4_findEnds 184 = .ok (.aload_n 0, 1) := by decide +kernel
theorem dX4_findEnds_185 : decode cX4_findEnds 185 = .ok (.getfield 33, 3) := by decide +kernel
theorem dX4_findEnds_188 : decode cX4_findEnds 188 = .ok (.iload 13, 2) := by decide +kernel
theorem dX4_findEnds_190 : decode cX4_findEnds 190 = .ok (.dup2, 1) := by decide +kernel
theorem dX4_findEnds_191 : decode cX4_findEnds 191 = .ok (.iaload, 1) := by decide +kernel
theorem dX4_findEnds_192 : decode cX4_findEnds 192 = .ok (.iload 10, 2) := by decide +kernel
theorem dX4_findEnds_194 : decode cX4_findEnds 194 = .ok (.iadd, 1) := by decide +kernel
theorem dX4_findEnds_195 : decode cX4_findEnds 195 = .ok (.iastore, 1) := by decide +kernel
theorem dX4_findEnds_196 : decode cX4_findEnds 196 = .ok (.iinc 13 1, 3) := by decide +kernel
theorem dX4_findEnds_199 : decode cX4_findEnds 199 = .ok (.goto (-76), 3) := by decide +kernel
theorem dX4_findEnds_202 : decode cX4_findEnds 202 = .ok (.iload 4, 2) := by decide +kernel
theorem dX4_findEnds_204 : decode cX4_findEnds 204 = .ok (.aload_n 1, 1) := by decide +kernel
theorem dX4_findEnds_205 : decode cX4_findEnds 205 = .ok (.getfield 186, 3) := by decide +kernel
theorem dX4_findEnds_208 : decode cX4_findEnds 208 = .ok (.iconst 1, 1) := by decide +kernel
theorem dX4_findEnds_209 : decode cX4_findEnds 209 = .ok (.iadd, 1) := by decide +kernel
theorem dX4_findEnds_210 : decode cX4_findEnds 210 = .ok (.imul, 1) := by decide +kernel
theorem dX4_findEnds_211 : decode cX4_findEnds 211 = .ok (.istore 4, 2) := by decide +kernel
theorem dX4_findEnds_213 : decode cX4_findEnds 213 = .ok (.iinc 5 1, 3) := by decide +kernel
theorem dX4_findEnds_216 : decode cX4_findEnds 216 = .ok (.goto (-194), 3) := by decide +kernel
theorem dX4_findEnds_219 : decode cX4_findEnds 219 = .ok (.iload_n 3, 1) := by decide +kernel
theorem dX4_findEnds_220 : decode cX4_findEnds 220 = .ok (.ireturn, 1) := by decide +kernel
theorem dX5_init_0 : decode cX5_init 0 = .ok (.aload_n 0, 1) := by decide +kernel
theorem dX5_init_1 : decode cX5_init 1 = .ok (.invokespecial 3, 3) := by decide +kernel
theorem dX5_init_4 : decode cX5_init 4 = .ok (.aload_n 0, 1) := by decide +kernel
theorem dX5_init_5 : decode cX5_init 5 = .ok (.iconst (-1), 1) := by decide +kernel
theorem dX5_init_6 : decode cX5_init 6 = .ok (.putfield 11, 3) := by decide +kernel
theorem dX5_init_9 : decode cX5_init 9 = .ok (.aload_n 0, 1) := by decide +kernel
theorem dX5_init_10 : decode cX5_init 10 = .ok (.iconst 0, 1) := by decide +kernel
theorem dX5_init_11 : decode cX5_init 11 = .ok (.putfield 15, 3) := by decide +kernel
theorem dX5_init_14 : decode cX5_init 14 = .ok (.aload_n 0, 1) := by decide +kernel
theorem dX5_init_15 : decode cX5_init 15 = .ok (.bipush 60, 2) := by decide +kernel
theorem dX5_init_17 : decode cX5_init 17 = .ok (.newarray .int, 2) := by decide +kernel
theorem dX5_init_19 : decode cX5_init 19 = .ok (.putfield 18, 3) := by decide +kernel
theorem dX5_init_22 : decode cX5_init 22 = .ok (.return_, 1) := by decide +kernel
theorem dX5_hasRow_0 : decode cX5_hasRow 0 = .ok (.aload_n 0, 1) := by decide +kernel
theorem dX5_hasRow_1 : decode cX5_hasRow 1 = .ok (.getfield 11, 3) := by decide +kernel
theorem dX5_hasRow_4 : decode cX5_hasRow 4 = .ok (.iconst (-1), 1) := by decide +kernel
theorem dX5_hasRow_5 : decode cX5_hasRow 5 = .ok (.if_icmp .eq 7, 3) := by decide +kernel
theorem dX5_hasRow_8 : decode cX5_hasRow 8 = .ok (.iconst 1, 1) := by decide +kernel
theorem dX5_hasRow_9 : decode cX5_hasRow 9 = .ok (.goto 4, 3) := by decide +kernel
theorem dX5_hasRow_12 : decode cX5_hasRow 12 = .ok (.iconst 0, 1) := by decide +kernel
theorem dX5_hasRow_13 : decode cX5_hasRow 13 = .ok (.ireturn, 1) := by decide +kernel
theorem dX5_renew_0 : decode cX5_renew 0 = .ok (.aload_n 0, 1) := by decide +kernel
theorem dX5_renew_1 : decode cX5_renew 1 = .ok (.iload_n 1, 1) := by decide +kernel
theorem dX5_renew_2 : decode cX5_renew 2 = .ok (.putfield 11, 3) := by decide +kernel
theorem dX5_renew_5 : decode cX5_renew 5 = .ok (.aload_n 0, 1) := by decide +kernel
theorem dX5_renew_6 : decode cX5_renew 6 = .ok (.iload_n 2, 1) := by decide +kernel
theorem dX5_renew_7 : decode cX5_renew 7 = .ok (.putfield 15, 3) := by decide +kernel
theorem dX5_renew_10 : decode cX5_renew 10 = .ok (.aload_n 0, 1) := by decide +kernel
theorem dX5_renew_11 : decode cX5_renew 11 = .ok (.getfield 18, 3) := by decide +kernel
theorem dX5_renew_14 : decode cX5_renew 14 = .ok (.iconst 0, 1) := by decide +kernel
theorem dX5_renew_15 : decode cX5_renew 15 = .ok (.invokestatic 22, 3) := by decide +kernel
theorem dX5_renew_18 : decode cX5_renew 18 = .ok (.return_, 1) := by decide +kernel
theorem dX5_faultAs_0 : decode cX5_faultAs 0 = .ok (.aload_n 0, 1) := by decide +kernel
theorem dX5_faultAs_1 : decode cX5_faultAs 1 = .ok (.invokevirtual 28, 3) := by decide +kernel
theorem dX5_faultAs_4 : decode cX5_faultAs 4 = .ok (.ifCond .ne 5, 3) := by decide +kernel
theorem dX5_faultAs_7 : decode cX5_faultAs 7 = .ok (.iconst 1, 1) := by decide +kernel
theorem dX5_faultAs_8 : decode cX5_faultAs 8 = .ok (.ireturn, 1) := by decide +kernel
theorem dX5_faultAs_9 : decode cX5_faultAs 9 = .ok (.aload_n 0, 1) := by decide +kernel
theorem dX5_faultAs_10 : decode cX5_faultAs 10 = .ok (.getfield 11, 3) := by decide +kernel
theorem dX5_faultAs_13 : decode cX5_faultAs 13 = .ok (.iload_n 1, 1) := by decide +kernel
theorem dX5_faultAs_14 : decode cX5_faultAs 14 = .ok (.if_icmp .ne 7, 3) := by decide +kernel
theorem dX5_faultAs_17 : decode cX5_faultAs 17 = .ok (.iconst 0, 1) := by decide +kernel
theorem dX5_faultAs_18 : decode cX5_faultAs 18 = .ok (.goto 4, 3) := by decide +kernel
theorem dX5_faultAs_21 : decode cX5_faultAs 21 = .ok (.iconst 2, 1) := by decide +kernel
theorem dX5_faultAs_22 : decode cX5_faultAs 22 = .ok (.ireturn, 1) := by decide +kernel
theorem dX5_holds_0 : decode cX5_holds 0 = .ok (.iload_n 2, 1) := by decide +kernel
theorem dX5_holds_1 : decode cX5_holds 1 = .ok (.ifCond .lt 29, 3) := by decide +kernel
theorem dX5_holds_4 : decode cX5_holds 4 = .ok (.iload_n 1, 1) := by decide +kernel
theorem dX5_holds_5 : decode cX5_holds 5 = .ok (.ifCond .lt 25, 3) := by decide +kernel
theorem dX5_holds_8 : decode cX5_holds 8 = .ok (.iload_n 1, 1) := by decide +kernel
theorem dX5_holds_9 : decode cX5_holds 9 = .ok (.aload_n 0, 1) := by decide +kernel
theorem dX5_holds_10 : decode cX5_holds 10 = .ok (.getfield 15, 3) := by decide +kernel
theorem dX5_holds_13 : decode cX5_holds 13 = .ok (.if_icmp .gt 17, 3) := by decide +kernel
theorem dX5_holds_16 : decode cX5_holds 16 = .ok (.iload_n 2, 1) := by decide +kernel
theorem dX5_holds_17 : decode cX5_holds 17 = .ok (.aload_n 0, 1) := by decide +kernel
theorem dX5_holds_18 : decode cX5_holds 18 = .ok (.getfield 15, 3) := by decide +kernel
theorem dX5_holds_21 : decode cX5_holds 21 = .ok (.iload_n 1, 1) := by decide +kernel
theorem dX5_holds_22 : decode cX5_holds 22 = .ok (.isub, 1) := by decide +kernel
theorem dX5_holds_23 : decode cX5_holds 23 = .ok (.if_icmp .gt 7, 3) := by decide +kernel
theorem dX5_holds_26 : decode cX5_holds 26 = .ok (.iconst 1, 1) := by decide +kernel
theorem dX5_holds_27 : decode cX5_holds 27 = .ok (.goto 4, 3) := by decide +kernel
theorem dX5_holds_30 : decode cX5_holds 30 = .ok (.iconst 0, 1) := by decide +kernel
theorem dX5_holds_31 : decode cX5_holds 31 = .ok (.ireturn, 1) := by decide +kernel
theorem dX5_cut_0 : decode cX5_cut 0 = .ok (.aload_n 0, 1) := by decide +kernel
theorem dX5_cut_1 : decode cX5_cut 1 = .ok (.getfield 11, 3) := by decide +kernel
theorem dX5_cut_4 : decode cX5_cut 4 = .ok (.lookupswitch 34 #[(0, 28), (1, 31)], 28) := by decide +kernel
theorem dX5_cut_32 : decode cX5_cut 32 = .ok (.iload_n 1, 1) := by decide +kernel
theorem dX5_cut_33 : decode cX5_cut 33 = .ok (.i2b, 1) := by decide +kernel
theorem dX5_cut_34 : decode cX5_cut 34 = .ok (.ireturn, 1) := by decide +kernel
theorem dX5_cut_35 : decode cX5_cut 35 = .ok (.iload_n 1, 1) := by decide +kernel
theorem dX5_cut_36 : decode cX5_cut 36 = .ok (.i2s, 1) := by decide +kernel
theorem dX5_cut_37 : decode cX5_cut 37 = .ok (.ireturn, 1) := by decide +kernel
theorem dX5_cut_38 : decode cX5_cut 38 = .ok (.iload_n 1, 1) := by decide +kernel
theorem dX5_cut_39 : decode cX5_cut 39 = .ok (.ireturn, 1) := by decide +kernel
theorem dX6_init_0 : decode cX6_init 0 = .ok (.aload_n 0, 1) := by decide +kernel
theorem dX6_init_1 : decode cX6_init 1 = .ok (.invokespecial 1, 3) := by decide +kernel
theorem dX6_init_4 : decode cX6_init 4 = .ok (.aload_n 0, 1) := by decide +kernel
theorem dX6_init_5 : decode cX6_init 5 = .ok (.lconst 0, 1) := by decide +kernel
theorem dX6_init_6 : decode cX6_init 6 = .ok (.putfield 7, 3) := by decide +kernel
theorem dX6_init_9 : decode cX6_init 9 = .ok (.aload_n 0, 1) := by decide +kernel
theorem dX6_init_10 : decode cX6_init 10 = .ok (.lconst 0, 1) := by decide +kernel
theorem dX6_init_11 : decode cX6_init 11 = .ok (.putfield 13, 3) := by decide +kernel
theorem dX6_init_14 : decode cX6_init 14 = .ok (.return_, 1) := by decide +kernel
theorem dX6_clear_0 : decode cX6_clear 0 = .ok (.aload_n 0, 1) := by decide +kernel
theorem dX6_clear_1 : decode cX6_clear 1 = .ok (.lconst 0, 1) := by decide +kernel
theorem dX6_clear_2 : decode cX6_clear 2 = .ok (.putfield 7, 3) := by decide +kernel
theorem dX6_clear_5 : decode cX6_clear 5 = .ok (.aload_n 0, 1) := by decide +kernel
theorem dX6_clear_6 : decode cX6_clear 6 = .ok (.lconst 0, 1) := by decide +kernel
theorem dX6_clear_7 : decode cX6_clear 7 = .ok (.putfield 13, 3) := by decide +kernel
theorem dX6_clear_10 : decode cX6_clear 10 = .ok (.return_, 1) := by decide +kernel
theorem dX6_become_0 : decode cX6_become 0 = .ok (.aload_n 0, 1) := by decide +kernel
theorem dX6_become_1 : decode cX6_become 1 = .ok (.aload_n 1, 1) := by decide +kernel
theorem dX6_become_2 : decode cX6_become 2 = .ok (.getfield 7, 3) := by decide +kernel
theorem dX6_become_5 : decode cX6_become 5 = .ok (.putfield 7, 3) := by decide +kernel
theorem dX6_become_8 : decode cX6_become 8 = .ok (.aload_n 0, 1) := by decide +kernel
theorem dX6_become_9 : decode cX6_become 9 = .ok (.aload_n 1, 1) := by decide +kernel
theorem dX6_become_10 : decode cX6_become 10 = .ok (.getfield 13, 3) := by decide +kernel
theorem dX6_become_13 : decode cX6_become 13 = .ok (.putfield 13, 3) := by decide +kernel
theorem dX6_become_16 : decode cX6_become 16 = .ok (.return_, 1) := by decide +kernel
theorem dX6_add_0 : decode cX6_add 0 = .ok (.iload_n 1, 1) := by decide +kernel
theorem dX6_add_1 : decode cX6_add 1 = .ok (.bipush 64, 2) := by decide +kernel
theorem dX6_add_3 : decode cX6_add 3 = .ok (.if_icmp .ge 18, 3) := by decide +kernel
theorem dX6_add_6 : decode cX6_add 6 = .ok (.aload_n 0, 1) := by decide +kernel
theorem dX6_add_7 : decode cX6_add 7 = .ok (.dup, 1) := by decide +kernel
theorem dX6_add_8 : decode cX6_add 8 = .ok (.getfield 7, 3) := by decide +kernel
theorem dX6_add_11 : decode cX6_add 11 = .ok (.lconst 1, 1) := by decide +kernel
theorem dX6_add_12 : decode cX6_add 12 = .ok (.iload_n 1, 1) := by decide +kernel
theorem dX6_add_13 : decode cX6_add 13 = .ok (.lshl, 1) := by decide +kernel
theorem dX6_add_14 : decode cX6_add 14 = .ok (.lor, 1) := by decide +kernel
theorem dX6_add_15 : decode cX6_add 15 = .ok (.putfield 7, 3) := by decide +kernel
theorem dX6_add_18 : decode cX6_add 18 = .ok (.goto 18, 3) := by decide +kernel
theorem dX6_add_21 : decode cX6_add 21 = .ok (.aload_n 0, 1) := by decide +kernel
theorem dX6_add_22 : decode cX6_add 22 = .ok (.dup, 1) := by decide +kernel
theorem dX6_add_23 : decode cX6_add 23 = .ok (.getfield 13, 3) := by decide +kernel
theorem dX6_add_26 : decode cX6_add 26 = .ok (.lconst 1, 1) := by decide +kernel
theorem dX6_add_27 : decode cX6_add 27 = .ok (.iload_n 1, 1) := by decide +kernel
theorem dX6_add_28 : decode cX6_add 28 = .ok (.bipush 64, 2) := by decide +kernel
theorem dX6_add_30 : decode cX6_add 30 = .ok (.isub, 1) := by decide +kernel
theorem dX6_add_31 : decode cX6_add 31 = .ok (.lshl, 1) := by decide +kernel
theorem dX6_add_32 : decode cX6_add 32 = .ok (.lor, 1) := by decide +kernel
theorem dX6_add_33 : decode cX6_add 33 = .ok (.putfield 13, 3) := by decide +kernel
theorem dX6_add_36 : decode cX6_add 36 = .ok (.return_, 1) := by decide +kernel
theorem dX6_addAll_0 : decode cX6_addAll 0 = .ok (.aload_n 0, 1) := by decide +kernel
theorem dX6_addAll_1 : decode cX6_addAll 1 = .ok (.dup, 1) := by decide +kernel
theorem dX6_addAll_2 : decode cX6_addAll 2 = .ok (.getfield 7, 3) := by decide +kernel
theorem dX6_addAll_5 : decode cX6_addAll 5 = .ok (.lload_n 1, 1) := by decide +kernel
theorem dX6_addAll_6 : decode cX6_addAll 6 = .ok (.lor, 1) := by decide +kernel
theorem dX6_addAll_7 : decode cX6_addAll 7 = .ok (.putfield 7, 3) := by decide +kernel
theorem dX6_addAll_10 : decode cX6_addAll 10 = .ok (.aload_n 0, 1) := by decide +kernel
theorem dX6_addAll_11 : decode cX6_addAll 11 = .ok (.dup, 1) := by decide +kernel
theorem dX6_addAll_12 : decode cX6_addAll 12 = .ok (.getfield 13, 3) := by decide +kernel
theorem dX6_addAll_15 : decode cX6_addAll 15 = .ok (.lload_n 3, 1) := by decide +kernel
theorem dX6_addAll_16 : decode cX6_addAll 16 = .ok (.lor, 1) := by decide +kernel
theorem dX6_addAll_17 : decode cX6_addAll 17 = .ok (.putfield 13, 3) := by decide +kernel
theorem dX6_addAll_20 : decode cX6_addAll 20 = .ok (.return_, 1) := by decide +kernel
theorem dX6_has_0 : decode cX6_has 0 = .ok (.iload_n 1, 1) := by decide +kernel
theorem dX6_has_1 : decode cX6_has 1 = .ok (.bipush 64, 2) := by decide +kernel
theorem dX6_has_3 : decode cX6_has 3 = .ok (.if_icmp .ge 12, 3) := by decide +kernel
theorem dX6_has_6 : decode cX6_has 6 = .ok (.aload_n 0, 1) := by decide +kernel
theorem dX6_has_7 : decode cX6_has 7 = .ok (.getfield 7, 3) := by decide +kernel
theorem dX6_has_10 : decode cX6_has 10 = .ok (.iload_n 1, 1) := by decide +kernel
theorem dX6_has_11 : decode cX6_has 11 = .ok (.lushr, 1) := by decide +kernel
theorem dX6_has_12 : decode cX6_has 12 = .ok (.goto 12, 3) := by decide +kernel
theorem dX6_has_15 : decode cX6_has 15 = .ok (.aload_n 0, 1) := by decide +kernel
theorem dX6_has_16 : decode cX6_has 16 = .ok (.getfield 13, 3) := by decide +kernel
theorem dX6_has_19 : decode cX6_has 19 = .ok (.iload_n 1, 1) := by decide +kernel
theorem dX6_has_20 : decode cX6_has 20 = .ok (.bipush 64, 2) := by decide +kernel
theorem dX6_has_22 : decode cX6_has 22 = .ok (.isub, 1) := by decide +kernel
theorem dX6_has_23 : decode cX6_has 23 = .ok (.lushr, 1) := by decide +kernel
theorem dX6_has_24 : decode cX6_has 24 = .ok (.lconst 1, 1) := by decide +kernel
theorem dX6_has_25 : decode cX6_has 25 = .ok (.land, 1) := by decide +kernel
theorem dX6_has_26 : decode cX6_has 26 = .ok (.lconst 1, 1) := by decide +kernel
theorem dX6_has_27 : decode cX6_has 27 = .ok (.lcmp, 1) := by decide +kernel
theorem dX6_has_28 : decode cX6_has 28 = .ok (.ifCond .ne 7, 3) := by decide +kernel
theorem dX6_has_31 : decode cX6_has 31 = .ok (.iconst 1, 1) := by decide +kernel
theorem dX6_has_32 : decode cX6_has 32 = .ok (.goto 4, 3) := by decide +kernel
theorem dX6_has_35 : decode cX6_has 35 = .ok (.iconst 0, 1) := by decide +kernel
theorem dX6_has_36 : decode cX6_has 36 = .ok (.ireturn, 1) := by decide +kernel
theorem dX6_meets_0 : decode cX6_meets 0 = .ok (.aload_n 0, 1) := by decide +kernel
theorem dX6_meets_1 : decode cX6_meets 1 = .ok (.getfield 7, 3) := by decide +kernel
theorem dX6_meets_4 : decode cX6_meets 4 = .ok (.lload_n 1, 1) := by decide +kernel
theorem dX6_meets_5 : decode cX6_meets 5 = .ok (.land, 1) := by decide +kernel
theorem dX6_meets_6 : decode cX6_meets 6 = .ok (.aload_n 0, 1) := by decide +kernel
theorem dX6_meets_7 : decode cX6_meets 7 = .ok (.getfield 13, 3) := by decide +kernel
theorem dX6_meets_10 : decode cX6_meets 10 = .ok (.lload_n 3, 1) := by decide +kernel
theorem dX6_meets_11 : decode cX6_meets 11 = .ok (.land, 1) := by decide +kernel
theorem dX6_meets_12 : decode cX6_meets 12 = .ok (.lor, 1) := by decide +kernel
theorem dX6_meets_13 : decode cX6_meets 13 = .ok (.lconst 0, 1) := by decide +kernel
theorem dX6_meets_14 : decode cX6_meets 14 = .ok (.lcmp, 1) := by decide +kernel
theorem dX6_meets_15 : decode cX6_meets 15 = .ok (.ifCond .eq 7, 3) := by decide +kernel
theorem dX6_meets_18 : decode cX6_meets 18 = .ok (.iconst 1, 1) := by decide +kernel
theorem dX6_meets_19 : decode cX6_meets 19 = .ok (.goto 4, 3) := by decide +kernel
theorem dX6_meets_22 : decode cX6_meets 22 = .ok (.iconst 0, 1) := by decide +kernel
theorem dX6_meets_23 : decode cX6_meets 23 = .ok (.ireturn, 1) := by decide +kernel
theorem dX7_init_0 : decode cX7_init 0 = .ok (.aload_n 0, 1) := by decide +kernel
theorem dX7_init_1 : decode cX7_init 1 = .ok (.invokespecial 3, 3) := by decide +kernel
theorem dX7_init_4 : decode cX7_init 4 = .ok (.aload_n 0, 1) := by decide +kernel
theorem dX7_init_5 : decode cX7_init 5 = .ok (.iconst 0, 1) := by decide +kernel
theorem dX7_init_6 : decode cX7_init 6 = .ok (.putfield 9, 3) := by decide +kernel
theorem dX7_init_9 : decode cX7_init 9 = .ok (.aload_n 0, 1) := by decide +kernel
theorem dX7_init_10 : decode cX7_init 10 = .ok (.iconst 0, 1) := by decide +kernel
theorem dX7_init_11 : decode cX7_init 11 = .ok (.newarray .int, 2) := by decide +kernel
theorem dX7_init_13 : decode cX7_init 13 = .ok (.putfield 15, 3) := by decide +kernel
theorem dX7_init_16 : decode cX7_init 16 = .ok (.aload_n 0, 1) := by decide +kernel
theorem dX7_init_17 : decode cX7_init 17 = .ok (.iconst 0, 1) := by decide +kernel
theorem dX7_init_18 : decode cX7_init 18 = .ok (.putfield 19, 3) := by decide +kernel
theorem dX7_init_21 : decode cX7_init 21 = .ok (.aload_n 0, 1) := by decide +kernel
theorem dX7_init_22 : decode cX7_init 22 = .ok (.iconst 0, 1) := by decide +kernel
theorem dX7_init_23 : decode cX7_init 23 = .ok (.putfield 22, 3) := by decide +kernel
theorem dX7_init_26 : decode cX7_init 26 = .ok (.return_, 1) := by decide +kernel
theorem dX7_begin_0 : decode cX7_begin 0 = .ok (.aload_n 0, 1) := by decide +kernel
theorem dX7_begin_1 : decode cX7_begin 1 = .ok (.aload_n 1, 1) := by decide +kernel
theorem dX7_begin_2 : decode cX7_begin 2 = .ok (.putfield 15, 3) := by decide +kernel
theorem dX7_begin_5 : decode cX7_begin 5 = .ok (.aload_n 0, 1) := by decide +kernel
theorem dX7_begin_6 : decode cX7_begin 6 = .ok (.iload_n 2, 1) := by decide +kernel
theorem dX7_begin_7 : decode cX7_begin 7 = .ok (.putfield 19, 3) := by decide +kernel
theorem dX7_begin_10 : decode cX7_begin 10 = .ok (.aload_n 0, 1) := by decide +kernel
theorem dX7_begin_11 : decode cX7_begin 11 = .ok (.iconst 0, 1) := by decide +kernel
theorem dX7_begin_12 : decode cX7_begin 12 = .ok (.putfield 9, 3) := by decide +kernel
theorem dX7_begin_15 : decode cX7_begin 15 = .ok (.aload_n 0, 1) := by decide +kernel
theorem dX7_begin_16 : decode cX7_begin 16 = .ok (.iload_n 3, 1) := by decide +kernel
theorem dX7_begin_17 : decode cX7_begin 17 = .ok (.putfield 22, 3) := by decide +kernel
theorem dX7_begin_20 : decode cX7_begin 20 = .ok (.return_, 1) := by decide +kernel
theorem dX7_readWater_0 : decode cX7_readWater 0 = .ok (.aload_n 0, 1) := by decide +kernel
theorem dX7_readWater_1 : decode cX7_readWater 1 = .ok (.bipush 119, 2) := by decide +kernel
theorem dX7_readWater_3 : decode cX7_readWater 3 = .ok (.invokevirtual 25, 3) := by decide +kernel
theorem dX7_readWater_6 : decode cX7_readWater 6 = .ok (.ifCond .ne 5, 3) := by decide +kernel
theorem dX7_readWater_9 : decode cX7_readWater 9 = .ok (.iconst 0, 1) := by decide +kernel
theorem dX7_readWater_10 : decode cX7_readWater 10 = .ok (.ireturn, 1) := by decide +kernel
theorem dX7_readWater_11 : decode cX7_readWater 11 = .ok (.aload_n 0, 1) := by decide +kernel
theorem dX7_readWater_12 : decode cX7_readWater 12 = .ok (.iconst 2, 1) := by decide +kernel
theorem dX7_readWater_13 : decode cX7_readWater 13 = .ok (.iconst 4, 1) := by decide +kernel
theorem dX7_readWater_14 : decode cX7_readWater 14 = .ok (.invokevirtual 29, 3) := by decide +kernel
theorem dX7_readWater_17 : decode cX7_readWater 17 = .ok (.istore_n 2, 1) := by decide +kernel
theorem dX7_readWater_18 : decode cX7_readWater 18 = .ok (.iload_n 2, 1) := by decide +kernel
theorem dX7_readWater_19 : decode cX7_readWater 19 = .ok (.ifCond .ge 5, 3) := by decide +kernel
theorem dX7_readWater_22 : decode cX7_readWater 22 = .ok (.iconst 0, 1) := by decide +kernel
theorem dX7_readWater_23 : decode cX7_readWater 23 = .ok (.ireturn, 1) := by decide +kernel
theorem dX7_readWater_24 : decode cX7_readWater 24 = .ok (.aload_n 1, 1) := by decide +kernel
theorem dX7_readWater_25 : decode cX7_readWater 25 = .ok (.iload_n 2, 1) := by decide +kernel
theorem dX7_readWater_26 : decode cX7_readWater 26 = .ok (.putfield 33, 3) := by decide +kernel
theorem dX7_readWater_29 : decode cX7_readWater 29 = .ok (.iconst 1, 1) := by decide +kernel
theorem dX7_readWater_30 : decode cX7_readWater 30 = .ok (.istore_n 3, 1) := by decide +kernel
theorem dX7_readWater_31 : decode cX7_readWater 31 = .ok (.iload_n 3, 1) := by decide +kernel
theorem dX7_readWater_32 : decode cX7_readWater 32 = .ok (.iload_n 2, 1) := by decide +kernel
theorem dX7_readWater_33 : decode cX7_readWater 33 = .ok (.if_icmp .ge 37, 3) := by decide +kernel
theorem dX7_readWater_36 : decode cX7_readWater 36 = .ok (.aload_n 0, 1) := by decide +kernel
theorem dX7_readWater_37 : decode cX7_readWater 37 = .ok (.iconst 0, 1) := by decide +kernel
theorem dX7_readWater_38 : decode cX7_readWater 38 = .ok (.iconst 1, 1) := by decide +kernel
theorem dX7_readWater_39 : decode cX7_readWater 39 = .ok (.invokevirtual 29, 3) := by decide +kernel
theorem dX7_readWater_42 : decode cX7_readWater 42 = .ok (.istore 4, 2) := by decide +kernel
theorem dX7_readWater_44 : decode cX7_readWater 44 = .ok (.iload 4, 2) := by decide +kernel
theorem dX7_readWater_46 : decode cX7_readWater 46 = .ok (.ifCond .ge 5, 3) := by decide +kernel
theorem dX7_readWater_49 : decode cX7_readWater 49 = .ok (.iconst 0, 1) := by decide +kernel
theorem dX7_readWater_50 : decode cX7_readWater 50 = .ok (.ireturn, 1) := by decide +kernel
theorem dX7_readWater_51 : decode cX7_readWater 51 = .ok (.aload_n 1, 1) := by decide +kernel
theorem dX7_readWater_52 : decode cX7_readWater 52 = .ok (.dup, 1) := by decide +kernel
theorem dX7_readWater_53 : decode cX7_readWater 53 = .ok (.getfield 38, 3) := by decide +kernel
theorem dX7_readWater_56 : decode cX7_readWater 56 = .ok (.iload 4, 2) := by decide +kernel
theorem dX7_readWater_58 : decode cX7_readWater 58 = .ok (.iload_n 3, 1) := by decide +kernel
theorem dX7_readWater_59 : decode cX7_readWater 59 = .ok (.ishl, 1) := by decide +kernel
theorem dX7_readWater_60 : decode cX7_readWater 60 = .ok (.ior, 1) := by decide +kernel
theorem dX7_readWater_61 : decode cX7_readWater 61 = .ok (.putfield 38, 3) := by decide +kernel
theorem dX7_readWater_64 : decode cX7_readWater 64 = .ok (.iinc 3 1, 3) := by decide +kernel
theorem dX7_readWater_67 : decode cX7_readWater 67 = .ok (.goto (-36), 3) := by decide +kernel
theorem dX7_readWater_70 : decode cX7_readWater 70 = .ok (.aload_n 0, 1) := by decide +kernel
theorem dX7_readWater_71 : decode cX7_readWater 71 = .ok (.bipush 59, 2) := by decide +kernel
theorem dX7_readWater_73 : decode cX7_readWater 73 = .ok (.invokevirtual 25, 3) := by decide +kernel
theorem dX7_readWater_76 : decode cX7_readWater 76 = .ok (.ireturn, 1) := by decide +kernel
theorem dX7_readWinds_0 : decode cX7_readWinds 0 = .ok (.iconst 0, 1) := by decide +kernel
theorem dX7_readWinds_1 : decode cX7_readWinds 1 = .ok (.istore_n 2, 1) := by decide +kernel
theorem dX7_readWinds_2 : decode cX7_readWinds 2 = .ok (.iload_n 2, 1) := by decide +kernel
theorem dX7_readWinds_3 : decode cX7_readWinds 3 = .ok (.bipush 10, 2) := by decide +kernel
theorem dX7_readWinds_5 : decode cX7_readWinds 5 = .ok (.if_icmp .ge 42, 3) := by decide +kernel
theorem dX7_readWinds_8 : decode cX7_readWinds 8 = .ok (.aload_n 0, 1) := by decide +kernel
theorem dX7_readWinds_9 : decode cX7_readWinds 9 = .ok (.invokevirtual 41, 3) := by decide +kernel
theorem dX7_readWinds_12 : decode cX7_readWinds 12 = .ok (.istore_n 3, 1) := by decide +kernel
theorem dX7_readWinds_13 : decode cX7_readWinds 13 = .ok (.iload_n 3, 1) := by decide +kernel
theorem dX7_readWinds_14 : decode cX7_readWinds 14 = .ok (.ifCond .ge 13, 3) := by decide +kernel
theorem dX7_readWinds_17 : decode cX7_readWinds 17 = .ok (.iload_n 2, 1) := by decide +kernel
theorem dX7_readWinds_18 : decode cX7_readWinds 18 = .ok (.ifCond .le 7, 3) := by decide +kernel
theorem dX7_readWinds_21 : decode cX7_readWinds 21 = .ok (.iconst 1, 1) := by decide +kernel
theorem dX7_readWinds_22 : decode cX7_readWinds 22 = .ok (.goto 4, 3) := by decide +kernel
theorem dX7_readWinds_25 : decode cX7_readWinds 25 = .ok (.iconst 0, 1) := by decide +kernel
theorem dX7_readWinds_26 : decode cX7_readWinds 26 = .ok (.ireturn, 1) := by decide +kernel
theorem dX7_readWinds_27 : decode cX7_readWinds 27 = .ok (.aload_n 1, 1) := by decide +kernel
theorem dX7_readWinds_28 : decode cX7_readWinds 28 = .ok (.getfield 45, 3) := by decide +kernel
theorem dX7_readWinds_31 : decode cX7_readWinds 31 = .ok (.iload_n 2, 1) := by decide +kernel
theorem dX7_readWinds_32 : decode cX7_readWinds 32 = .ok (.iload_n 3, 1) := by decide +kernel
theorem dX7_readWinds_33 : decode cX7_readWinds 33 = .ok (.iastore, 1) := by decide +kernel
theorem dX7_readWinds_34 : decode cX7_readWinds 34 = .ok (.aload_n 1, 1) := by decide +kernel
theorem dX7_readWinds_35 : decode cX7_readWinds 35 = .ok (.iload_n 2, 1) := by decide +kernel
theorem dX7_readWinds_36 : decode cX7_readWinds 36 = .ok (.iconst 1, 1) := by decide +kernel
theorem dX7_readWinds_37 : decode cX7_readWinds 37 = .ok (.iadd, 1) := by decide +kernel
theorem dX7_readWinds_38 : decode cX7_readWinds 38 = .ok (.putfield 48, 3) := by decide +kernel
theorem dX7_readWinds_41 : decode cX7_readWinds 41 = .ok (.iinc 2 1, 3) := by decide +kernel
theorem dX7_readWinds_44 : decode cX7_readWinds 44 = .ok (.goto (-42), 3) := by decide +kernel
theorem dX7_readWinds_47 : decode cX7_readWinds 47 = .ok (.iconst 1, 1) := by decide +kernel
theorem dX7_readWinds_48 : decode cX7_readWinds 48 = .ok (.ireturn, 1) := by decide +kernel
theorem dX7_readBoats_0 : decode cX7_readBoats 0 = .ok (.iconst 0, 1) := by decide +kernel
theorem dX7_readBoats_1 : decode cX7_readBoats 1 = .ok (.istore_n 2, 1) := by decide +kernel
theorem dX7_readBoats_2 : decode cX7_readBoats 2 = .ok (.iload_n 2, 1) := by decide +kernel
theorem dX7_readBoats_3 : decode cX7_readBoats 3 = .ok (.iconst 3, 1) := by decide +kernel
theorem dX7_readBoats_4 : decode cX7_readBoats 4 = .ok (.if_icmp .ge 44, 3) := by decide +kernel
theorem dX7_readBoats_7 : decode cX7_readBoats 7 = .ok (.iload_n 2, 1) := by decide +kernel
theorem dX7_readBoats_8 : decode cX7_readBoats 8 = .ok (.ifCond .le 16, 3) := by decide +kernel
theorem dX7_readBoats_11 : decode cX7_readBoats 11 = .ok (.aload_n 0, 1) := by decide +kernel
theorem dX7_readBoats_12 : decode cX7_readBoats 12 = .ok (.getfield 9, 3) := by decide +kernel
theorem dX7_readBoats_15 : decode cX7_readBoats 15 = .ok (.aload_n 0, 1) := by decide +kernel
theorem dX7_readBoats_16 : decode cX7_readBoats 16 = .ok (.getfield 22, 3) := by decide +kernel
theorem dX7_readBoats_19 : decode cX7_readBoats 19 = .ok (.if_icmp .ne 5, 3) := by decide +kernel
theorem dX7_readBoats_22 : decode cX7_readBoats 22 = .ok (.iconst 1, 1) := by decide +kernel
theorem dX7_readBoats_23 : decode cX7_readBoats 23 = .ok (.ireturn, 1) := by decide +kernel
theorem dX7_readBoats_24 : decode cX7_readBoats 24 = .ok (.aload_n 0, 1) := by decide +kernel
theorem dX7_readBoats_25 : decode cX7_readBoats 25 = .ok (.aload_n 1, 1) := by decide +kernel
theorem dX7_readBoats_26 : decode cX7_readBoats 26 = .ok (.iload_n 2, 1) := by decide +kernel
theorem dX7_readBoats_27 : decode cX7_readBoats 27 = .ok (.invokevirtual 51, 3) := by decide +kernel
theorem dX7_readBoats_30 : decode cX7_readBoats 30 = .ok (.ifCond .ne 5, 3) := by decide +kernel
theorem dX7_readBoats_33 : decode cX7_readBoats 33 = .ok (.iconst 0, 1) := by decide +kernel
theorem dX7_readBoats_34 : decode cX7_readBoats 34 = .ok (.ireturn, 1) := by decide +kernel
theorem dX7_readBoats_35 : decode cX7_readBoats 35 = .ok (.aload_n 1, 1) := by decide +kernel
theorem dX7_readBoats_36 : decode cX7_readBoats 36 = .ok (.iload_n 2, 1) := by decide +kernel
theorem dX7_readBoats_37 : decode cX7_readBoats 37 = .ok (.iconst 1, 1) := by decide +kernel
theorem dX7_readBoats_38 : decode cX7_readBoats 38 = .ok (.iadd, 1) := by decide +kernel
theorem dX7_readBoats_39 : decode cX7_readBoats 39 = .ok (.putfield 55, 3) := by decide +kernel
theorem dX7_readBoats_42 : decode cX7_readBoats 42 = .ok (.iinc 2 1, 3) := by decide +kernel
theorem dX7_readBoats_45 : decode cX7_readBoats 45 = .ok (.goto (-43), 3) := by decide +kernel
theorem dX7_readBoats_48 : decode cX7_readBoats 48 = .ok (.aload_n 0, 1) := by decide +kernel
theorem dX7_readBoats_49 : decode cX7_readBoats 49 = .ok (.getfield 9, 3) := by decide +kernel
theorem dX7_readBoats_52 : decode cX7_readBoats 52 = .ok (.aload_n 0, 1) := by decide +kernel
theorem dX7_readBoats_53 : decode cX7_readBoats 53 = .ok (.getfield 22, 3) := by decide +kernel
theorem dX7_readBoats_56 : decode cX7_readBoats 56 = .ok (.if_icmp .ne 7, 3) := by decide +kernel
theorem dX7_readBoats_59 : decode cX7_readBoats 59 = .ok (.iconst 1, 1) := by decide +kernel
theorem dX7_readBoats_60 : decode cX7_readBoats 60 = .ok (.goto 4, 3) := by decide +kernel
theorem dX7_readBoats_63 : decode cX7_readBoats 63 = .ok (.iconst 0, 1) := by decide +kernel
theorem dX7_readBoats_64 : decode cX7_readBoats 64 = .ok (.ireturn, 1) := by decide +kernel
theorem dX7_readBoat_0 : decode cX7_readBoat 0 = .ok (.aload_n 0, 1) := by decide +kernel
theorem dX7_readBoat_1 : decode cX7_readBoat 1 = .ok (.bipush 44, 2) := by decide +kernel
theorem dX7_readBoat_3 : decode cX7_readBoat 3 = .ok (.invokevirtual 25, 3) := by decide +kernel
theorem dX7_readBoat_6 : decode cX7_readBoat 6 = .ok (.ifCond .ne 5, 3) := by decide +kernel
theorem dX7_readBoat_9 : decode cX7_readBoat 9 = .ok (.iconst 0, 1) := by decide +kernel
theorem dX7_readBoat_10 : decode cX7_readBoat 10 = .ok (.ireturn, 1) := by decide +kernel
theorem dX7_readBoat_11 : decode cX7_readBoat 11 = .ok (.aload_n 0, 1) := by decide +kernel
theorem dX7_readBoat_12 : decode cX7_readBoat 12 = .ok (.invokevirtual 58, 3) := by decide +kernel
theorem dX7_readBoat_15 : decode cX7_readBoat 15 = .ok (.istore_n 3, 1) := by decide +kernel
theorem dX7_readBoat_16 : decode cX7_readBoat 16 = .ok (.iload_n 3, 1) := by decide +kernel
theorem dX7_readBoat_17 : decode cX7_readBoat 17 = .ok (.ifCond .ge 5, 3) := by decide +kernel
theorem dX7_readBoat_20 : decode cX7_readBoat 20 = .ok (.iconst 0, 1) := by decide +kernel
theorem dX7_readBoat_21 : decode cX7_readBoat 21 = .ok (.ireturn, 1) := by decide +kernel
theorem dX7_readBoat_22 : decode cX7_readBoat 22 = .ok (.aload_n 0, 1) := by decide +kernel
theorem dX7_readBoat_23 : decode cX7_readBoat 23 = .ok (.iconst 0, 1) := by decide +kernel
theorem dX7_readBoat_24 : decode cX7_readBoat 24 = .ok (.iconst 1, 1) := by decide +kernel
theorem dX7_readBoat_25 : decode cX7_readBoat 25 = .ok (.invokevirtual 29, 3) := by decide +kernel
theorem dX7_readBoat_28 : decode cX7_readBoat 28 = .ok (.istore 4, 2) := by decide +kernel
theorem dX7_readBoat_30 : decode cX7_readBoat 30 = .ok (.iload 4, 2) := by decide +kernel
theorem dX7_readBoat_32 : decode cX7_readBoat 32 = .ok (.ifCond .ge 5, 3) := by decide +kernel
theorem dX7_readBoat_35 : decode cX7_readBoat 35 = .ok (.iconst 0, 1) := by decide +kernel
theorem dX7_readBoat_36 : decode cX7_readBoat 36 = .ok (.ireturn, 1) := by decide +kernel
theorem dX7_readBoat_37 : decode cX7_readBoat 37 = .ok (.aload_n 0, 1) := by decide +kernel
theorem dX7_readBoat_38 : decode cX7_readBoat 38 = .ok (.iconst 1, 1) := by decide +kernel
theorem dX7_readBoat_39 : decode cX7_readBoat 39 = .ok (.iconst 3, 1) := by decide +kernel
theorem dX7_readBoat_40 : decode cX7_readBoat 40 = .ok (.invokevirtual 29, 3) := by decide +kernel
theorem dX7_readBoat_43 : decode cX7_readBoat 43 = .ok (.istore 5, 2) := by decide +kernel
theorem dX7_readBoat_45 : decode cX7_readBoat 45 = .ok (.iload 5, 2) := by decide +kernel
theorem dX7_readBoat_47 : decode cX7_readBoat 47 = .ok (.ifCond .ge 5, 3) := by decide +kernel
theorem dX7_readBoat_50 : decode cX7_readBoat 50 = .ok (.iconst 0, 1) := by decide +kernel
theorem dX7_readBoat_51 : decode cX7_readBoat 51 = .ok (.ireturn, 1) := by decide +kernel
theorem dX7_readBoat_52 : decode cX7_readBoat 52 = .ok (.aload_n 1, 1) := by decide +kernel
theorem dX7_readBoat_53 : decode cX7_readBoat 53 = .ok (.getfield 61, 3) := by decide +kernel
theorem dX7_readBoat_56 : decode cX7_readBoat 56 = .ok (.iload_n 2, 1) := by decide +kernel
theorem dX7_readBoat_57 : decode cX7_readBoat 57 = .ok (.iload_n 3, 1) := by decide +kernel
theorem dX7_readBoat_58 : decode cX7_readBoat 58 = .ok (.iload_n 2, 1) := by decide +kernel
theorem dX7_readBoat_59 : decode cX7_readBoat 59 = .ok (.iload 4, 2) := by decide +kernel
theorem dX7_readBoat_61 : decode cX7_readBoat 61 = .ok (.iload 5, 2) := by decide +kernel
theorem dX7_readBoat_63 : decode cX7_readBoat 63 = .ok (.invokestatic 65, 3) := by decide +kernel
theorem dX7_readBoat_66 : decode cX7_readBoat 66 = .ok (.aastore, 1) := by decide +kernel
theorem dX7_readBoat_67 : decode cX7_readBoat 67 = .ok (.iconst 1, 1) := by decide +kernel
theorem dX7_readBoat_68 : decode cX7_readBoat 68 = .ok (.ireturn, 1) := by decide +kernel
theorem dX7_isNext_0 : decode cX7_isNext 0 = .ok (.aload_n 0, 1) := by decide +kernel
theorem dX7_isNext_1 : decode cX7_isNext 1 = .ok (.getfield 9, 3) := by decide +kernel
theorem dX7_isNext_4 : decode cX7_isNext 4 = .ok (.aload_n 0, 1) := by decide +kernel
theorem dX7_isNext_5 : decode cX7_isNext 5 = .ok (.getfield 22, 3) := by decide +kernel
theorem dX7_isNext_8 : decode cX7_isNext 8 = .ok (.if_icmp .ge 25, 3) := by decide +kernel
theorem dX7_isNext_11 : decode cX7_isNext 11 = .ok (.aload_n 0, 1) := by decide +kernel
theorem dX7_isNext_12 : decode cX7_isNext 12 = .ok (.getfield 15, 3) := by decide +kernel
theorem dX7_isNext_15 : decode cX7_isNext 15 = .ok (.aload_n 0, 1) := by decide +kernel
theorem dX7_isNext_16 : decode cX7_isNext 16 = .ok (.getfield 19, 3) := by decide +kernel
theorem dX7_isNext_19 : decode cX7_isNext 19 = .ok (.aload_n 0, 1) := by decide +kernel
theorem dX7_isNext_20 : decode cX7_isNext 20 = .ok (.getfield 9, 3) := by decide +kernel
theorem dX7_isNext_23 : decode cX7_isNext 23 = .ok (.iadd, 1) := by decide +kernel
theorem dX7_isNext_24 : decode cX7_isNext 24 = .ok (.iaload, 1) := by decide +kernel
theorem dX7_isNext_25 : decode cX7_isNext 25 = .ok (.iload_n 1, 1) := by decide +kernel
theorem dX7_isNext_26 : decode cX7_isNext 26 = .ok (.if_icmp .ne 7, 3) := by decide +kernel
theorem dX7_isNext_29 : decode cX7_isNext 29 = .ok (.iconst 1, 1) := by decide +kernel
theorem dX7_isNext_30 : decode cX7_isNext 30 = .ok (.goto 4, 3) := by decide +kernel
theorem dX7_isNext_33 : decode cX7_isNext 33 = .ok (.iconst 0, 1) := by decide +kernel
theorem dX7_isNext_34 : decode cX7_isNext 34 = .ok (.ireturn, 1) := by decide +kernel
theorem dX7_skip_0 : decode cX7_skip 0 = .ok (.aload_n 0, 1) := by decide +kernel
theorem dX7_skip_1 : decode cX7_skip 1 = .ok (.iload_n 1, 1) := by decide +kernel
theorem dX7_skip_2 : decode cX7_skip 2 = .ok (.invokevirtual 69, 3) := by decide +kernel
theorem dX7_skip_5 : decode cX7_skip 5 = .ok (.ifCond .ne 5, 3) := by decide +kernel
theorem dX7_skip_8 : decode cX7_skip 8 = .ok (.iconst 0, 1) := by decide +kernel
theorem dX7_skip_9 : decode cX7_skip 9 = .ok (.ireturn, 1) := by decide +kernel
theorem dX7_skip_10 : decode cX7_skip 10 = .ok (.aload_n 0, 1) := by decide +kernel
theorem dX7_skip_11 : decode cX7_skip 11 = .ok (.dup, 1) := by decide +kernel
theorem dX7_skip_12 : decode cX7_skip 12 = .ok (.getfield 9, 3) := by decide +kernel
theorem dX7_skip_15 : decode cX7_skip 15 = .ok (.iconst 1, 1) := by decide +kernel
theorem dX7_skip_16 : decode cX7_skip 16 = .ok (.iadd, 1) := by decide +kernel
theorem dX7_skip_17 : decode cX7_skip 17 = .ok (.putfield 9, 3) := by decide +kernel
theorem dX7_skip_20 : decode cX7_skip 20 = .ok (.iconst 1, 1) := by decide +kernel
theorem dX7_skip_21 : decode cX7_skip 21 = .ok (.ireturn, 1) := by decide +kernel
theorem dX7_digit_0 : decode cX7_digit 0 = .ok (.iload_n 1, 1) := by decide +kernel
theorem dX7_digit_1 : decode cX7_digit 1 = .ok (.istore_n 3, 1) := by decide +kernel
theorem dX7_digit_2 : decode cX7_digit 2 = .ok (.iload_n 3, 1) := by decide +kernel
theorem dX7_digit_3 : decode cX7_digit 3 = .ok (.iload_n 2, 1) := by decide +kernel
theorem dX7_digit_4 : decode cX7_digit 4 = .ok (.if_icmp .gt 22, 3) := by decide +kernel
theorem dX7_digit_7 : decode cX7_digit 7 = .ok (.aload_n 0, 1) := by decide +kernel
theorem dX7_digit_8 : decode cX7_digit 8 = .ok (.bipush 48, 2) := by decide +kernel
theorem dX7_digit_10 : decode cX7_digit 10 = .ok (.iload_n 3, 1) := by decide +kernel
theorem dX7_digit_11 : decode cX7_digit 11 = .ok (.iadd, 1) := by decide +kernel
theorem dX7_digit_12 : decode cX7_digit 12 = .ok (.invokevirtual 25, 3) := by decide +kernel
theorem dX7_digit_15 : decode cX7_digit 15 = .ok (.ifCond .eq 5, 3) := by decide +kernel
theorem dX7_digit_18 : decode cX7_digit 18 = .ok (.iload_n 3, 1) := by decide +kernel
theorem dX7_digit_19 : decode cX7_digit 19 = .ok (.ireturn, 1) := by decide +kernel
theorem dX7_digit_20 : decode cX7_digit 20 = .ok (.iinc 3 1, 3) := by decide +kernel
theorem dX7_digit_23 : decode cX7_digit 23 = .ok (.goto (-21), 3) := by decide +kernel
theorem dX7_digit_26 : decode cX7_digit 26 = .ok (.iconst (-1), 1) := by decide +kernel
theorem dX7_digit_27 : decode cX7_digit 27 = .ok (.ireturn, 1) := by decide +kernel
theorem dX7_windSign_0 : decode cX7_windSign 0 = .ok (.aload_n 0, 1) := by decide +kernel
theorem dX7_windSign_1 : decode cX7_windSign 1 = .ok (.bipush 62, 2) := by decide +kernel
theorem dX7_windSign_3 : decode cX7_windSign 3 = .ok (.invokevirtual 25, 3) := by decide +kernel
theorem dX7_windSign_6 : decode cX7_windSign 6 = .ok (.ifCond .eq 5, 3) := by decide +kernel
theorem dX7_windSign_9 : decode cX7_windSign 9 = .ok (.iconst 1, 1) := by decide +kernel
theorem dX7_windSign_10 : decode cX7_windSign 10 = .ok (.ireturn, 1) := by decide +kernel
theorem dX7_windSign_11 : decode cX7_windSign 11 = .ok (.aload_n 0, 1) := by decide +kernel
theorem dX7_windSign_12 : decode cX7_windSign 12 = .ok (.bipush 60, 2) := by decide +kernel
theorem dX7_windSign_14 : decode cX7_windSign 14 = .ok (.invokevirtual 25, 3) := by decide +kernel
theorem dX7_windSign_17 : decode cX7_windSign 17 = .ok (.ifCond .eq 5, 3) := by decide +kernel
theorem dX7_windSign_20 : decode cX7_windSign 20 = .ok (.iconst 2, 1) := by decide +kernel
theorem dX7_windSign_21 : decode cX7_windSign 21 = .ok (.ireturn, 1) := by decide +kernel
theorem dX7_windSign_22 : decode cX7_windSign 22 = .ok (.aload_n 0, 1) := by decide +kernel
theorem dX7_windSign_23 : decode cX7_windSign 23 = .ok (.bipush 46, 2) := by decide +kernel
theorem dX7_windSign_25 : decode cX7_windSign 25 = .ok (.invokevirtual 25, 3) := by decide +kernel
theorem dX7_windSign_28 : decode cX7_windSign 28 = .ok (.ifCond .eq 7, 3) := by decide +kernel
theorem dX7_windSign_31 : decode cX7_windSign 31 = .ok (.iconst 0, 1) := by decide +kernel
theorem dX7_windSign_32 : decode cX7_windSign 32 = .ok (.goto 4, 3) := by decide +kernel
theorem dX7_windSign_35 : decode cX7_windSign 35 = .ok (.iconst (-1), 1) := by decide +kernel
theorem dX7_windSign_36 : decode cX7_windSign 36 = .ok (.ireturn, 1) := by decide +kernel
theorem dX7_kindLetter_0 : decode cX7_kindLetter 0 = .ok (.aload_n 0, 1) := by decide +kernel
theorem dX7_kindLetter_1 : decode cX7_kindLetter 1 = .ok (.bipush 98, 2) := by decide +kernel
theorem dX7_kindLetter_3 : decode cX7_kindLetter 3 = .ok (.invokevirtual 25, 3) := by decide +kernel
theorem dX7_kindLetter_6 : decode cX7_kindLetter 6 = .ok (.ifCond .eq 5, 3) := by decide +kernel
theorem dX7_kindLetter_9 : decode cX7_kindLetter 9 = .ok (.iconst 0, 1) := by decide +kernel
theorem dX7_kindLetter_10 : decode cX7_kindLetter 10 = .ok (.ireturn, 1) := by decide +kernel
theorem dX7_kindLetter_11 : decode cX7_kindLetter 11 = .ok (.aload_n 0, 1) := by decide +kernel
theorem dX7_kindLetter_12 : decode cX7_kindLetter 12 = .ok (.bipush 111, 2) := by decide +kernel
theorem dX7_kindLetter_14 : decode cX7_kindLetter 14 = .ok (.invokevirtual 25, 3) := by decide +kernel
theorem dX7_kindLetter_17 : decode cX7_kindLetter 17 = .ok (.ifCond .eq 5, 3) := by decide +kernel
theorem dX7_kindLetter_20 : decode cX7_kindLetter 20 = .ok (.iconst 1, 1) := by decide +kernel
theorem dX7_kindLetter_21 : decode cX7_kindLetter 21 = .ok (.ireturn, 1) := by decide +kernel
theorem dX7_kindLetter_22 : decode cX7_kindLetter 22 = .ok (.aload_n 0, 1) := by decide +kernel
theorem dX7_kindLetter_23 : decode cX7_kindLetter 23 = .ok (.bipush 116, 2) := by decide +kernel
theorem dX7_kindLetter_25 : decode cX7_kindLetter 25 = .ok (.invokevirtual 25, 3) := by decide +kernel
theorem dX7_kindLetter_28 : decode cX7_kindLetter 28 = .ok (.ifCond .eq 7, 3) := by decide +kernel
theorem dX7_kindLetter_31 : decode cX7_kindLetter 31 = .ok (.iconst 2, 1) := by decide +kernel
theorem dX7_kindLetter_32 : decode cX7_kindLetter 32 = .ok (.goto 4, 3) := by decide +kernel
theorem dX7_kindLetter_35 : decode cX7_kindLetter 35 = .ok (.iconst (-1), 1) := by decide +kernel
theorem dX7_kindLetter_36 : decode cX7_kindLetter 36 = .ok (.ireturn, 1) := by decide +kernel
theorem dX8_init_0 : decode cX8_init 0 = .ok (.aload_n 0, 1) := by decide +kernel
theorem dX8_init_1 : decode cX8_init 1 = .ok (.iload_n 1, 1) := by decide +kernel
theorem dX8_init_2 : decode cX8_init 2 = .ok (.iload_n 2, 1) := by decide +kernel
theorem dX8_init_3 : decode cX8_init 3 = .ok (.iload_n 3, 1) := by decide +kernel
theorem dX8_init_4 : decode cX8_init 4 = .ok (.invokespecial 1, 3) := by decide +kernel
theorem dX8_init_7 : decode cX8_init 7 = .ok (.return_, 1) := by decide +kernel
theorem dX8_kindNumber_0 : decode cX8_kindNumber 0 = .ok (.iconst 2, 1) := by decide +kernel
theorem dX8_kindNumber_1 : decode cX8_kindNumber 1 = .ok (.ireturn, 1) := by decide +kernel
theorem dX8_goesAgainst_0 : decode cX8_goesAgainst 0 = .ok (.aload_n 0, 1) := by decide +kernel
theorem dX8_goesAgainst_1 : decode cX8_goesAgainst 1 = .ok (.getfield 7, 3) := by decide +kernel
theorem dX8_goesAgainst_4 : decode cX8_goesAgainst 4 = .ok (.ireturn, 1) := by decide +kernel
theorem dX8_counts_0 : decode cX8_counts 0 = .ok (.iconst 0, 1) := by decide +kernel
theorem dX8_counts_1 : decode cX8_counts 1 = .ok (.ireturn, 1) := by decide +kernel
theorem dX8_telling_0 : decode cX8_telling 0 = .ok (.aload_n 1, 1) := by decide +kernel
theorem dX8_telling_1 : decode cX8_telling 1 = .ok (.iconst 3, 1) := by decide +kernel
theorem dX8_telling_2 : decode cX8_telling 2 = .ok (.invokevirtual 13, 3) := by decide +kernel
theorem dX8_telling_5 : decode cX8_telling 5 = .ok (.aload_n 0, 1) := by decide +kernel
theorem dX8_telling_6 : decode cX8_telling 6 = .ok (.aload_n 1, 1) := by decide +kernel
theorem dX8_telling_7 : decode cX8_telling 7 = .ok (.invokespecial 19, 3) := by decide +kernel
theorem dX8_telling_10 : decode cX8_telling 10 = .ok (.istore_n 2, 1) := by decide +kernel
theorem dX8_telling_11 : decode cX8_telling 11 = .ok (.iload_n 2, 1) := by decide +kernel
theorem dX8_telling_12 : decode cX8_telling 12 = .ok (.aload_n 0, 1) := by decide +kernel
theorem dX8_telling_13 : decode cX8_telling 13 = .ok (.aload_n 1, 1) := by decide +kernel
theorem dX8_telling_14 : decode cX8_telling 14 = .ok (.invokevirtual 23, 3) := by decide +kernel
theorem dX8_telling_17 : decode cX8_telling 17 = .ok (.iadd, 1) := by decide +kernel
theorem dX8_telling_18 : decode cX8_telling 18 = .ok (.ireturn, 1) := by decide +kernel
theorem dX8_hailing_0 : decode cX8_hailing 0 = .ok (.aload_n 1, 1) := by decide +kernel
theorem dX8_hailing_1 : decode cX8_hailing 1 = .ok (.iconst 5, 1) := by decide +kernel
theorem dX8_hailing_2 : decode cX8_hailing 2 = .ok (.invokevirtual 13, 3) := by decide +kernel
theorem dX8_hailing_5 : decode cX8_hailing 5 = .ok (.bipush 70, 2) := by decide +kernel
theorem dX8_hailing_7 : decode cX8_hailing 7 = .ok (.ireturn, 1) := by decide +kernel
theorem dX9_init_0 : decode cX9_init 0 = .ok (.aload_n 0, 1) := by decide +kernel
theorem dX9_init_1 : decode cX9_init 1 = .ok (.invokespecial 1, 3) := by decide +kernel
theorem dX9_init_4 : decode cX9_init 4 = .ok (.aload_n 0, 1) := by decide +kernel
theorem dX9_init_5 : decode cX9_init 5 = .ok (.iconst 0, 1) := by decide +kernel
theorem dX9_init_6 : decode cX9_init 6 = .ok (.putfield 7, 3) := by decide +kernel
theorem dX9_init_9 : decode cX9_init 9 = .ok (.return_, 1) := by decide +kernel
theorem dX9_leave_0 : decode cX9_leave 0 = .ok (.aload_n 0, 1) := by decide +kernel
theorem dX9_leave_1 : decode cX9_leave 1 = .ok (.bipush 31, 2) := by decide +kernel
theorem dX9_leave_3 : decode cX9_leave 3 = .ok (.aload_n 0, 1) := by decide +kernel
theorem dX9_leave_4 : decode cX9_leave 4 = .ok (.getfield 7, 3) := by decide +kernel
theorem dX9_leave_7 : decode cX9_leave 7 = .ok (.imul, 1) := by decide +kernel
theorem dX9_leave_8 : decode cX9_leave 8 = .ok (.iload_n 1, 1) := by decide +kernel
theorem dX9_leave_9 : decode cX9_leave 9 = .ok (.iadd, 1) := by decide +kernel
theorem dX9_leave_10 : decode cX9_leave 10 = .ok (.putfield 7, 3) := by decide +kernel
theorem dX9_leave_13 : decode cX9_leave 13 = .ok (.return_, 1) := by decide +kernel
theorem dX10_init_0 : decode cX10_init 0 = .ok (.aload_n 0, 1) := by decide +kernel
theorem dX10_init_1 : decode cX10_init 1 = .ok (.invokespecial 3, 3) := by decide +kernel
theorem dX10_init_4 : decode cX10_init 4 = .ok (.aload_n 0, 1) := by decide +kernel
theorem dX10_init_5 : decode cX10_init 5 = .ok (.iconst 3, 1) := by decide +kernel
theorem dX10_init_6 : decode cX10_init 6 = .ok (.newarray .int, 2) := by decide +kernel
theorem dX10_init_8 : decode cX10_init 8 = .ok (.putfield 9, 3) := by decide +kernel
theorem dX10_init_11 : decode cX10_init 11 = .ok (.aload_n 0, 1) := by decide +kernel
theorem dX10_init_12 : decode cX10_init 12 = .ok (.iconst 0, 1) := by decide +kernel
theorem dX10_init_13 : decode cX10_init 13 = .ok (.putfield 15, 3) := by decide +kernel
theorem dX10_init_16 : decode cX10_init 16 = .ok (.aload_n 0, 1) := by decide +kernel
theorem dX10_init_17 : decode cX10_init 17 = .ok (.bipush (-9), 2) := by decide +kernel
theorem dX10_init_19 : decode cX10_init 19 = .ok (.putfield 19, 3) := by decide +kernel
theorem dX10_init_22 : decode cX10_init 22 = .ok (.aload_n 0, 1) := by decide +kernel
theorem dX10_init_23 : decode cX10_init 23 = .ok (.bipush (-9), 2) := by decide +kernel
theorem dX10_init_25 : decode cX10_init 25 = .ok (.putfield 22, 3) := by decide +kernel
theorem dX10_init_28 : decode cX10_init 28 = .ok (.return_, 1) := by decide +kernel
theorem dX10_begin_0 : decode cX10_begin 0 = .ok (.iconst 0, 1) := by decide +kernel
theorem dX10_begin_1 : decode cX10_begin 1 = .ok (.istore_n 2, 1) := by decide +kernel
theorem dX10_begin_2 : decode cX10_begin 2 = .ok (.iload_n 2, 1) := by decide +kernel
theorem dX10_begin_3 : decode cX10_begin 3 = .ok (.aload_n 1, 1) := by decide +kernel
theorem dX10_begin_4 : decode cX10_begin 4 = .ok (.getfield 25, 3) := by decide +kernel
theorem dX10_begin_7 : decode cX10_begin 7 = .ok (.if_icmp .ge 25, 3) := by decide +kernel
theorem dX10_begin_10 : decode cX10_begin 10 = .ok (.aload_n 0, 1) := by decide +kernel
theorem dX10_begin_11 : decode cX10_begin 11 = .ok (.getfield 9, 3) := by decide +kernel
theorem dX10_begin_14 : decode cX10_begin 14 = .ok (.iload_n 2, 1) := by decide +kernel
theorem dX10_begin_15 : decode cX10_begin 15 = .ok (.aload_n 1, 1) := by decide +kernel
theorem dX10_begin_16 : decode cX10_begin 16 = .ok (.aload_n 1, 1) := by decide +kernel
theorem dX10_begin_17 : decode cX10_begin 17 = .ok (.getfield 30, 3) := by decide +kernel
theorem dX10_begin_20 : decode cX10_begin 20 = .ok (.iload_n 2, 1) := by decide +kernel
theorem dX10_begin_21 : decode cX10_begin 21 = .ok (.aaload, 1) := by decide +kernel
theorem dX10_begin_22 : decode cX10_begin 22 = .ok (.invokevirtual 34, 3) := by decide +kernel
theorem dX10_begin_25 : decode cX10_begin 25 = .ok (.iastore, 1) := by decide +kernel
theorem dX10_begin_26 : decode cX10_begin 26 = .ok (.iinc 2 1, 3) := by decide +kernel
theorem dX10_begin_29 : decode cX10_begin 29 = .ok (.goto (-27), 3) := by decide +kernel
theorem dX10_begin_32 : decode cX10_begin 32 = .ok (.return_, 1) := by decide +kernel
theorem dX10_sail_0 : decode cX10_sail 0 = .ok (.iconst 0, 1) := by decide +kernel
theorem dX10_sail_1 : decode cX10_sail 1 = .ok (.istore 4, 2) := by decide +kernel
theorem dX10_sail_3 : decode cX10_sail 3 = .ok (.iconst 0, 1) := by decide +kernel
theorem dX10_sail_4 : decode cX10_sail 4 = .ok (.istore 5, 2) := by decide +kernel
theorem dX10_sail_6 : decode cX10_sail 6 = .ok (.iload 5, 2) := by decide +kernel
theorem dX10_sail_8 : decode cX10_sail 8 = .ok (.aload_n 1, 1) := by decide +kernel
theorem dX10_sail_9 : decode cX10_sail 9 = .ok (.getfield 25, 3) := by decide +kernel
theorem dX10_sail_12 : decode cX10_sail 12 = .ok (.if_icmp .ge 92, 3) := by decide +kernel
theorem dX10_sail_15 : decode cX10_sail 15 = .ok (.aload_n 1, 1) := by decide +kernel
theorem dX10_sail_16 : decode cX10_sail 16 = .ok (.getfield 30, 3) := by decide +kernel
theorem dX10_sail_19 : decode cX10_sail 19 = .ok (.iload 5, 2) := by decide +kernel
theorem dX10_sail_21 : decode cX10_sail 21 = .ok (.aaload, 1) := by decide +kernel
theorem dX10_sail_22 : decode cX10_sail 22 = .ok (.astore 6, 2) := by decide +kernel
theorem dX10_sail_24 : decode cX10_sail 24 = .ok (.iload_n 2, 1) := by decide +kernel
theorem dX10_sail_25 : decode cX10_sail 25 = .ok (.iload 5, 2) := by decide +kernel
theorem dX10_sail_27 : decode cX10_sail 27 = .ok (.ishr, 1) := by decide +kernel
theorem dX10_sail_28 : decode cX10_sail 28 = .ok (.iconst 1, 1) := by decide +kernel
theorem dX10_sail_29 : decode cX10_sail 29 = .ok (.iand, 1) := by decide +kernel
theorem dX10_sail_30 : decode cX10_sail 30 = .ok (.iconst 1, 1) := by decide +kernel
theorem dX10_sail_31 : decode cX10_sail 31 = .ok (.if_icmp .ne 23, 3) := by decide +kernel
theorem dX10_sail_34 : decode cX10_sail 34 = .ok (.aload_n 0, 1) := by decide +kernel
theorem dX10_sail_35 : decode cX10_sail 35 = .ok (.getfield 9, 3) := by decide +kernel
theorem dX10_sail_38 : decode cX10_sail 38 = .ok (.iload 5, 2) := by decide +kernel
theorem dX10_sail_40 : decode cX10_sail 40 = .ok (.iaload, 1) := by decide +kernel
theorem dX10_sail_41 : decode cX10_sail 41 = .ok (.aload_n 1, 1) := by decide +kernel
theorem dX10_sail_42 : decode cX10_sail 42 = .ok (.aload 6, 2) := by decide +kernel
theorem dX10_sail_44 : decode cX10_sail 44 = .ok (.invokevirtual 38, 3) := by decide +kernel
theorem dX10_sail_47 : decode cX10_sail 47 = .ok (.if_icmp .eq 7, 3) := by decide +kernel
theorem dX10_sail_50 : decode cX10_sail 50 = .ok (.iconst 1, 1) := by decide +kernel
theorem dX10_sail_51 : decode cX10_sail 51 = .ok (.goto 4, 3) := by decide +kernel
theorem dX10_sail_54 : decode cX10_sail 54 = .ok (.iconst 0, 1) := by decide +kernel
theorem dX10_sail_55 : decode cX10_sail 55 = .ok (.istore 7, 2) := by decide +kernel
theorem dX10_sail_57 : decode cX10_sail 57 = .ok (.iload 7, 2) := by decide +kernel
theorem dX10_sail_59 : decode cX10_sail 59 = .ok (.ifCond .eq 16, 3) := by decide +kernel
theorem dX10_sail_62 : decode cX10_sail 62 = .ok (.aload_n 1, 1) := by decide +kernel
theorem dX10_sail_63 : decode cX10_sail 63 = .ok (.aload 6, 2) := by decide +kernel
theorem dX10_sail_65 : decode cX10_sail 65 = .ok (.iload_n 3, 1) := by decide +kernel
theorem dX10_sail_66 : decode cX10_sail 66 = .ok (.invokevirtual 41, 3) := by decide +kernel
theorem dX10_sail_69 : decode cX10_sail 69 = .ok (.ifCond .eq 6, 3) := by decide +kernel
theorem dX10_sail_72 : decode cX10_sail 72 = .ok (.iinc 4 1, 3) := by decide +kernel
theorem dX10_sail_75 : decode cX10_sail 75 = .ok (.aload_n 0, 1) := by decide +kernel
theorem dX10_sail_76 : decode cX10_sail 76 = .ok (.getfield 9, 3) := by decide +kernel
theorem dX10_sail_79 : decode cX10_sail 79 = .ok (.iload 5, 2) := by decide +kernel
theorem dX10_sail_81 : decode cX10_sail 81 = .ok (.aload_n 1, 1) := by decide +kernel
theorem dX10_sail_82 : decode cX10_sail 82 = .ok (.aload 6, 2) := by decide +kernel
theorem dX10_sail_84 : decode cX10_sail 84 = .ok (.aload_n 0, 1) := by decide +kernel
theorem dX10_sail_85 : decode cX10_sail 85 = .ok (.getfield 9, 3) := by decide +kernel
theorem dX10_sail_88 : decode cX10_sail 88 = .ok (.iload 5, 2) := by decide +kernel
theorem dX10_sail_90 : decode cX10_sail 90 = .ok (.iaload, 1) := by decide +kernel
theorem dX10_sail_91 : decode cX10_sail 91 = .ok (.iload_n 3, 1) := by decide +kernel
theorem dX10_sail_92 : decode cX10_sail 92 = .ok (.iload 7, 2) := by decide +kernel
theorem dX10_sail_94 : decode cX10_sail 94 = .ok (.invokevirtual 45, 3) := by decide +kernel
theorem dX10_sail_97 : decode cX10_sail 97 = .ok (.iastore, 1) := by decide +kernel
theorem dX10_sail_98 : decode cX10_sail 98 = .ok (.iinc 5 1, 3) := by decide +kernel
theorem dX10_sail_101 : decode cX10_sail 101 = .ok (.goto (-95), 3) := by decide +kernel
theorem dX10_sail_104 : decode cX10_sail 104 = .ok (.iload 4, 2) := by decide +kernel
end
section
theorem dX10_sail_106 : decode cX10_sail 106 = .ok (.iconst 1, 1) := by decide +kernel
theorem dX10_sail_107 : decode cX10_sail 107 = .ok (.if_icmp .le 8, 3) := by decide +kernel
theorem dX10_sail_110 : decode cX10_sail 110 = .ok (.iload 4, 2) := by decide +kernel
theorem dX10_sail_112 : decode cX10_sail 112 = .ok (.goto 4, 3) := by decide +kernel
theorem dX10_sail_115 : decode cX10_sail 115 = .ok (.iconst 0, 1) := by decide +kernel
theorem dX10_sail_116 : decode cX10_sail 116 = .ok (.ireturn, 1) := by decide +kernel
theorem dX10_sailAll_0 : decode cX10_sailAll 0 = .ok (.aload_n 0, 1) := by decide +kernel
theorem dX10_sailAll_1 : decode cX10_sailAll 1 = .ok (.iconst 0, 1) := by decide +kernel
theorem dX10_sailAll_2 : decode cX10_sailAll 2 = .ok (.putfield 15, 3) := by decide +kernel
theorem dX10_sailAll_5 : decode cX10_sailAll 5 = .ok (.aload_n 0, 1) := by decide +kernel
theorem dX10_sailAll_6 : decode cX10_sailAll 6 = .ok (.bipush (-9), 2) := by decide +kernel
theorem dX10_sailAll_8 : decode cX10_sailAll 8 = .ok (.putfield 19, 3) := by decide +kernel
theorem dX10_sailAll_11 : decode cX10_sailAll 11 = .ok (.aload_n 0, 1) := by decide +kernel
theorem dX10_sailAll_12 : decode cX10_sailAll 12 = .ok (.bipush (-9), 2) := by decide +kernel
theorem dX10_sailAll_14 : decode cX10_sailAll 14 = .ok (.putfield 22, 3) := by decide +kernel
theorem dX10_sailAll_17 : decode cX10_sailAll 17 = .ok (.aload_n 0, 1) := by decide +kernel
theorem dX10_sailAll_18 : decode cX10_sailAll 18 = .ok (.aload_n 1, 1) := by decide +kernel
theorem dX10_sailAll_19 : decode cX10_sailAll 19 = .ok (.invokevirtual 49, 3) := by decide +kernel
theorem dX10_sailAll_22 : decode cX10_sailAll 22 = .ok (.iconst 0, 1) := by decide +kernel
theorem dX10_sailAll_23 : decode cX10_sailAll 23 = .ok (.istore 4, 2) := by decide +kernel
theorem dX10_sailAll_25 : decode cX10_sailAll 25 = .ok (.iload 4, 2) := by decide +kernel
theorem dX10_sailAll_27 : decode cX10_sailAll 27 = .ok (.iload_n 3, 1) := by decide +kernel
theorem dX10_sailAll_28 : decode cX10_sailAll 28 = .ok (.if_icmp .ge 85, 3) := by decide +kernel
theorem dX10_sailAll_31 : decode cX10_sailAll 31 = .ok (.aload_n 0, 1) := by decide +kernel
theorem dX10_sailAll_32 : decode cX10_sailAll 32 = .ok (.aload_n 1, 1) := by decide +kernel
theorem dX10_sailAll_33 : decode cX10_sailAll 33 = .ok (.aload_n 2, 1) := by decide +kernel
theorem dX10_sailAll_34 : decode cX10_sailAll 34 = .ok (.iload 4, 2) := by decide +kernel
theorem dX10_sailAll_36 : decode cX10_sailAll 36 = .ok (.iaload, 1) := by decide +kernel
theorem dX10_sailAll_37 : decode cX10_sailAll 37 = .ok (.aload_n 1, 1) := by decide +kernel
theorem dX10_sailAll_38 : decode cX10_sailAll 38 = .ok (.getfield 53, 3) := by decide +kernel
theorem dX10_sailAll_41 : decode cX10_sailAll 41 = .ok (.iload 4, 2) := by decide +kernel
theorem dX10_sailAll_43 : decode cX10_sailAll 43 = .ok (.iaload, 1) := by decide +kernel
theorem dX10_sailAll_44 : decode cX10_sailAll 44 = .ok (.invokevirtual 56, 3) := by decide +kernel
theorem dX10_sailAll_47 : decode cX10_sailAll 47 = .ok (.istore 5, 2) := by decide +kernel
theorem dX10_sailAll_49 : decode cX10_sailAll 49 = .ok (.aload_n 0, 1) := by decide +kernel
theorem dX10_sailAll_50 : decode cX10_sailAll 50 = .ok (.dup, 1) := by decide +kernel
theorem dX10_sailAll_51 : decode cX10_sailAll 51 = .ok (.getfield 15, 3) := by decide +kernel
theorem dX10_sailAll_54 : decode cX10_sailAll 54 = .ok (.iload 5, 2) := by decide +kernel
theorem dX10_sailAll_56 : decode cX10_sailAll 56 = .ok (.iadd, 1) := by decide +kernel
theorem dX10_sailAll_57 : decode cX10_sailAll 57 = .ok (.putfield 15, 3) := by decide +kernel
theorem dX10_sailAll_60 : decode cX10_sailAll 60 = .ok (.iload 5, 2) := by decide +kernel
theorem dX10_sailAll_62 : decode cX10_sailAll 62 = .ok (.ifCond .le 18, 3) := by decide +kernel
theorem dX10_sailAll_65 : decode cX10_sailAll 65 = .ok (.aload_n 0, 1) := by decide +kernel
theorem dX10_sailAll_66 : decode cX10_sailAll 66 = .ok (.getfield 19, 3) := by decide +kernel
theorem dX10_sailAll_69 : decode cX10_sailAll 69 = .ok (.bipush (-9), 2) := by decide +kernel
theorem dX10_sailAll_71 : decode cX10_sailAll 71 = .ok (.if_icmp .ne 9, 3) := by decide +kernel
theorem dX10_sailAll_74 : decode cX10_sailAll 74 = .ok (.aload_n 0, 1) := by decide +kernel
theorem dX10_sailAll_75 : decode cX10_sailAll 75 = .ok (.iload 4, 2) := by decide +kernel
theorem dX10_sailAll_77 : decode cX10_sailAll 77 = .ok (.putfield 19, 3) := by decide +kernel
theorem dX10_sailAll_80 : decode cX10_sailAll 80 = .ok (.aload_n 0, 1) := by decide +kernel
theorem dX10_sailAll_81 : decode cX10_sailAll 81 = .ok (.getfield 22, 3) := by decide +kernel
theorem dX10_sailAll_84 : decode cX10_sailAll 84 = .ok (.bipush (-9), 2) := by decide +kernel
theorem dX10_sailAll_86 : decode cX10_sailAll 86 = .ok (.if_icmp .ne 21, 3) := by decide +kernel
theorem dX10_sailAll_89 : decode cX10_sailAll 89 = .ok (.aload_n 0, 1) := by decide +kernel
theorem dX10_sailAll_90 : decode cX10_sailAll 90 = .ok (.aload_n 1, 1) := by decide +kernel
theorem dX10_sailAll_91 : decode cX10_sailAll 91 = .ok (.invokevirtual 60, 3) := by decide +kernel
theorem dX10_sailAll_94 : decode cX10_sailAll 94 = .ok (.aload_n 1, 1) := by decide +kernel
theorem dX10_sailAll_95 : decode cX10_sailAll 95 = .ok (.invokevirtual 64, 3) := by decide +kernel
theorem dX10_sailAll_98 : decode cX10_sailAll 98 = .ok (.if_icmp .ne 9, 3) := by decide +kernel
theorem dX10_sailAll_101 : decode cX10_sailAll 101 = .ok (.aload_n 0, 1) := by decide +kernel
theorem dX10_sailAll_102 : decode cX10_sailAll 102 = .ok (.iload 4, 2) := by decide +kernel
theorem dX10_sailAll_104 : decode cX10_sailAll 104 = .ok (.putfield 22, 3) := by decide +kernel
theorem dX10_sailAll_107 : decode cX10_sailAll 107 = .ok (.iinc 4 1, 3) := by decide +kernel
theorem dX10_sailAll_110 : decode cX10_sailAll 110 = .ok (.goto (-85), 3) := by decide +kernel
theorem dX10_sailAll_113 : decode cX10_sailAll 113 = .ok (.return_, 1) := by decide +kernel
theorem dX10_overSet_0 : decode cX10_overSet 0 = .ok (.iconst 0, 1) := by decide +kernel
theorem dX10_overSet_1 : decode cX10_overSet 1 = .ok (.istore_n 2, 1) := by decide +kernel
theorem dX10_overSet_2 : decode cX10_overSet 2 = .ok (.iconst 0, 1) := by decide +kernel
theorem dX10_overSet_3 : decode cX10_overSet 3 = .ok (.istore_n 3, 1) := by decide +kernel
theorem dX10_overSet_4 : decode cX10_overSet 4 = .ok (.iload_n 3, 1) := by decide +kernel
theorem dX10_overSet_5 : decode cX10_overSet 5 = .ok (.aload_n 1, 1) := by decide +kernel
theorem dX10_overSet_6 : decode cX10_overSet 6 = .ok (.getfield 25, 3) := by decide +kernel
theorem dX10_overSet_9 : decode cX10_overSet 9 = .ok (.if_icmp .ge 34, 3) := by decide +kernel
theorem dX10_overSet_12 : decode cX10_overSet 12 = .ok (.aload_n 0, 1) := by decide +kernel
theorem dX10_overSet_13 : decode cX10_overSet 13 = .ok (.getfield 9, 3) := by decide +kernel
theorem dX10_overSet_16 : decode cX10_overSet 16 = .ok (.iload_n 3, 1) := by decide +kernel
theorem dX10_overSet_17 : decode cX10_overSet 17 = .ok (.iaload, 1) := by decide +kernel
theorem dX10_overSet_18 : decode cX10_overSet 18 = .ok (.aload_n 1, 1) := by decide +kernel
theorem dX10_overSet_19 : decode cX10_overSet 19 = .ok (.aload_n 1, 1) := by decide +kernel
theorem dX10_overSet_20 : decode cX10_overSet 20 = .ok (.getfield 30, 3) := by decide +kernel
theorem dX10_overSet_23 : decode cX10_overSet 23 = .ok (.iload_n 3, 1) := by decide +kernel
theorem dX10_overSet_24 : decode cX10_overSet 24 = .ok (.aaload, 1) := by decide +kernel
theorem dX10_overSet_25 : decode cX10_overSet 25 = .ok (.invokevirtual 38, 3) := by decide +kernel
theorem dX10_overSet_28 : decode cX10_overSet 28 = .ok (.if_icmp .ne 9, 3) := by decide +kernel
theorem dX10_overSet_31 : decode cX10_overSet 31 = .ok (.iload_n 2, 1) := by decide +kernel
theorem dX10_overSet_32 : decode cX10_overSet 32 = .ok (.iconst 1, 1) := by decide +kernel
theorem dX10_overSet_33 : decode cX10_overSet 33 = .ok (.iload_n 3, 1) := by decide +kernel
theorem dX10_overSet_34 : decode cX10_overSet 34 = .ok (.ishl, 1) := by decide +kernel
theorem dX10_overSet_35 : decode cX10_overSet 35 = .ok (.ior, 1) := by decide +kernel
theorem dX10_overSet_36 : decode cX10_overSet 36 = .ok (.istore_n 2, 1) := by decide +kernel
theorem dX10_overSet_37 : decode cX10_overSet 37 = .ok (.iinc 3 1, 3) := by decide +kernel
theorem dX10_overSet_40 : decode cX10_overSet 40 = .ok (.goto (-36), 3) := by decide +kernel
theorem dX10_overSet_43 : decode cX10_overSet 43 = .ok (.iload_n 2, 1) := by decide +kernel
theorem dX10_overSet_44 : decode cX10_overSet 44 = .ok (.ireturn, 1) := by decide +kernel
theorem dX10_stateNumber_0 : decode cX10_stateNumber 0 = .ok (.iconst 0, 1) := by decide +kernel
theorem dX10_stateNumber_1 : decode cX10_stateNumber 1 = .ok (.istore_n 2, 1) := by decide +kernel
theorem dX10_stateNumber_2 : decode cX10_stateNumber 2 = .ok (.aload_n 1, 1) := by decide +kernel
theorem dX10_stateNumber_3 : decode cX10_stateNumber 3 = .ok (.getfield 25, 3) := by decide +kernel
theorem dX10_stateNumber_6 : decode cX10_stateNumber 6 = .ok (.iconst 1, 1) := by decide +kernel
theorem dX10_stateNumber_7 : decode cX10_stateNumber 7 = .ok (.isub, 1) := by decide +kernel
theorem dX10_stateNumber_8 : decode cX10_stateNumber 8 = .ok (.istore_n 3, 1) := by decide +kernel
theorem dX10_stateNumber_9 : decode cX10_stateNumber 9 = .ok (.iload_n 3, 1) := by decide +kernel
theorem dX10_stateNumber_10 : decode cX10_stateNumber 10 = .ok (.ifCond .lt 25, 3) := by decide +kernel
theorem dX10_stateNumber_13 : decode cX10_stateNumber 13 = .ok (.iload_n 2, 1) := by decide +kernel
theorem dX10_stateNumber_14 : decode cX10_stateNumber 14 = .ok (.aload_n 1, 1) := by decide +kernel
theorem dX10_stateNumber_15 : decode cX10_stateNumber 15 = .ok (.getfield 68, 3) := by decide +kernel
theorem dX10_stateNumber_18 : decode cX10_stateNumber 18 = .ok (.iconst 1, 1) := by decide +kernel
theorem dX10_stateNumber_19 : decode cX10_stateNumber 19 = .ok (.iadd, 1) := by decide +kernel
theorem dX10_stateNumber_20 : decode cX10_stateNumber 20 = .ok (.imul, 1) := by decide +kernel
theorem dX10_stateNumber_21 : decode cX10_stateNumber 21 = .ok (.aload_n 0, 1) := by decide +kernel
theorem dX10_stateNumber_22 : decode cX10_stateNumber 22 = .ok (.getfield 9, 3) := by decide +kernel
theorem dX10_stateNumber_25 : decode cX10_stateNumber 25 = .ok (.iload_n 3, 1) := by decide +kernel
theorem dX10_stateNumber_26 : decode cX10_stateNumber 26 = .ok (.iaload, 1) := by decide +kernel
theorem dX10_stateNumber_27 : decode cX10_stateNumber 27 = .ok (.iadd, 1) := by decide +kernel
theorem dX10_stateNumber_28 : decode cX10_stateNumber 28 = .ok (.istore_n 2, 1) := by decide +kernel
theorem dX10_stateNumber_29 : decode cX10_stateNumber 29 = .ok (.iinc 3 (-1), 3) := by decide +kernel
theorem dX10_stateNumber_32 : decode cX10_stateNumber 32 = .ok (.goto (-23), 3) := by decide +kernel
theorem dX10_stateNumber_35 : decode cX10_stateNumber 35 = .ok (.iload_n 2, 1) := by decide +kernel
theorem dX10_stateNumber_36 : decode cX10_stateNumber 36 = .ok (.ireturn, 1) := by decide +kernel
theorem dX10_place_0 : decode cX10_place 0 = .ok (.iload_n 2, 1) := by decide +kernel
theorem dX10_place_1 : decode cX10_place 1 = .ok (.istore_n 3, 1) := by decide +kernel
theorem dX10_place_2 : decode cX10_place 2 = .ok (.iconst 0, 1) := by decide +kernel
theorem dX10_place_3 : decode cX10_place 3 = .ok (.istore 4, 2) := by decide +kernel
theorem dX10_place_5 : decode cX10_place 5 = .ok (.iload 4, 2) := by decide +kernel
theorem dX10_place_7 : decode cX10_place 7 = .ok (.aload_n 1, 1) := by decide +kernel
theorem dX10_place_8 : decode cX10_place 8 = .ok (.getfield 25, 3) := by decide +kernel
theorem dX10_place_11 : decode cX10_place 11 = .ok (.if_icmp .ge 33, 3) := by decide +kernel
theorem dX10_place_14 : decode cX10_place 14 = .ok (.aload_n 0, 1) := by decide +kernel
theorem dX10_place_15 : decode cX10_place 15 = .ok (.getfield 9, 3) := by decide +kernel
theorem dX10_place_18 : decode cX10_place 18 = .ok (.iload 4, 2) := by decide +kernel
theorem dX10_place_20 : decode cX10_place 20 = .ok (.iload_n 3, 1) := by decide +kernel
theorem dX10_place_21 : decode cX10_place 21 = .ok (.aload_n 1, 1) := by decide +kernel
theorem dX10_place_22 : decode cX10_place 22 = .ok (.getfield 68, 3) := by decide +kernel
theorem dX10_place_25 : decode cX10_place 25 = .ok (.iconst 1, 1) := by decide +kernel
theorem dX10_place_26 : decode cX10_place 26 = .ok (.iadd, 1) := by decide +kernel
theorem dX10_place_27 : decode cX10_place 27 = .ok (.irem, 1) := by decide +kernel
theorem dX10_place_28 : decode cX10_place 28 = .ok (.iastore, 1) := by decide +kernel
theorem dX10_place_29 : decode cX10_place 29 = .ok (.iload_n 3, 1) := by decide +kernel
theorem dX10_place_30 : decode cX10_place 30 = .ok (.aload_n 1, 1) := by decide +kernel
theorem dX10_place_31 : decode cX10_place 31 = .ok (.getfield 68, 3) := by decide +kernel
theorem dX10_place_34 : decode cX10_place 34 = .ok (.iconst 1, 1) := by decide +kernel
theorem dX10_place_35 : decode cX10_place 35 = .ok (.iadd, 1) := by decide +kernel
theorem dX10_place_36 : decode cX10_place 36 = .ok (.idiv, 1) := by decide +kernel
theorem dX10_place_37 : decode cX10_place 37 = .ok (.istore_n 3, 1) := by decide +kernel
theorem dX10_place_38 : decode cX10_place 38 = .ok (.iinc 4 1, 3) := by decide +kernel
theorem dX10_place_41 : decode cX10_place 41 = .ok (.goto (-36), 3) := by decide +kernel
theorem dX10_place_44 : decode cX10_place 44 = .ok (.return_, 1) := by decide +kernel
theorem dX11_init_0 : decode cX11_init 0 = .ok (.aload_n 0, 1) := by decide +kernel
theorem dX11_init_1 : decode cX11_init 1 = .ok (.invokespecial 3, 3) := by decide +kernel
theorem dX11_init_4 : decode cX11_init 4 = .ok (.aload_n 0, 1) := by decide +kernel
theorem dX11_init_5 : decode cX11_init 5 = .ok (.iconst 4, 1) := by decide +kernel
theorem dX11_init_6 : decode cX11_init 6 = .ok (.anewarray 11, 3) := by decide +kernel
theorem dX11_init_9 : decode cX11_init 9 = .ok (.putfield 13, 3) := by decide +kernel
theorem dX11_init_12 : decode cX11_init 12 = .ok (.aload_n 0, 1) := by decide +kernel
theorem dX11_init_13 : decode cX11_init 13 = .ok (.new 17, 3) := by decide +kernel
theorem dX11_init_16 : decode cX11_init 16 = .ok (.dup, 1) := by decide +kernel
theorem dX11_init_17 : decode cX11_init 17 = .ok (.invokespecial 19, 3) := by decide +kernel
theorem dX11_init_20 : decode cX11_init 20 = .ok (.putfield 20, 3) := by decide +kernel
theorem dX11_init_23 : decode cX11_init 23 = .ok (.aload_n 0, 1) := by decide +kernel
theorem dX11_init_24 : decode cX11_init 24 = .ok (.new 24, 3) := by decide +kernel
theorem dX11_init_27 : decode cX11_init 27 = .ok (.dup, 1) := by decide +kernel
theorem dX11_init_28 : decode cX11_init 28 = .ok (.invokespecial 26, 3) := by decide +kernel
theorem dX11_init_31 : decode cX11_init 31 = .ok (.putfield 27, 3) := by decide +kernel
theorem dX11_init_34 : decode cX11_init 34 = .ok (.aload_n 0, 1) := by decide +kernel
theorem dX11_init_35 : decode cX11_init 35 = .ok (.new 31, 3) := by decide +kernel
theorem dX11_init_38 : decode cX11_init 38 = .ok (.dup, 1) := by decide +kernel
theorem dX11_init_39 : decode cX11_init 39 = .ok (.invokespecial 33, 3) := by decide +kernel
theorem dX11_init_42 : decode cX11_init 42 = .ok (.putfield 34, 3) := by decide +kernel
theorem dX11_init_45 : decode cX11_init 45 = .ok (.aload_n 0, 1) := by decide +kernel
theorem dX11_init_46 : decode cX11_init 46 = .ok (.new 38, 3) := by decide +kernel
theorem dX11_init_49 : decode cX11_init 49 = .ok (.dup, 1) := by decide +kernel
theorem dX11_init_50 : decode cX11_init 50 = .ok (.invokespecial 40, 3) := by decide +kernel
theorem dX11_init_53 : decode cX11_init 53 = .ok (.putfield 41, 3) := by decide +kernel
theorem dX11_init_56 : decode cX11_init 56 = .ok (.aload_n 0, 1) := by decide +kernel
theorem dX11_init_57 : decode cX11_init 57 = .ok (.new 45, 3) := by decide +kernel
theorem dX11_init_60 : decode cX11_init 60 = .ok (.dup, 1) := by decide +kernel
theorem dX11_init_61 : decode cX11_init 61 = .ok (.invokespecial 47, 3) := by decide +kernel
theorem dX11_init_64 : decode cX11_init 64 = .ok (.putfield 48, 3) := by decide +kernel
theorem dX11_init_67 : decode cX11_init 67 = .ok (.aload_n 0, 1) := by decide +kernel
theorem dX11_init_68 : decode cX11_init 68 = .ok (.bipush 10, 2) := by decide +kernel
theorem dX11_init_70 : decode cX11_init 70 = .ok (.newarray .int, 2) := by decide +kernel
theorem dX11_init_72 : decode cX11_init 72 = .ok (.putfield 52, 3) := by decide +kernel
theorem dX11_init_75 : decode cX11_init 75 = .ok (.aload_n 0, 1) := by decide +kernel
theorem dX11_init_76 : decode cX11_init 76 = .ok (.bipush 125, 2) := by decide +kernel
theorem dX11_init_78 : decode cX11_init 78 = .ok (.newarray .int, 2) := by decide +kernel
theorem dX11_init_80 : decode cX11_init 80 = .ok (.putfield 56, 3) := by decide +kernel
theorem dX11_init_83 : decode cX11_init 83 = .ok (.aload_n 0, 1) := by decide +kernel
theorem dX11_init_84 : decode cX11_init 84 = .ok (.bipush 125, 2) := by decide +kernel
theorem dX11_init_86 : decode cX11_init 86 = .ok (.newarray .int, 2) := by decide +kernel
theorem dX11_init_88 : decode cX11_init 88 = .ok (.putfield 59, 3) := by decide +kernel
theorem dX11_init_91 : decode cX11_init 91 = .ok (.aload_n 0, 1) := by decide +kernel
theorem dX11_init_92 : decode cX11_init 92 = .ok (.new 62, 3) := by decide +kernel
theorem dX11_init_95 : decode cX11_init 95 = .ok (.dup, 1) := by decide +kernel
theorem dX11_init_96 : decode cX11_init 96 = .ok (.invokespecial 64, 3) := by decide +kernel
theorem dX11_init_99 : decode cX11_init 99 = .ok (.putfield 65, 3) := by decide +kernel
theorem dX11_init_102 : decode cX11_init 102 = .ok (.aload_n 0, 1) := by decide +kernel
theorem dX11_init_103 : decode cX11_init 103 = .ok (.new 62, 3) := by decide +kernel
theorem dX11_init_106 : decode cX11_init 106 = .ok (.dup, 1) := by decide +kernel
theorem dX11_init_107 : decode cX11_init 107 = .ok (.invokespecial 64, 3) := by decide +kernel
theorem dX11_init_110 : decode cX11_init 110 = .ok (.putfield 69, 3) := by decide +kernel
theorem dX11_init_113 : decode cX11_init 113 = .ok (.aload_n 0, 1) := by decide +kernel
theorem dX11_init_114 : decode cX11_init 114 = .ok (.iconst 0, 1) := by decide +kernel
theorem dX11_init_115 : decode cX11_init 115 = .ok (.putfield 72, 3) := by decide +kernel
theorem dX11_init_118 : decode cX11_init 118 = .ok (.iconst 0, 1) := by decide +kernel
theorem dX11_init_119 : decode cX11_init 119 = .ok (.istore_n 1, 1) := by decide +kernel
theorem dX11_init_120 : decode cX11_init 120 = .ok (.iload_n 1, 1) := by decide +kernel
theorem dX11_init_121 : decode cX11_init 121 = .ok (.iconst 4, 1) := by decide +kernel
theorem dX11_init_122 : decode cX11_init 122 = .ok (.if_icmp .ge 22, 3) := by decide +kernel
theorem dX11_init_125 : decode cX11_init 125 = .ok (.aload_n 0, 1) := by decide +kernel
theorem dX11_init_126 : decode cX11_init 126 = .ok (.getfield 13, 3) := by decide +kernel
theorem dX11_init_129 : decode cX11_init 129 = .ok (.iload_n 1, 1) := by decide +kernel
theorem dX11_init_130 : decode cX11_init 130 = .ok (.new 11, 3) := by decide +kernel
theorem dX11_init_133 : decode cX11_init 133 = .ok (.dup, 1) := by decide +kernel
theorem dX11_init_134 : decode cX11_init 134 = .ok (.invokespecial 76, 3) := by decide +kernel
theorem dX11_init_137 : decode cX11_init 137 = .ok (.aastore, 1) := by decide +kernel
theorem dX11_init_138 : decode cX11_init 138 = .ok (.iinc 1 1, 3) := by decide +kernel
theorem dX11_init_141 : decode cX11_init 141 = .ok (.goto (-21), 3) := by decide +kernel
theorem dX11_init_144 : decode cX11_init 144 = .ok (.return_, 1) := by decide +kernel
theorem dX11_lake_0 : decode cX11_lake 0 = .ok (.aload_n 0, 1) := by decide +kernel
theorem dX11_lake_1 : decode cX11_lake 1 = .ok (.iconst 0, 1) := by decide +kernel
theorem dX11_lake_2 : decode cX11_lake 2 = .ok (.putfield 72, 3) := by decide +kernel
theorem dX11_lake_5 : decode cX11_lake 5 = .ok (.iload_n 1, 1) := by decide +kernel
theorem dX11_lake_6 : decode cX11_lake 6 = .ok (.invokestatic 77, 3) := by decide +kernel
theorem dX11_lake_9 : decode cX11_lake 9 = .ok (.ifCond .ne 5, 3) := by decide +kernel
theorem dX11_lake_12 : decode cX11_lake 12 = .ok (.iconst (-1), 1) := by decide +kernel
theorem dX11_lake_13 : decode cX11_lake 13 = .ok (.ireturn, 1) := by decide +kernel
theorem dX11_lake_14 : decode cX11_lake 14 = .ok (.iload_n 2, 1) := by decide +kernel
theorem dX11_lake_15 : decode cX11_lake 15 = .ok (.invokestatic 81, 3) := by decide +kernel
theorem dX11_lake_18 : decode cX11_lake 18 = .ok (.ifCond .ne 6, 3) := by decide +kernel
theorem dX11_lake_21 : decode cX11_lake 21 = .ok (.bipush (-2), 2) := by decide +kernel
theorem dX11_lake_23 : decode cX11_lake 23 = .ok (.ireturn, 1) := by decide +kernel
theorem dX11_lake_24 : decode cX11_lake 24 = .ok (.aload_n 0, 1) := by decide +kernel
theorem dX11_lake_25 : decode cX11_lake 25 = .ok (.getfield 13, 3) := by decide +kernel
theorem dX11_lake_28 : decode cX11_lake 28 = .ok (.iload_n 1, 1) := by decide +kernel
theorem dX11_lake_29 : decode cX11_lake 29 = .ok (.aaload, 1) := by decide +kernel
theorem dX11_lake_30 : decode cX11_lake 30 = .ok (.astore 5, 2) := by decide +kernel
theorem dX11_lake_32 : decode cX11_lake 32 = .ok (.aload 5, 2) := by decide +kernel
theorem dX11_lake_34 : decode cX11_lake 34 = .ok (.iload_n 2, 1) := by decide +kernel
theorem dX11_lake_35 : decode cX11_lake 35 = .ok (.iload_n 3, 1) := by decide +kernel
theorem dX11_lake_36 : decode cX11_lake 36 = .ok (.iload 4, 2) := by decide +kernel
theorem dX11_lake_38 : decode cX11_lake 38 = .ok (.invokestatic 84, 3) := by decide +kernel
theorem dX11_lake_41 : decode cX11_lake 41 = .ok (.istore 6, 2) := by decide +kernel
theorem dX11_lake_43 : decode cX11_lake 43 = .ok (.iload 6, 2) := by decide +kernel
theorem dX11_lake_45 : decode cX11_lake 45 = .ok (.ifCond .eq 10, 3) := by decide +kernel
theorem dX11_lake_48 : decode cX11_lake 48 = .ok (.aload_n 0, 1) := by decide +kernel
theorem dX11_lake_49 : decode cX11_lake 49 = .ok (.iload 6, 2) := by decide +kernel
theorem dX11_lake_51 : decode cX11_lake 51 = .ok (.invokevirtual 88, 3) := by decide +kernel
theorem dX11_lake_54 : decode cX11_lake 54 = .ok (.ireturn, 1) := by decide +kernel
theorem dX11_lake_55 : decode cX11_lake 55 = .ok (.aload_n 0, 1) := by decide +kernel
theorem dX11_lake_56 : decode cX11_lake 56 = .ok (.getfield 20, 3) := by decide +kernel
theorem dX11_lake_59 : decode cX11_lake 59 = .ok (.aload 5, 2) := by decide +kernel
theorem dX11_lake_61 : decode cX11_lake 61 = .ok (.getfield 92, 3) := by decide +kernel
theorem dX11_lake_64 : decode cX11_lake 64 = .ok (.iload_n 3, 1) := by decide +kernel
theorem dX11_lake_65 : decode cX11_lake 65 = .ok (.iload 4, 2) := by decide +kernel
theorem dX11_lake_67 : decode cX11_lake 67 = .ok (.invokevirtual 95, 3) := by decide +kernel
theorem dX11_lake_70 : decode cX11_lake 70 = .ok (.aload_n 0, 1) := by decide +kernel
theorem dX11_lake_71 : decode cX11_lake 71 = .ok (.getfield 69, 3) := by decide +kernel
theorem dX11_lake_74 : decode cX11_lake 74 = .ok (.invokevirtual 99, 3) := by decide +kernel
theorem dX11_lake_77 : decode cX11_lake 77 = .ok (.aload_n 0, 1) := by decide +kernel
theorem dX11_lake_78 : decode cX11_lake 78 = .ok (.getfield 20, 3) := by decide +kernel
theorem dX11_lake_81 : decode cX11_lake 81 = .ok (.aload_n 0, 1) := by decide +kernel
theorem dX11_lake_82 : decode cX11_lake 82 = .ok (.getfield 69, 3) := by decide +kernel
theorem dX11_lake_85 : decode cX11_lake 85 = .ok (.invokevirtual 102, 3) := by decide +kernel
theorem dX11_lake_88 : decode cX11_lake 88 = .ok (.ifCond .eq 31, 3) := by decide +kernel
theorem dX11_lake_91 : decode cX11_lake 91 = .ok (.aload_n 0, 1) := by decide +kernel
theorem dX11_lake_92 : decode cX11_lake 92 = .ok (.getfield 20, 3) := by decide +kernel
theorem dX11_lake_95 : decode cX11_lake 95 = .ok (.aload_n 0, 1) := by decide +kernel
theorem dX11_lake_96 : decode cX11_lake 96 = .ok (.getfield 69, 3) := by decide +kernel
theorem dX11_lake_99 : decode cX11_lake 99 = .ok (.invokevirtual 106, 3) := by decide +kernel
theorem dX11_lake_102 : decode cX11_lake 102 = .ok (.ifCond .eq 17, 3) := by decide +kernel
theorem dX11_lake_105 : decode cX11_lake 105 = .ok (.aload_n 0, 1) := by decide +kernel
theorem dX11_lake_106 : decode cX11_lake 106 = .ok (.getfield 20, 3) := by decide +kernel
theorem dX11_lake_109 : decode cX11_lake 109 = .ok (.aload_n 0, 1) := by decide +kernel
theorem dX11_lake_110 : decode cX11_lake 110 = .ok (.getfield 69, 3) := by decide +kernel
theorem dX11_lake_113 : decode cX11_lake 113 = .ok (.invokevirtual 109, 3) := by decide +kernel
theorem dX11_lake_116 : decode cX11_lake 116 = .ok (.ifCond .ne 14, 3) := by decide +kernel
theorem dX11_lake_119 : decode cX11_lake 119 = .ok (.bipush (-100), 2) := by decide +kernel
theorem dX11_lake_121 : decode cX11_lake 121 = .ok (.aload_n 0, 1) := by decide +kernel
theorem dX11_lake_122 : decode cX11_lake 122 = .ok (.getfield 20, 3) := by decide +kernel
theorem dX11_lake_125 : decode cX11_lake 125 = .ok (.getfield 112, 3) := by decide +kernel
theorem dX11_lake_128 : decode cX11_lake 128 = .ok (.isub, 1) := by decide +kernel
theorem dX11_lake_129 : decode cX11_lake 129 = .ok (.ireturn, 1) := by decide +kernel
theorem dX11_lake_130 : decode cX11_lake 130 = .ok (.aload_n 0, 1) := by decide +kernel
theorem dX11_lake_131 : decode cX11_lake 131 = .ok (.invokevirtual 115, 3) := by decide +kernel
theorem dX11_lake_134 : decode cX11_lake 134 = .ok (.aload_n 0, 1) := by decide +kernel
theorem dX11_lake_135 : decode cX11_lake 135 = .ok (.getfield 65, 3) := by decide +kernel
theorem dX11_lake_138 : decode cX11_lake 138 = .ok (.getfield 118, 3) := by decide +kernel
theorem dX11_lake_141 : decode cX11_lake 141 = .ok (.ireturn, 1) := by decide +kernel
theorem dX11_faultOfText_0 : decode cX11_faultOfText 0 = .ok (.aload_n 0, 1) := by decide +kernel
theorem dX11_faultOfText_1 : decode cX11_faultOfText 1 = .ok (.iload_n 1, 1) := by decide +kernel
theorem dX11_faultOfText_2 : decode cX11_faultOfText 2 = .ok (.invokevirtual 121, 3) := by decide +kernel
theorem dX11_faultOfText_5 : decode cX11_faultOfText 5 = .ok (.istore 4, 2) := by decide +kernel
theorem dX11_faultOfText_7 : decode cX11_faultOfText 7 = .ok (.iload 4, 2) := by decide +kernel
theorem dX11_faultOfText_9 : decode cX11_faultOfText 9 = .ok (.ifCond .eq 6, 3) := by decide +kernel
theorem dX11_faultOfText_12 : decode cX11_faultOfText 12 = .ok (.iload 4, 2) := by decide +kernel
theorem dX11_faultOfText_14 : decode cX11_faultOfText 14 = .ok (.ireturn, 1) := by decide +kernel
theorem dX11_faultOfText_15 : decode cX11_faultOfText 15 = .ok (.iload_n 3, 1) := by decide +kernel
theorem dX11_faultOfText_16 : decode cX11_faultOfText 16 = .ok (.ifCond .ge 5, 3) := by decide +kernel
theorem dX11_faultOfText_19 : decode cX11_faultOfText 19 = .ok (.iconst 4, 1) := by decide +kernel
theorem dX11_faultOfText_20 : decode cX11_faultOfText 20 = .ok (.ireturn, 1) := by decide +kernel
theorem dX11_faultOfText_21 : decode cX11_faultOfText 21 = .ok (.aload_n 0, 1) := by decide +kernel
theorem dX11_faultOfText_22 : decode cX11_faultOfText 22 = .ok (.iload_n 2, 1) := by decide +kernel
theorem dX11_faultOfText_23 : decode cX11_faultOfText 23 = .ok (.iload_n 3, 1) := by decide +kernel
theorem dX11_faultOfText_24 : decode cX11_faultOfText 24 = .ok (.invokevirtual 124, 3) := by decide +kernel
theorem dX11_faultOfText_27 : decode cX11_faultOfText 27 = .ok (.ifCond .eq 7, 3) := by decide +kernel
theorem dX11_faultOfText_30 : decode cX11_faultOfText 30 = .ok (.iconst 0, 1) := by decide +kernel
theorem dX11_faultOfText_31 : decode cX11_faultOfText 31 = .ok (.goto 4, 3) := by decide +kernel
theorem dX11_faultOfText_34 : decode cX11_faultOfText 34 = .ok (.iconst 3, 1) := by decide +kernel
theorem dX11_faultOfText_35 : decode cX11_faultOfText 35 = .ok (.ireturn, 1) := by decide +kernel
theorem dX11_takeSpareWater_0 : decode cX11_takeSpareWater 0 = .ok (.aload_n 0, 1) := by decide +kernel
theorem dX11_takeSpareWater_1 : decode cX11_takeSpareWater 1 = .ok (.getfield 65, 3) := by decide +kernel
theorem dX11_takeSpareWater_4 : decode cX11_takeSpareWater 4 = .ok (.astore_n 1, 1) := by decide +kernel
theorem dX11_takeSpareWater_5 : decode cX11_takeSpareWater 5 = .ok (.aload_n 0, 1) := by decide +kernel
theorem dX11_takeSpareWater_6 : decode cX11_takeSpareWater 6 = .ok (.aload_n 0, 1) := by decide +kernel
theorem dX11_takeSpareWater_7 : decode cX11_takeSpareWater 7 = .ok (.getfield 69, 3) := by decide +kernel
theorem dX11_takeSpareWater_10 : decode cX11_takeSpareWater 10 = .ok (.putfield 65, 3) := by decide +kernel
theorem dX11_takeSpareWater_13 : decode cX11_takeSpareWater 13 = .ok (.aload_n 0, 1) := by decide +kernel
theorem dX11_takeSpareWater_14 : decode cX11_takeSpareWater 14 = .ok (.aload_n 1, 1) := by decide +kernel
theorem dX11_takeSpareWater_15 : decode cX11_takeSpareWater 15 = .ok (.putfield 69, 3) := by decide +kernel
theorem dX11_takeSpareWater_18 : decode cX11_takeSpareWater 18 = .ok (.aload_n 0, 1) := by decide +kernel
theorem dX11_takeSpareWater_19 : decode cX11_takeSpareWater 19 = .ok (.getfield 27, 3) := by decide +kernel
theorem dX11_takeSpareWater_22 : decode cX11_takeSpareWater 22 = .ok (.iconst 0, 1) := by decide +kernel
theorem dX11_takeSpareWater_23 : decode cX11_takeSpareWater 23 = .ok (.putfield 128, 3) := by decide +kernel
theorem dX11_takeSpareWater_26 : decode cX11_takeSpareWater 26 = .ok (.aload_n 0, 1) := by decide +kernel
theorem dX11_takeSpareWater_27 : decode cX11_takeSpareWater 27 = .ok (.getfield 41, 3) := by decide +kernel
theorem dX11_takeSpareWater_30 : decode cX11_takeSpareWater 30 = .ok (.iconst 1, 1) := by decide +kernel
theorem dX11_takeSpareWater_31 : decode cX11_takeSpareWater 31 = .ok (.putfield 131, 3) := by decide +kernel
theorem dX11_takeSpareWater_34 : decode cX11_takeSpareWater 34 = .ok (.return_, 1) := by decide +kernel
theorem dX11_ofBoat_0 : decode cX11_ofBoat 0 = .ok (.aload_n 0, 1) := by decide +kernel
theorem dX11_ofBoat_1 : decode cX11_ofBoat 1 = .ok (.iload_n 1, 1) := by decide +kernel
theorem dX11_ofBoat_2 : decode cX11_ofBoat 2 = .ok (.invokevirtual 135, 3) := by decide +kernel
theorem dX11_ofBoat_5 : decode cX11_ofBoat 5 = .ok (.ifCond .ne 5, 3) := by decide +kernel
theorem dX11_ofBoat_8 : decode cX11_ofBoat 8 = .ok (.iconst (-1), 1) := by decide +kernel
theorem dX11_ofBoat_9 : decode cX11_ofBoat 9 = .ok (.ireturn, 1) := by decide +kernel
theorem dX11_ofBoat_10 : decode cX11_ofBoat 10 = .ok (.aload_n 0, 1) := by decide +kernel
theorem dX11_ofBoat_11 : decode cX11_ofBoat 11 = .ok (.getfield 65, 3) := by decide +kernel
theorem dX11_ofBoat_14 : decode cX11_ofBoat 14 = .ok (.getfield 138, 3) := by decide +kernel
theorem dX11_ofBoat_17 : decode cX11_ofBoat 17 = .ok (.iload_n 1, 1) := by decide +kernel
theorem dX11_ofBoat_18 : decode cX11_ofBoat 18 = .ok (.aaload, 1) := by decide +kernel
theorem dX11_ofBoat_19 : decode cX11_ofBoat 19 = .ok (.astore_n 3, 1) := by decide +kernel
theorem dX11_ofBoat_20 : decode cX11_ofBoat 20 = .ok (.iload_n 2, 1) := by decide +kernel
theorem dX11_ofBoat_21 : decode cX11_ofBoat 21 = .ok (.tableswitch 51 0 3 #[31, 36, 41, 46], 31) := by decide +kernel
theorem dX11_ofBoat_52 : decode cX11_ofBoat 52 = .ok (.aload_n 3, 1) := by decide +kernel
theorem dX11_ofBoat_53 : decode cX11_ofBoat 53 = .ok (.invokevirtual 142, 3) := by decide +kernel
theorem dX11_ofBoat_56 : decode cX11_ofBoat 56 = .ok (.ireturn, 1) := by decide +kernel
theorem dX11_ofBoat_57 : decode cX11_ofBoat 57 = .ok (.aload_n 3, 1) := by decide +kernel
theorem dX11_ofBoat_58 : decode cX11_ofBoat 58 = .ok (.getfield 148, 3) := by decide +kernel
theorem dX11_ofBoat_61 : decode cX11_ofBoat 61 = .ok (.ireturn, 1) := by decide +kernel
theorem dX11_ofBoat_62 : decode cX11_ofBoat 62 = .ok (.aload_n 3, 1) := by decide +kernel
theorem dX11_ofBoat_63 : decode cX11_ofBoat 63 = .ok (.getfield 151, 3) := by decide +kernel
theorem dX11_ofBoat_66 : decode cX11_ofBoat 66 = .ok (.ireturn, 1) := by decide +kernel
theorem dX11_ofBoat_67 : decode cX11_ofBoat 67 = .ok (.aload_n 3, 1) := by decide +kernel
theorem dX11_ofBoat_68 : decode cX11_ofBoat 68 = .ok (.invokevirtual 154, 3) := by decide +kernel
theorem dX11_ofBoat_71 : decode cX11_ofBoat 71 = .ok (.ireturn, 1) := by decide +kernel
theorem dX11_ofBoat_72 : decode cX11_ofBoat 72 = .ok (.bipush (-2), 2) := by decide +kernel
theorem dX11_ofBoat_74 : decode cX11_ofBoat 74 = .ok (.ireturn, 1) := by decide +kernel
theorem dX11_wind_0 : decode cX11_wind 0 = .ok (.aload_n 0, 1) := by decide +kernel
theorem dX11_wind_1 : decode cX11_wind 1 = .ok (.getfield 65, 3) := by decide +kernel
theorem dX11_wind_4 : decode cX11_wind 4 = .ok (.invokevirtual 157, 3) := by decide +kernel
theorem dX11_wind_7 : decode cX11_wind 7 = .ok (.ifCond .ne 6, 3) := by decide +kernel
theorem dX11_wind_10 : decode cX11_wind 10 = .ok (.bipush (-3), 2) := by decide +kernel
theorem dX11_wind_12 : decode cX11_wind 12 = .ok (.ireturn, 1) := by decide +kernel
theorem dX11_wind_13 : decode cX11_wind 13 = .ok (.aload_n 0, 1) := by decide +kernel
theorem dX11_wind_14 : decode cX11_wind 14 = .ok (.iload_n 1, 1) := by decide +kernel
theorem dX11_wind_15 : decode cX11_wind 15 = .ok (.invokevirtual 161, 3) := by decide +kernel
theorem dX11_wind_18 : decode cX11_wind 18 = .ok (.ifCond .eq 12, 3) := by decide +kernel
theorem dX11_wind_21 : decode cX11_wind 21 = .ok (.iload_n 2, 1) := by decide +kernel
theorem dX11_wind_22 : decode cX11_wind 22 = .ok (.ifCond .lt 8, 3) := by decide +kernel
theorem dX11_wind_25 : decode cX11_wind 25 = .ok (.iload_n 2, 1) := by decide +kernel
theorem dX11_wind_26 : decode cX11_wind 26 = .ok (.iconst 3, 1) := by decide +kernel
theorem dX11_wind_27 : decode cX11_wind 27 = .ok (.if_icmp .lt 6, 3) := by decide +kernel
theorem dX11_wind_30 : decode cX11_wind 30 = .ok (.bipush (-2), 2) := by decide +kernel
theorem dX11_wind_32 : decode cX11_wind 32 = .ok (.ireturn, 1) := by decide +kernel
theorem dX11_wind_33 : decode cX11_wind 33 = .ok (.aload_n 0, 1) := by decide +kernel
theorem dX11_wind_34 : decode cX11_wind 34 = .ok (.getfield 65, 3) := by decide +kernel
theorem dX11_wind_37 : decode cX11_wind 37 = .ok (.getfield 164, 3) := by decide +kernel
theorem dX11_wind_40 : decode cX11_wind 40 = .ok (.iload_n 1, 1) := by decide +kernel
theorem dX11_wind_41 : decode cX11_wind 41 = .ok (.iaload, 1) := by decide +kernel
theorem dX11_wind_42 : decode cX11_wind 42 = .ok (.istore_n 3, 1) := by decide +kernel
theorem dX11_wind_43 : decode cX11_wind 43 = .ok (.aload_n 0, 1) := by decide +kernel
theorem dX11_wind_44 : decode cX11_wind 44 = .ok (.getfield 65, 3) := by decide +kernel
theorem dX11_wind_47 : decode cX11_wind 47 = .ok (.getfield 164, 3) := by decide +kernel
theorem dX11_wind_50 : decode cX11_wind 50 = .ok (.iload_n 1, 1) := by decide +kernel
theorem dX11_wind_51 : decode cX11_wind 51 = .ok (.iload_n 2, 1) := by decide +kernel
theorem dX11_wind_52 : decode cX11_wind 52 = .ok (.iastore, 1) := by decide +kernel
theorem dX11_wind_53 : decode cX11_wind 53 = .ok (.iload_n 3, 1) := by decide +kernel
theorem dX11_wind_54 : decode cX11_wind 54 = .ok (.ireturn, 1) := by decide +kernel
theorem dX11_isle_0 : decode cX11_isle 0 = .ok (.aload_n 0, 1) := by decide +kernel
theorem dX11_isle_1 : decode cX11_isle 1 = .ok (.getfield 65, 3) := by decide +kernel
theorem dX11_isle_4 : decode cX11_isle 4 = .ok (.invokevirtual 157, 3) := by decide +kernel
theorem dX11_isle_7 : decode cX11_isle 7 = .ok (.ifCond .ne 6, 3) := by decide +kernel
theorem dX11_isle_10 : decode cX11_isle 10 = .ok (.bipush (-3), 2) := by decide +kernel
theorem dX11_isle_12 : decode cX11_isle 12 = .ok (.ireturn, 1) := by decide +kernel
theorem dX11_isle_13 : decode cX11_isle 13 = .ok (.iload_n 1, 1) := by decide +kernel
theorem dX11_isle_14 : decode cX11_isle 14 = .ok (.ifCond .le 14, 3) := by decide +kernel
theorem dX11_isle_17 : decode cX11_isle 17 = .ok (.iload_n 1, 1) := by decide +kernel
theorem dX11_isle_18 : decode cX11_isle 18 = .ok (.aload_n 0, 1) := by decide +kernel
theorem dX11_isle_19 : decode cX11_isle 19 = .ok (.getfield 65, 3) := by decide +kernel
theorem dX11_isle_22 : decode cX11_isle 22 = .ok (.getfield 167, 3) := by decide +kernel
theorem dX11_isle_25 : decode cX11_isle 25 = .ok (.if_icmp .lt 6, 3) := by decide +kernel
theorem dX11_isle_28 : decode cX11_isle 28 = .ok (.bipush (-2), 2) := by decide +kernel
theorem dX11_isle_30 : decode cX11_isle 30 = .ok (.ireturn, 1) := by decide +kernel
theorem dX11_isle_31 : decode cX11_isle 31 = .ok (.aload_n 0, 1) := by decide +kernel
theorem dX11_isle_32 : decode cX11_isle 32 = .ok (.getfield 65, 3) := by decide +kernel
theorem dX11_isle_35 : decode cX11_isle 35 = .ok (.iload_n 1, 1) := by decide +kernel
theorem dX11_isle_36 : decode cX11_isle 36 = .ok (.invokevirtual 170, 3) := by decide +kernel
theorem dX11_isle_39 : decode cX11_isle 39 = .ok (.iload_n 2, 1) := by decide +kernel
theorem dX11_isle_40 : decode cX11_isle 40 = .ok (.if_icmp .ne 5, 3) := by decide +kernel
theorem dX11_isle_43 : decode cX11_isle 43 = .ok (.iconst 0, 1) := by decide +kernel
theorem dX11_isle_44 : decode cX11_isle 44 = .ok (.ireturn, 1) := by decide +kernel
theorem dX11_isle_45 : decode cX11_isle 45 = .ok (.aload_n 0, 1) := by decide +kernel
theorem dX11_isle_46 : decode cX11_isle 46 = .ok (.getfield 65, 3) := by decide +kernel
theorem dX11_isle_49 : decode cX11_isle 49 = .ok (.dup, 1) := by decide +kernel
theorem dX11_isle_50 : decode cX11_isle 50 = .ok (.getfield 173, 3) := by decide +kernel
theorem dX11_isle_53 : decode cX11_isle 53 = .ok (.iconst 1, 1) := by decide +kernel
theorem dX11_isle_54 : decode cX11_isle 54 = .ok (.iload_n 1, 1) := by decide +kernel
theorem dX11_isle_55 : decode cX11_isle 55 = .ok (.ishl, 1) := by decide +kernel
theorem dX11_isle_56 : decode cX11_isle 56 = .ok (.ixor, 1) := by decide +kernel
theorem dX11_isle_57 : decode cX11_isle 57 = .ok (.putfield 173, 3) := by decide +kernel
theorem dX11_isle_60 : decode cX11_isle 60 = .ok (.aload_n 0, 1) := by decide +kernel
theorem dX11_isle_61 : decode cX11_isle 61 = .ok (.getfield 41, 3) := by decide +kernel
theorem dX11_isle_64 : decode cX11_isle 64 = .ok (.iconst 1, 1) := by decide +kernel
theorem dX11_isle_65 : decode cX11_isle 65 = .ok (.putfield 131, 3) := by decide +kernel
theorem dX11_isle_68 : decode cX11_isle 68 = .ok (.iconst 1, 1) := by decide +kernel
theorem dX11_isle_69 : decode cX11_isle 69 = .ok (.ireturn, 1) := by decide +kernel
theorem dX11_plan_0 : decode cX11_plan 0 = .ok (.aload_n 0, 1) := by decide +kernel
theorem dX11_plan_1 : decode cX11_plan 1 = .ok (.iconst 0, 1) := by decide +kernel
theorem dX11_plan_2 : decode cX11_plan 2 = .ok (.putfield 72, 3) := by decide +kernel
theorem dX11_plan_5 : decode cX11_plan 5 = .ok (.aload_n 0, 1) := by decide +kernel
theorem dX11_plan_6 : decode cX11_plan 6 = .ok (.iload_n 1, 1) := by decide +kernel
theorem dX11_plan_7 : decode cX11_plan 7 = .ok (.iload_n 2, 1) := by decide +kernel
theorem dX11_plan_8 : decode cX11_plan 8 = .ok (.iload 4, 2) := by decide +kernel
theorem dX11_plan_10 : decode cX11_plan 10 = .ok (.invokevirtual 176, 3) := by decide +kernel
theorem dX11_plan_13 : decode cX11_plan 13 = .ok (.istore 6, 2) := by decide +kernel
theorem dX11_plan_15 : decode cX11_plan 15 = .ok (.iload 6, 2) := by decide +kernel
theorem dX11_plan_17 : decode cX11_plan 17 = .ok (.ifCond .eq 6, 3) := by decide +kernel
theorem dX11_plan_20 : decode cX11_plan 20 = .ok (.iload 6, 2) := by decide +kernel
theorem dX11_plan_22 : decode cX11_plan 22 = .ok (.ireturn, 1) := by decide +kernel
theorem dX11_plan_23 : decode cX11_plan 23 = .ok (.iload 5, 2) := by decide +kernel
theorem dX11_plan_25 : decode cX11_plan 25 = .ok (.invokestatic 180, 3) := by decide +kernel
theorem dX11_plan_28 : decode cX11_plan 28 = .ok (.ifCond .ne 6, 3) := by decide +kernel
theorem dX11_plan_31 : decode cX11_plan 31 = .ok (.bipush (-2), 2) := by decide +kernel
theorem dX11_plan_33 : decode cX11_plan 33 = .ok (.ireturn, 1) := by decide +kernel
theorem dX11_plan_34 : decode cX11_plan 34 = .ok (.aload_n 0, 1) := by decide +kernel
theorem dX11_plan_35 : decode cX11_plan 35 = .ok (.iload_n 1, 1) := by decide +kernel
theorem dX11_plan_36 : decode cX11_plan 36 = .ok (.iload_n 2, 1) := by decide +kernel
theorem dX11_plan_37 : decode cX11_plan 37 = .ok (.iload_n 3, 1) := by decide +kernel
theorem dX11_plan_38 : decode cX11_plan 38 = .ok (.iload 4, 2) := by decide +kernel
theorem dX11_plan_40 : decode cX11_plan 40 = .ok (.invokevirtual 183, 3) := by decide +kernel
theorem dX11_plan_43 : decode cX11_plan 43 = .ok (.istore 6, 2) := by decide +kernel
theorem dX11_plan_45 : decode cX11_plan 45 = .ok (.iload 6, 2) := by decide +kernel
theorem dX11_plan_47 : decode cX11_plan 47 = .ok (.ifCond .eq 6, 3) := by decide +kernel
theorem dX11_plan_50 : decode cX11_plan 50 = .ok (.iload 6, 2) := by decide +kernel
theorem dX11_plan_52 : decode cX11_plan 52 = .ok (.ireturn, 1) := by decide +kernel
theorem dX11_plan_53 : decode cX11_plan 53 = .ok (.aload_n 0, 1) := by decide +kernel
theorem dX11_plan_54 : decode cX11_plan 54 = .ok (.getfield 34, 3) := by decide +kernel
theorem dX11_plan_57 : decode cX11_plan 57 = .ok (.aload_n 0, 1) := by decide +kernel
theorem dX11_plan_58 : decode cX11_plan 58 = .ok (.getfield 65, 3) := by decide +kernel
theorem dX11_plan_61 : decode cX11_plan 61 = .ok (.aload_n 0, 1) := by decide +kernel
theorem dX11_plan_62 : decode cX11_plan 62 = .ok (.getfield 52, 3) := by decide +kernel
theorem dX11_plan_65 : decode cX11_plan 65 = .ok (.iload 4, 2) := by decide +kernel
theorem dX11_plan_67 : decode cX11_plan 67 = .ok (.invokevirtual 187, 3) := by decide +kernel
theorem dX11_plan_70 : decode cX11_plan 70 = .ok (.aload_n 0, 1) := by decide +kernel
theorem dX11_plan_71 : decode cX11_plan 71 = .ok (.iload 5, 2) := by decide +kernel
theorem dX11_plan_73 : decode cX11_plan 73 = .ok (.invokevirtual 191, 3) := by decide +kernel
theorem dX11_plan_76 : decode cX11_plan 76 = .ok (.ireturn, 1) := by decide +kernel
theorem dX11_isQuestion_0 : decode cX11_isQuestion 0 = .ok (.iload_n 0, 1) := by decide +kernel
theorem dX11_isQuestion_1 : decode cX11_isQuestion 1 = .ok (.ifCond .lt 8, 3) := by decide +kernel
theorem dX11_isQuestion_4 : decode cX11_isQuestion 4 = .ok (.iload_n 0, 1) := by decide +kernel
theorem dX11_isQuestion_5 : decode cX11_isQuestion 5 = .ok (.iconst 3, 1) := by decide +kernel
theorem dX11_isQuestion_6 : decode cX11_isQuestion 6 = .ok (.if_icmp .le 15, 3) := by decide +kernel
theorem dX11_isQuestion_9 : decode cX11_isQuestion 9 = .ok (.iload_n 0, 1) := by decide +kernel
theorem dX11_isQuestion_10 : decode cX11_isQuestion 10 = .ok (.bipush 10, 2) := by decide +kernel
theorem dX11_isQuestion_12 : decode cX11_isQuestion 12 = .ok (.if_icmp .lt 13, 3) := by decide +kernel
theorem dX11_isQuestion_15 : decode cX11_isQuestion 15 = .ok (.iload_n 0, 1) := by decide +kernel
theorem dX11_isQuestion_16 : decode cX11_isQuestion 16 = .ok (.bipush 13, 2) := by decide +kernel
theorem dX11_isQuestion_18 : decode cX11_isQuestion 18 = .ok (.if_icmp .ge 7, 3) := by decide +kernel
theorem dX11_isQuestion_21 : decode cX11_isQuestion 21 = .ok (.iconst 1, 1) := by decide +kernel
theorem dX11_isQuestion_22 : decode cX11_isQuestion 22 = .ok (.goto 4, 3) := by decide +kernel
theorem dX11_isQuestion_25 : decode cX11_isQuestion 25 = .ok (.iconst 0, 1) := by decide +kernel
theorem dX11_isQuestion_26 : decode cX11_isQuestion 26 = .ok (.ireturn, 1) := by decide +kernel
theorem dX11_answerOfVoyage_0 : decode cX11_answerOfVoyage 0 = .ok (.iload_n 1, 1) := by decide +kernel
theorem dX11_answerOfVoyage_1 : decode cX11_answerOfVoyage 1 = .ok (.tableswitch 67 0 3 #[31, 43, 51, 59], 31) := by decide +kernel
theorem dX11_answerOfVoyage_32 : decode cX11_answerOfVoyage 32 = .ok (.aload_n 0, 1) := by decide +kernel
theorem dX11_answerOfVoyage_33 : decode cX11_answerOfVoyage 33 = .ok (.getfield 34, 3) := by decide +kernel
theorem dX11_answerOfVoyage_36 : decode cX11_answerOfVoyage 36 = .ok (.aload_n 0, 1) := by decide +kernel
theorem dX11_answerOfVoyage_37 : decode cX11_answerOfVoyage 37 = .ok (.getfield 65, 3) := by decide +kernel
theorem dX11_answerOfVoyage_40 : decode cX11_answerOfVoyage 40 = .ok (.invokevirtual 194, 3) := by decide +kernel
theorem dX11_answerOfVoyage_43 : decode cX11_answerOfVoyage 43 = .ok (.ireturn, 1) := by decide +kernel
theorem dX11_answerOfVoyage_44 : decode cX11_answerOfVoyage 44 = .ok (.aload_n 0, 1) := by decide +kernel
theorem dX11_answerOfVoyage_45 : decode cX11_answerOfVoyage 45 = .ok (.getfield 34, 3) := by decide +kernel
theorem dX11_answerOfVoyage_48 : decode cX11_answerOfVoyage 48 = .ok (.getfield 198, 3) := by decide +kernel
theorem dX11_answerOfVoyage_51 : decode cX11_answerOfVoyage 51 = .ok (.ireturn, 1) := by decide +kernel
theorem dX11_answerOfVoyage_52 : decode cX11_answerOfVoyage 52 = .ok (.aload_n 0, 1) := by decide +kernel
theorem dX11_answerOfVoyage_53 : decode cX11_answerOfVoyage 53 = .ok (.getfield 34, 3) := by decide +kernel
theorem dX11_answerOfVoyage_56 : decode cX11_answerOfVoyage 56 = .ok (.getfield 201, 3) := by decide +kernel
theorem dX11_answerOfVoyage_59 : decode cX11_answerOfVoyage 59 = .ok (.ireturn, 1) := by decide +kernel
theorem dX11_answerOfVoyage_60 : decode cX11_answerOfVoyage 60 = .ok (.aload_n 0, 1) := by decide +kernel
theorem dX11_answerOfVoyage_61 : decode cX11_answerOfVoyage 61 = .ok (.getfield 34, 3) := by decide +kernel
theorem dX11_answerOfVoyage_64 : decode cX11_answerOfVoyage 64 = .ok (.getfield 204, 3) := by decide +kernel
theorem dX11_answerOfVoyage_67 : decode cX11_answerOfVoyage 67 = .ok (.ireturn, 1) := by decide +kernel
theorem dX11_answerOfVoyage_68 : decode cX11_answerOfVoyage 68 = .ok (.aload_n 0, 1) := by decide +kernel
theorem dX11_answerOfVoyage_69 : decode cX11_answerOfVoyage 69 = .ok (.iload_n 1, 1) := by decide +kernel
theorem dX11_answerOfVoyage_70 : decode cX11_answerOfVoyage 70 = .ok (.bipush 10, 2) := by decide +kernel
theorem dX11_answerOfVoyage_72 : decode cX11_answerOfVoyage 72 = .ok (.isub, 1) := by decide +kernel
theorem dX11_answerOfVoyage_73 : decode cX11_answerOfVoyage 73 = .ok (.invokevirtual 135, 3) := by decide +kernel
theorem dX11_answerOfVoyage_76 : decode cX11_answerOfVoyage 76 = .ok (.ifCond .eq 18, 3) := by decide +kernel
theorem dX11_answerOfVoyage_79 : decode cX11_answerOfVoyage 79 = .ok (.aload_n 0, 1) := by decide +kernel
theorem dX11_answerOfVoyage_80 : decode cX11_answerOfVoyage 80 = .ok (.getfield 34, 3) := by decide +kernel
theorem dX11_answerOfVoyage_83 : decode cX11_answerOfVoyage 83 = .ok (.getfield 207, 3) := by decide +kernel
theorem dX11_answerOfVoyage_86 : decode cX11_answerOfVoyage 86 = .ok (.iload_n 1, 1) := by decide +kernel
theorem dX11_answerOfVoyage_87 : decode cX11_answerOfVoyage 87 = .ok (.bipush 10, 2) := by decide +kernel
theorem dX11_answerOfVoyage_89 : decode cX11_answerOfVoyage 89 = .ok (.isub, 1) := by decide +kernel
theorem dX11_answerOfVoyage_90 : decode cX11_answerOfVoyage 90 = .ok (.iaload, 1) := by decide +kernel
theorem dX11_answerOfVoyage_91 : decode cX11_answerOfVoyage 91 = .ok (.goto 5, 3) := by decide +kernel
theorem dX11_answerOfVoyage_94 : decode cX11_answerOfVoyage 94 = .ok (.bipush (-9), 2) := by decide +kernel
theorem dX11_answerOfVoyage_96 : decode cX11_answerOfVoyage 96 = .ok (.ireturn, 1) := by decide +kernel
theorem dX11_refusalOfRow_0 : decode cX11_refusalOfRow 0 = .ok (.iload_n 1, 1) := by decide +kernel
theorem dX11_refusalOfRow_1 : decode cX11_refusalOfRow 1 = .ok (.invokestatic 77, 3) := by decide +kernel
theorem dX11_refusalOfRow_4 : decode cX11_refusalOfRow 4 = .ok (.ifCond .ne 5, 3) := by decide +kernel
theorem dX11_refusalOfRow_7 : decode cX11_refusalOfRow 7 = .ok (.iconst (-1), 1) := by decide +kernel
theorem dX11_refusalOfRow_8 : decode cX11_refusalOfRow 8 = .ok (.ireturn, 1) := by decide +kernel
theorem dX11_refusalOfRow_9 : decode cX11_refusalOfRow 9 = .ok (.iload_n 2, 1) := by decide +kernel
theorem dX11_refusalOfRow_10 : decode cX11_refusalOfRow 10 = .ok (.invokestatic 81, 3) := by decide +kernel
theorem dX11_refusalOfRow_13 : decode cX11_refusalOfRow 13 = .ok (.ifCond .eq 17, 3) := by decide +kernel
theorem dX11_refusalOfRow_16 : decode cX11_refusalOfRow 16 = .ok (.iload_n 3, 1) := by decide +kernel
theorem dX11_refusalOfRow_17 : decode cX11_refusalOfRow 17 = .ok (.ifCond .lt 13, 3) := by decide +kernel
theorem dX11_refusalOfRow_20 : decode cX11_refusalOfRow 20 = .ok (.iload_n 3, 1) := by decide +kernel
theorem dX11_refusalOfRow_21 : decode cX11_refusalOfRow 21 = .ok (.bipush 10, 2) := by decide +kernel
theorem dX11_refusalOfRow_23 : decode cX11_refusalOfRow 23 = .ok (.if_icmp .gt 7, 3) := by decide +kernel
theorem dX11_refusalOfRow_26 : decode cX11_refusalOfRow 26 = .ok (.iconst 0, 1) := by decide +kernel
theorem dX11_refusalOfRow_27 : decode cX11_refusalOfRow 27 = .ok (.goto 5, 3) := by decide +kernel
theorem dX11_refusalOfRow_30 : decode cX11_refusalOfRow 30 = .ok (.bipush (-2), 2) := by decide +kernel
theorem dX11_refusalOfRow_32 : decode cX11_refusalOfRow 32 = .ok (.ireturn, 1) := by decide +kernel
theorem dX11_takeOrders_0 : decode cX11_takeOrders 0 = .ok (.aload_n 0, 1) := by decide +kernel
theorem dX11_takeOrders_1 : decode cX11_takeOrders 1 = .ok (.getfield 13, 3) := by decide +kernel
theorem dX11_takeOrders_4 : decode cX11_takeOrders 4 = .ok (.iload_n 1, 1) := by decide +kernel
theorem dX11_takeOrders_5 : decode cX11_takeOrders 5 = .ok (.aaload, 1) := by decide +kernel
theorem dX11_takeOrders_6 : decode cX11_takeOrders 6 = .ok (.astore 5, 2) := by decide +kernel
theorem dX11_takeOrders_8 : decode cX11_takeOrders 8 = .ok (.aload 5, 2) := by decide +kernel
theorem dX11_takeOrders_10 : decode cX11_takeOrders 10 = .ok (.iload_n 2, 1) := by decide +kernel
theorem dX11_takeOrders_11 : decode cX11_takeOrders 11 = .ok (.invokevirtual 121, 3) := by decide +kernel
theorem dX11_takeOrders_14 : decode cX11_takeOrders 14 = .ok (.istore 6, 2) := by decide +kernel
theorem dX11_takeOrders_16 : decode cX11_takeOrders 16 = .ok (.iload 6, 2) := by decide +kernel
theorem dX11_takeOrders_18 : decode cX11_takeOrders 18 = .ok (.ifCond .ne 17, 3) := by decide +kernel
theorem dX11_takeOrders_21 : decode cX11_takeOrders 21 = .ok (.aload 5, 2) := by decide +kernel
theorem dX11_takeOrders_23 : decode cX11_takeOrders 23 = .ok (.iload_n 3, 1) := by decide +kernel
theorem dX11_takeOrders_24 : decode cX11_takeOrders 24 = .ok (.iload 4, 2) := by decide +kernel
theorem dX11_takeOrders_26 : decode cX11_takeOrders 26 = .ok (.invokevirtual 124, 3) := by decide +kernel
theorem dX11_takeOrders_29 : decode cX11_takeOrders 29 = .ok (.ifCond .ne 6, 3) := by decide +kernel
theorem dX11_takeOrders_32 : decode cX11_takeOrders 32 = .ok (.iconst 3, 1) := by decide +kernel
theorem dX11_takeOrders_33 : decode cX11_takeOrders 33 = .ok (.istore 6, 2) := by decide +kernel
theorem dX11_takeOrders_35 : decode cX11_takeOrders 35 = .ok (.iload 6, 2) := by decide +kernel
theorem dX11_takeOrders_37 : decode cX11_takeOrders 37 = .ok (.ifCond .eq 10, 3) := by decide +kernel
theorem dX11_takeOrders_40 : decode cX11_takeOrders 40 = .ok (.aload_n 0, 1) := by decide +kernel
theorem dX11_takeOrders_41 : decode cX11_takeOrders 41 = .ok (.iload 6, 2) := by decide +kernel
theorem dX11_takeOrders_43 : decode cX11_takeOrders 43 = .ok (.invokevirtual 88, 3) := by decide +kernel
theorem dX11_takeOrders_46 : decode cX11_takeOrders 46 = .ok (.ireturn, 1) := by decide +kernel
theorem dX11_takeOrders_47 : decode cX11_takeOrders 47 = .ok (.aload_n 0, 1) := by decide +kernel
theorem dX11_takeOrders_48 : decode cX11_takeOrders 48 = .ok (.getfield 65, 3) := by decide +kernel
theorem dX11_takeOrders_51 : decode cX11_takeOrders 51 = .ok (.invokevirtual 157, 3) := by decide +kernel
theorem dX11_takeOrders_54 : decode cX11_takeOrders 54 = .ok (.ifCond .ne 6, 3) := by decide +kernel
theorem dX11_takeOrders_57 : decode cX11_takeOrders 57 = .ok (.bipush (-3), 2) := by decide +kernel
theorem dX11_takeOrders_59 : decode cX11_takeOrders 59 = .ok (.ireturn, 1) := by decide +kernel
theorem dX11_takeOrders_60 : decode cX11_takeOrders 60 = .ok (.iload 4, 2) := by decide +kernel
theorem dX11_takeOrders_62 : decode cX11_takeOrders 62 = .ok (.aload_n 0, 1) := by decide +kernel
theorem dX11_takeOrders_63 : decode cX11_takeOrders 63 = .ok (.getfield 65, 3) := by decide +kernel
theorem dX11_takeOrders_66 : decode cX11_takeOrders 66 = .ok (.getfield 208, 3) := by decide +kernel
theorem dX11_takeOrders_69 : decode cX11_takeOrders 69 = .ok (.if_icmp .le 6, 3) := by decide +kernel
theorem dX11_takeOrders_72 : decode cX11_takeOrders 72 = .ok (.bipush (-2), 2) := by decide +kernel
theorem dX11_takeOrders_74 : decode cX11_takeOrders 74 = .ok (.ireturn, 1) := by decide +kernel
theorem dX11_takeOrders_75 : decode cX11_takeOrders 75 = .ok (.iconst 0, 1) := by decide +kernel
theorem dX11_takeOrders_76 : decode cX11_takeOrders 76 = .ok (.istore 7, 2) := by decide +kernel
theorem dX11_takeOrders_78 : decode cX11_takeOrders 78 = .ok (.iload 7, 2) := by decide +kernel
theorem dX11_takeOrders_80 : decode cX11_takeOrders 80 = .ok (.iload 4, 2) := by decide +kernel
theorem dX11_takeOrders_82 : decode cX11_takeOrders 82 = .ok (.if_icmp .ge 46, 3) := by decide +kernel
theorem dX11_takeOrders_85 : decode cX11_takeOrders 85 = .ok (.aload_n 0, 1) := by decide +kernel
theorem dX11_takeOrders_86 : decode cX11_takeOrders 86 = .ok (.aload 5, 2) := by decide +kernel
theorem dX11_takeOrders_88 : decode cX11_takeOrders 88 = .ok (.getfield 92, 3) := by decide +kernel
theorem dX11_takeOrders_91 : decode cX11_takeOrders 91 = .ok (.iload_n 3, 1) := by decide +kernel
theorem dX11_takeOrders_92 : decode cX11_takeOrders 92 = .ok (.iload 7, 2) := by decide +kernel
theorem dX11_takeOrders_94 : decode cX11_takeOrders 94 = .ok (.iadd, 1) := by decide +kernel
theorem dX11_takeOrders_95 : decode cX11_takeOrders 95 = .ok (.iaload, 1) := by decide +kernel
theorem dX11_takeOrders_96 : decode cX11_takeOrders 96 = .ok (.invokevirtual 211, 3) := by decide +kernel
theorem dX11_takeOrders_99 : decode cX11_takeOrders 99 = .ok (.ifCond .ne 6, 3) := by decide +kernel
theorem dX11_takeOrders_102 : decode cX11_takeOrders 102 = .ok (.bipush (-2), 2) := by decide +kernel
theorem dX11_takeOrders_104 : decode cX11_takeOrders 104 = .ok (.ireturn, 1) := by decide +kernel
theorem dX11_takeOrders_105 : decode cX11_takeOrders 105 = .ok (.aload_n 0, 1) := by decide +kernel
theorem dX11_takeOrders_106 : decode cX11_takeOrders 106 = .ok (.getfield 52, 3) := by decide +kernel
theorem dX11_takeOrders_109 : decode cX11_takeOrders 109 = .ok (.iload 7, 2) := by decide +kernel
theorem dX11_takeOrders_111 : decode cX11_takeOrders 111 = .ok (.aload 5, 2) := by decide +kernel
theorem dX11_takeOrders_113 : decode cX11_takeOrders 113 = .ok (.getfield 92, 3) := by decide +kernel
theorem dX11_takeOrders_116 : decode cX11_takeOrders 116 = .ok (.iload_n 3, 1) := by decide +kernel
theorem dX11_takeOrders_117 : decode cX11_takeOrders 117 = .ok (.iload 7, 2) := by decide +kernel
theorem dX11_takeOrders_119 : decode cX11_takeOrders 119 = .ok (.iadd, 1) := by decide +kernel
theorem dX11_takeOrders_120 : decode cX11_takeOrders 120 = .ok (.iaload, 1) := by decide +kernel
theorem dX11_takeOrders_121 : decode cX11_takeOrders 121 = .ok (.iastore, 1) := by decide +kernel
theorem dX11_takeOrders_122 : decode cX11_takeOrders 122 = .ok (.iinc 7 1, 3) := by decide +kernel
theorem dX11_takeOrders_125 : decode cX11_takeOrders 125 = .ok (.goto (-47), 3) := by decide +kernel
theorem dX11_takeOrders_128 : decode cX11_takeOrders 128 = .ok (.iconst 0, 1) := by decide +kernel
theorem dX11_takeOrders_129 : decode cX11_takeOrders 129 = .ok (.ireturn, 1) := by decide +kernel
theorem dX11_soonest_0 : decode cX11_soonest 0 = .ok (.aload_n 0, 1) := by decide +kernel
theorem dX11_soonest_1 : decode cX11_soonest 1 = .ok (.getfield 65, 3) := by decide +kernel
theorem dX11_soonest_4 : decode cX11_soonest 4 = .ok (.invokevirtual 157, 3) := by decide +kernel
theorem dX11_soonest_7 : decode cX11_soonest 7 = .ok (.ifCond .ne 6, 3) := by decide +kernel
theorem dX11_soonest_10 : decode cX11_soonest 10 = .ok (.bipush (-3), 2) := by decide +kernel
theorem dX11_soonest_12 : decode cX11_soonest 12 = .ok (.ireturn, 1) := by decide +kernel
theorem dX11_soonest_13 : decode cX11_soonest 13 = .ok (.aload_n 0, 1) := by decide +kernel
theorem dX11_soonest_14 : decode cX11_soonest 14 = .ok (.iload_n 1, 1) := by decide +kernel
theorem dX11_soonest_15 : decode cX11_soonest 15 = .ok (.invokevirtual 211, 3) := by decide +kernel
theorem dX11_soonest_18 : decode cX11_soonest 18 = .ok (.ifCond .eq 18, 3) := by decide +kernel
theorem dX11_soonest_21 : decode cX11_soonest 21 = .ok (.aload_n 0, 1) := by decide +kernel
theorem dX11_soonest_22 : decode cX11_soonest 22 = .ok (.getfield 41, 3) := by decide +kernel
theorem dX11_soonest_25 : decode cX11_soonest 25 = .ok (.aload_n 0, 1) := by decide +kernel
theorem dX11_soonest_26 : decode cX11_soonest 26 = .ok (.getfield 65, 3) := by decide +kernel
theorem dX11_soonest_29 : decode cX11_soonest 29 = .ok (.iload_n 1, 1) := by decide +kernel
theorem dX11_soonest_30 : decode cX11_soonest 30 = .ok (.invokevirtual 214, 3) := by decide +kernel
theorem dX11_soonest_33 : decode cX11_soonest 33 = .ok (.goto 5, 3) := by decide +kernel
theorem dX11_soonest_36 : decode cX11_soonest 36 = .ok (.bipush (-2), 2) := by decide +kernel
theorem dX11_soonest_38 : decode cX11_soonest 38 = .ok (.ireturn, 1) := by decide +kernel
theorem dX11_hats_0 : decode cX11_hats 0 = .ok (.aload_n 0, 1) := by decide +kernel
theorem dX11_hats_1 : decode cX11_hats 1 = .ok (.getfield 65, 3) := by decide +kernel
theorem dX11_hats_4 : decode cX11_hats 4 = .ok (.invokevirtual 157, 3) := by decide +kernel
theorem dX11_hats_7 : decode cX11_hats 7 = .ok (.ifCond .ne 6, 3) := by decide +kernel
theorem dX11_hats_10 : decode cX11_hats 10 = .ok (.bipush (-3), 2) := by decide +kernel
theorem dX11_hats_12 : decode cX11_hats 12 = .ok (.ireturn, 1) := by decide +kernel
theorem dX11_hats_13 : decode cX11_hats 13 = .ok (.aload_n 0, 1) := by decide +kernel
theorem dX11_hats_14 : decode cX11_hats 14 = .ok (.iload_n 1, 1) := by decide +kernel
theorem dX11_hats_15 : decode cX11_hats 15 = .ok (.invokevirtual 211, 3) := by decide +kernel
theorem dX11_hats_18 : decode cX11_hats 18 = .ok (.ifCond .eq 13, 3) := by decide +kernel
theorem dX11_hats_21 : decode cX11_hats 21 = .ok (.iload_n 2, 1) := by decide +kernel
theorem dX11_hats_22 : decode cX11_hats 22 = .ok (.ifCond .lt 9, 3) := by decide +kernel
theorem dX11_hats_25 : decode cX11_hats 25 = .ok (.iload_n 2, 1) := by decide +kernel
theorem dX11_hats_26 : decode cX11_hats 26 = .ok (.bipush 10, 2) := by decide +kernel
theorem dX11_hats_28 : decode cX11_hats 28 = .ok (.if_icmp .le 6, 3) := by decide +kernel
theorem dX11_hats_31 : decode cX11_hats 31 = .ok (.bipush (-2), 2) := by decide +kernel
theorem dX11_hats_33 : decode cX11_hats 33 = .ok (.ireturn, 1) := by decide +kernel
theorem dX11_hats_34 : decode cX11_hats 34 = .ok (.aload_n 0, 1) := by decide +kernel
theorem dX11_hats_35 : decode cX11_hats 35 = .ok (.getfield 41, 3) := by decide +kernel
theorem dX11_hats_38 : decode cX11_hats 38 = .ok (.aload_n 0, 1) := by decide +kernel
theorem dX11_hats_39 : decode cX11_hats 39 = .ok (.getfield 65, 3) := by decide +kernel
theorem dX11_hats_42 : decode cX11_hats 42 = .ok (.iload_n 1, 1) := by decide +kernel
theorem dX11_hats_43 : decode cX11_hats 43 = .ok (.iload_n 2, 1) := by decide +kernel
theorem dX11_hats_44 : decode cX11_hats 44 = .ok (.aload_n 0, 1) := by decide +kernel
theorem dX11_hats_45 : decode cX11_hats 45 = .ok (.getfield 65, 3) := by decide +kernel
theorem dX11_hats_48 : decode cX11_hats 48 = .ok (.getfield 208, 3) := by decide +kernel
theorem dX11_hats_51 : decode cX11_hats 51 = .ok (.invokestatic 218, 3) := by decide +kernel
theorem dX11_hats_54 : decode cX11_hats 54 = .ok (.invokevirtual 224, 3) := by decide +kernel
theorem dX11_hats_57 : decode cX11_hats 57 = .ok (.ireturn, 1) := by decide +kernel
theorem dX11_rid_0 : decode cX11_rid 0 = .ok (.aload_n 0, 1) := by decide +kernel
theorem dX11_rid_1 : decode cX11_rid 1 = .ok (.iload_n 1, 1) := by decide +kernel
theorem dX11_rid_2 : decode cX11_rid 2 = .ok (.invokevirtual 135, 3) := by decide +kernel
theorem dX11_rid_5 : decode cX11_rid 5 = .ok (.ifCond .ne 5, 3) := by decide +kernel
theorem dX11_rid_8 : decode cX11_rid 8 = .ok (.iconst (-1), 1) := by decide +kernel
theorem dX11_rid_9 : decode cX11_rid 9 = .ok (.ireturn, 1) := by decide +kernel
theorem dX11_rid_10 : decode cX11_rid 10 = .ok (.aload_n 0, 1) := by decide +kernel
theorem dX11_rid_11 : decode cX11_rid 11 = .ok (.getfield 41, 3) := by decide +kernel
theorem dX11_rid_14 : decode cX11_rid 14 = .ok (.aload_n 0, 1) := by decide +kernel
theorem dX11_rid_15 : decode cX11_rid 15 = .ok (.getfield 65, 3) := by decide +kernel
theorem dX11_rid_18 : decode cX11_rid 18 = .ok (.aload_n 0, 1) := by decide +kernel
theorem dX11_rid_19 : decode cX11_rid 19 = .ok (.getfield 65, 3) := by decide +kernel
theorem dX11_rid_22 : decode cX11_rid 22 = .ok (.invokevirtual 228, 3) := by decide +kernel
theorem dX11_rid_25 : decode cX11_rid 25 = .ok (.invokevirtual 214, 3) := by decide +kernel
theorem dX11_rid_28 : decode cX11_rid 28 = .ok (.istore_n 2, 1) := by decide +kernel
theorem dX11_rid_29 : decode cX11_rid 29 = .ok (.iload_n 2, 1) := by decide +kernel
theorem dX11_rid_30 : decode cX11_rid 30 = .ok (.bipush (-9), 2) := by decide +kernel
theorem dX11_rid_32 : decode cX11_rid 32 = .ok (.if_icmp .ne 6, 3) := by decide +kernel
theorem dX11_rid_35 : decode cX11_rid 35 = .ok (.bipush (-9), 2) := by decide +kernel
theorem dX11_rid_37 : decode cX11_rid 37 = .ok (.ireturn, 1) := by decide +kernel
theorem dX11_rid_38 : decode cX11_rid 38 = .ok (.iload_n 2, 1) := by decide +kernel
theorem dX11_rid_39 : decode cX11_rid 39 = .ok (.aload_n 0, 1) := by decide +kernel
theorem dX11_rid_40 : decode cX11_rid 40 = .ok (.getfield 41, 3) := by decide +kernel
theorem dX11_rid_43 : decode cX11_rid 43 = .ok (.aload_n 0, 1) := by decide +kernel
theorem dX11_rid_44 : decode cX11_rid 44 = .ok (.getfield 65, 3) := by decide +kernel
theorem dX11_rid_47 : decode cX11_rid 47 = .ok (.aload_n 0, 1) := by decide +kernel
theorem dX11_rid_48 : decode cX11_rid 48 = .ok (.getfield 65, 3) := by decide +kernel
theorem dX11_rid_51 : decode cX11_rid 51 = .ok (.invokevirtual 228, 3) := by decide +kernel
theorem dX11_rid_54 : decode cX11_rid 54 = .ok (.iconst 1, 1) := by decide +kernel
theorem dX11_rid_55 : decode cX11_rid 55 = .ok (.iload_n 1, 1) := by decide +kernel
theorem dX11_rid_56 : decode cX11_rid 56 = .ok (.ishl, 1) := by decide +kernel
theorem dX11_rid_57 : decode cX11_rid 57 = .ok (.iconst (-1), 1) := by decide +kernel
theorem dX11_rid_58 : decode cX11_rid 58 = .ok (.ixor, 1) := by decide +kernel
theorem dX11_rid_59 : decode cX11_rid 59 = .ok (.iand, 1) := by decide +kernel
theorem dX11_rid_60 : decode cX11_rid 60 = .ok (.invokevirtual 214, 3) := by decide +kernel
theorem dX11_rid_63 : decode cX11_rid 63 = .ok (.isub, 1) := by decide +kernel
theorem dX11_rid_64 : decode cX11_rid 64 = .ok (.ireturn, 1) := by decide +kernel
theorem dX11_reading_0 : decode cX11_reading 0 = .ok (.aload_n 0, 1) := by decide +kernel
theorem dX11_reading_1 : decode cX11_reading 1 = .ok (.iload_n 1, 1) := by decide +kernel
theorem dX11_reading_2 : decode cX11_reading 2 = .ok (.invokevirtual 135, 3) := by decide +kernel
theorem dX11_reading_5 : decode cX11_reading 5 = .ok (.ifCond .ne 5, 3) := by decide +kernel
theorem dX11_reading_8 : decode cX11_reading 8 = .ok (.iconst (-1), 1) := by decide +kernel
theorem dX11_reading_9 : decode cX11_reading 9 = .ok (.ireturn, 1) := by decide +kernel
theorem dX11_reading_10 : decode cX11_reading 10 = .ok (.iload_n 2, 1) := by decide +kernel
theorem dX11_reading_11 : decode cX11_reading 11 = .ok (.ifCond .lt 24, 3) := by decide +kernel
theorem dX11_reading_14 : decode cX11_reading 14 = .ok (.iload_n 2, 1) := by decide +kernel
theorem dX11_reading_15 : decode cX11_reading 15 = .ok (.bipush 10, 2) := by decide +kernel
theorem dX11_reading_17 : decode cX11_reading 17 = .ok (.if_icmp .ge 18, 3) := by decide +kernel
theorem dX11_reading_20 : decode cX11_reading 20 = .ok (.iload_n 3, 1) := by decide +kernel
theorem dX11_reading_21 : decode cX11_reading 21 = .ok (.ifCond .lt 14, 3) := by decide +kernel
theorem dX11_reading_24 : decode cX11_reading 24 = .ok (.iload_n 3, 1) := by decide +kernel
theorem dX11_reading_25 : decode cX11_reading 25 = .ok (.aload_n 0, 1) := by decide +kernel
theorem dX11_reading_26 : decode cX11_reading 26 = .ok (.getfield 65, 3) := by decide +kernel
theorem dX11_reading_29 : decode cX11_reading 29 = .ok (.getfield 167, 3) := by decide +kernel
theorem dX11_reading_32 : decode cX11_reading 32 = .ok (.if_icmp .le 6, 3) := by decide +kernel
theorem dX11_reading_35 : decode cX11_reading 35 = .ok (.bipush (-2), 2) := by decide +kernel
theorem dX11_reading_37 : decode cX11_reading 37 = .ok (.ireturn, 1) := by decide +kernel
theorem dX11_reading_38 : decode cX11_reading 38 = .ok (.aload_n 0, 1) := by decide +kernel
theorem dX11_reading_39 : decode cX11_reading 39 = .ok (.getfield 27, 3) := by decide +kernel
theorem dX11_reading_42 : decode cX11_reading 42 = .ok (.iload_n 1, 1) := by decide +kernel
theorem dX11_reading_43 : decode cX11_reading 43 = .ok (.iload_n 2, 1) := by decide +kernel
theorem dX11_reading_44 : decode cX11_reading 44 = .ok (.iload_n 3, 1) := by decide +kernel
theorem dX11_reading_45 : decode cX11_reading 45 = .ok (.invokevirtual 231, 3) := by decide +kernel
theorem dX11_reading_48 : decode cX11_reading 48 = .ok (.ireturn, 1) := by decide +kernel
theorem dX11_back_0 : decode cX11_back 0 = .ok (.iload_n 1, 1) := by decide +kernel
theorem dX11_back_1 : decode cX11_back 1 = .ok (.ifCond .lt 14, 3) := by decide +kernel
theorem dX11_back_4 : decode cX11_back 4 = .ok (.iload_n 1, 1) := by decide +kernel
theorem dX11_back_5 : decode cX11_back 5 = .ok (.aload_n 0, 1) := by decide +kernel
theorem dX11_back_6 : decode cX11_back 6 = .ok (.getfield 27, 3) := by decide +kernel
theorem dX11_back_9 : decode cX11_back 9 = .ok (.getfield 128, 3) := by decide +kernel
theorem dX11_back_12 : decode cX11_back 12 = .ok (.if_icmp .le 6, 3) := by decide +kernel
theorem dX11_back_15 : decode cX11_back 15 = .ok (.bipush (-2), 2) := by decide +kernel
theorem dX11_back_17 : decode cX11_back 17 = .ok (.ireturn, 1) := by decide +kernel
theorem dX11_back_18 : decode cX11_back 18 = .ok (.aload_n 0, 1) := by decide +kernel
theorem dX11_back_19 : decode cX11_back 19 = .ok (.getfield 27, 3) := by decide +kernel
theorem dX11_back_22 : decode cX11_back 22 = .ok (.dup, 1) := by decide +kernel
theorem dX11_back_23 : decode cX11_back 23 = .ok (.getfield 128, 3) := by decide +kernel
theorem dX11_back_26 : decode cX11_back 26 = .ok (.iload_n 1, 1) := by decide +kernel
theorem dX11_back_27 : decode cX11_back 27 = .ok (.isub, 1) := by decide +kernel
theorem dX11_back_28 : decode cX11_back 28 = .ok (.putfield 128, 3) := by decide +kernel
theorem dX11_back_31 : decode cX11_back 31 = .ok (.aload_n 0, 1) := by decide +kernel
theorem dX11_back_32 : decode cX11_back 32 = .ok (.getfield 27, 3) := by decide +kernel
theorem dX11_back_35 : decode cX11_back 35 = .ok (.getfield 128, 3) := by decide +kernel
theorem dX11_back_38 : decode cX11_back 38 = .ok (.ireturn, 1) := by decide +kernel
theorem dX11_winds_0 : decode cX11_winds 0 = .ok (.aload_n 0, 1) := by decide +kernel
theorem dX11_winds_1 : decode cX11_winds 1 = .ok (.iconst 0, 1) := by decide +kernel
theorem dX11_winds_2 : decode cX11_winds 2 = .ok (.putfield 72, 3) := by decide +kernel
theorem dX11_winds_5 : decode cX11_winds 5 = .ok (.aload_n 0, 1) := by decide +kernel
theorem dX11_winds_6 : decode cX11_winds 6 = .ok (.iload_n 1, 1) := by decide +kernel
theorem dX11_winds_7 : decode cX11_winds 7 = .ok (.invokevirtual 161, 3) := by decide +kernel
theorem dX11_winds_10 : decode cX11_winds 10 = .ok (.ifCond .ne 6, 3) := by decide +kernel
theorem dX11_winds_13 : decode cX11_winds 13 = .ok (.bipush (-2), 2) := by decide +kernel
theorem dX11_winds_15 : decode cX11_winds 15 = .ok (.ireturn, 1) := by decide +kernel
theorem dX11_winds_16 : decode cX11_winds 16 = .ok (.aload_n 0, 1) := by decide +kernel
theorem dX11_winds_17 : decode cX11_winds 17 = .ok (.iload_n 2, 1) := by decide +kernel
theorem dX11_winds_18 : decode cX11_winds 18 = .ok (.iload_n 3, 1) := by decide +kernel
theorem dX11_winds_19 : decode cX11_winds 19 = .ok (.iload 5, 2) := by decide +kernel
theorem dX11_winds_21 : decode cX11_winds 21 = .ok (.invokevirtual 176, 3) := by decide +kernel
theorem dX11_winds_24 : decode cX11_winds 24 = .ok (.istore 6, 2) := by decide +kernel
theorem dX11_winds_26 : decode cX11_winds 26 = .ok (.iload 6, 2) := by decide +kernel
theorem dX11_winds_28 : decode cX11_winds 28 = .ok (.ifCond .ne 15, 3) := by decide +kernel
theorem dX11_winds_31 : decode cX11_winds 31 = .ok (.aload_n 0, 1) := by decide +kernel
theorem dX11_winds_32 : decode cX11_winds 32 = .ok (.iload_n 2, 1) := by decide +kernel
theorem dX11_winds_33 : decode cX11_winds 33 = .ok (.iload_n 3, 1) := by decide +kernel
theorem dX11_winds_34 : decode cX11_winds 34 = .ok (.iload 4, 2) := by decide +kernel
theorem dX11_winds_36 : decode cX11_winds 36 = .ok (.iload 5, 2) := by decide +kernel
theorem dX11_winds_38 : decode cX11_winds 38 = .ok (.invokevirtual 183, 3) := by decide +kernel
theorem dX11_winds_41 : decode cX11_winds 41 = .ok (.istore 6, 2) := by decide +kernel
theorem dX11_winds_43 : decode cX11_winds 43 = .ok (.iload 6, 2) := by decide +kernel
theorem dX11_winds_45 : decode cX11_winds 45 = .ok (.ifCond .eq 6, 3) := by decide +kernel
theorem dX11_winds_48 : decode cX11_winds 48 = .ok (.iload 6, 2) := by decide +kernel
theorem dX11_winds_50 : decode cX11_winds 50 = .ok (.ireturn, 1) := by decide +kernel
theorem dX11_winds_51 : decode cX11_winds 51 = .ok (.aload_n 0, 1) := by decide +kernel
theorem dX11_winds_52 : decode cX11_winds 52 = .ok (.getfield 65, 3) := by decide +kernel
theorem dX11_winds_55 : decode cX11_winds 55 = .ok (.getfield 164, 3) := by decide +kernel
theorem dX11_winds_58 : decode cX11_winds 58 = .ok (.iload_n 1, 1) := by decide +kernel
theorem dX11_winds_59 : decode cX11_winds 59 = .ok (.iaload, 1) := by decide +kernel
theorem dX11_winds_60 : decode cX11_winds 60 = .ok (.istore 7, 2) := by decide +kernel
theorem dX11_winds_62 : decode cX11_winds 62 = .ok (.iconst 0, 1) := by decide +kernel
theorem dX11_winds_63 : decode cX11_winds 63 = .ok (.istore 8, 2) := by decide +kernel
theorem dX11_winds_65 : decode cX11_winds 65 = .ok (.iconst 0, 1) := by decide +kernel
theorem dX11_winds_66 : decode cX11_winds 66 = .ok (.istore 9, 2) := by decide +kernel
theorem dX11_winds_68 : decode cX11_winds 68 = .ok (.iload 9, 2) := by decide +kernel
theorem dX11_winds_70 : decode cX11_winds 70 = .ok (.iconst 3, 1) := by decide +kernel
theorem dX11_winds_71 : decode cX11_winds 71 = .ok (.if_icmp .ge 33, 3) := by decide +kernel
theorem dX11_winds_74 : decode cX11_winds 74 = .ok (.aload_n 0, 1) := by decide +kernel
theorem dX11_winds_75 : decode cX11_winds 75 = .ok (.getfield 65, 3) := by decide +kernel
theorem dX11_winds_78 : decode cX11_winds 78 = .ok (.getfield 164, 3) := by decide +kernel
theorem dX11_winds_81 : decode cX11_winds 81 = .ok (.iload_n 1, 1) := by decide +kernel
theorem dX11_winds_82 : decode cX11_winds 82 = .ok (.iload 9, 2) := by decide +kernel
theorem dX11_winds_84 : decode cX11_winds 84 = .ok (.iastore, 1) := by decide +kernel
theorem dX11_winds_85 : decode cX11_winds 85 = .ok (.iload 8, 2) := by decide +kernel
theorem dX11_winds_87 : decode cX11_winds 87 = .ok (.aload_n 0, 1) := by decide +kernel
theorem dX11_winds_88 : decode cX11_winds 88 = .ok (.iload 9, 2) := by decide +kernel
theorem dX11_winds_90 : decode cX11_winds 90 = .ok (.iload 5, 2) := by decide +kernel
theorem dX11_winds_92 : decode cX11_winds 92 = .ok (.invokevirtual 234, 3) := by decide +kernel
theorem dX11_winds_95 : decode cX11_winds 95 = .ok (.ior, 1) := by decide +kernel
theorem dX11_winds_96 : decode cX11_winds 96 = .ok (.istore 8, 2) := by decide +kernel
theorem dX11_winds_98 : decode cX11_winds 98 = .ok (.iinc 9 1, 3) := by decide +kernel
theorem dX11_winds_101 : decode cX11_winds 101 = .ok (.goto (-33), 3) := by decide +kernel
theorem dX11_winds_104 : decode cX11_winds 104 = .ok (.aload_n 0, 1) := by decide +kernel
theorem dX11_winds_105 : decode cX11_winds 105 = .ok (.getfield 65, 3) := by decide +kernel
theorem dX11_winds_108 : decode cX11_winds 108 = .ok (.getfield 164, 3) := by decide +kernel
theorem dX11_winds_111 : decode cX11_winds 111 = .ok (.iload_n 1, 1) := by decide +kernel
theorem dX11_winds_112 : decode cX11_winds 112 = .ok (.iload 7, 2) := by decide +kernel
theorem dX11_winds_114 : decode cX11_winds 114 = .ok (.iastore, 1) := by decide +kernel
theorem dX11_winds_115 : decode cX11_winds 115 = .ok (.iload 8, 2) := by decide +kernel
theorem dX11_winds_117 : decode cX11_winds 117 = .ok (.ireturn, 1) := by decide +kernel
theorem dX11_kinds_0 : decode cX11_kinds 0 = .ok (.aload_n 0, 1) := by decide +kernel
theorem dX11_kinds_1 : decode cX11_kinds 1 = .ok (.iload_n 1, 1) := by decide +kernel
theorem dX11_kinds_2 : decode cX11_kinds 2 = .ok (.iload_n 2, 1) := by decide +kernel
theorem dX11_kinds_3 : decode cX11_kinds 3 = .ok (.iload_n 3, 1) := by decide +kernel
theorem dX11_kinds_4 : decode cX11_kinds 4 = .ok (.iload 4, 2) := by decide +kernel
theorem dX11_kinds_6 : decode cX11_kinds 6 = .ok (.iload 5, 2) := by decide +kernel
theorem dX11_kinds_8 : decode cX11_kinds 8 = .ok (.invokevirtual 237, 3) := by decide +kernel
theorem dX11_kinds_11 : decode cX11_kinds 11 = .ok (.istore 6, 2) := by decide +kernel
theorem dX11_kinds_13 : decode cX11_kinds 13 = .ok (.iload 6, 2) := by decide +kernel
theorem dX11_kinds_15 : decode cX11_kinds 15 = .ok (.ifCond .eq 6, 3) := by decide +kernel
theorem dX11_kinds_18 : decode cX11_kinds 18 = .ok (.iload 6, 2) := by decide +kernel
theorem dX11_kinds_20 : decode cX11_kinds 20 = .ok (.ireturn, 1) := by decide +kernel
theorem dX11_kinds_21 : decode cX11_kinds 21 = .ok (.aload_n 0, 1) := by decide +kernel
theorem dX11_kinds_22 : decode cX11_kinds 22 = .ok (.getfield 65, 3) := by decide +kernel
theorem dX11_kinds_25 : decode cX11_kinds 25 = .ok (.getfield 138, 3) := by decide +kernel
theorem dX11_kinds_28 : decode cX11_kinds 28 = .ok (.iload_n 1, 1) := by decide +kernel
theorem dX11_kinds_29 : decode cX11_kinds 29 = .ok (.aaload, 1) := by decide +kernel
theorem dX11_kinds_30 : decode cX11_kinds 30 = .ok (.astore 7, 2) := by decide +kernel
theorem dX11_kinds_32 : decode cX11_kinds 32 = .ok (.iconst 0, 1) := by decide +kernel
theorem dX11_kinds_33 : decode cX11_kinds 33 = .ok (.istore 8, 2) := by decide +kernel
theorem dX11_kinds_35 : decode cX11_kinds 35 = .ok (.iconst 0, 1) := by decide +kernel
theorem dX11_kinds_36 : decode cX11_kinds 36 = .ok (.istore 9, 2) := by decide +kernel
theorem dX11_kinds_38 : decode cX11_kinds 38 = .ok (.iload 9, 2) := by decide +kernel
theorem dX11_kinds_40 : decode cX11_kinds 40 = .ok (.iconst 3, 1) := by decide +kernel
theorem dX11_kinds_41 : decode cX11_kinds 41 = .ok (.if_icmp .ge 47, 3) := by decide +kernel
theorem dX11_kinds_44 : decode cX11_kinds 44 = .ok (.aload_n 0, 1) := by decide +kernel
theorem dX11_kinds_45 : decode cX11_kinds 45 = .ok (.getfield 65, 3) := by decide +kernel
theorem dX11_kinds_48 : decode cX11_kinds 48 = .ok (.getfield 138, 3) := by decide +kernel
theorem dX11_kinds_51 : decode cX11_kinds 51 = .ok (.iload_n 1, 1) := by decide +kernel
theorem dX11_kinds_52 : decode cX11_kinds 52 = .ok (.iload 9, 2) := by decide +kernel
theorem dX11_kinds_54 : decode cX11_kinds 54 = .ok (.iload_n 1, 1) := by decide +kernel
theorem dX11_kinds_55 : decode cX11_kinds 55 = .ok (.aload 7, 2) := by decide +kernel
theorem dX11_kinds_57 : decode cX11_kinds 57 = .ok (.getfield 148, 3) := by decide +kernel
theorem dX11_kinds_60 : decode cX11_kinds 60 = .ok (.aload 7, 2) := by decide +kernel
theorem dX11_kinds_62 : decode cX11_kinds 62 = .ok (.getfield 151, 3) := by decide +kernel
theorem dX11_kinds_65 : decode cX11_kinds 65 = .ok (.invokestatic 241, 3) := by decide +kernel
theorem dX11_kinds_68 : decode cX11_kinds 68 = .ok (.aastore, 1) := by decide +kernel
theorem dX11_kinds_69 : decode cX11_kinds 69 = .ok (.iload 8, 2) := by decide +kernel
theorem dX11_kinds_71 : decode cX11_kinds 71 = .ok (.aload_n 0, 1) := by decide +kernel
theorem dX11_kinds_72 : decode cX11_kinds 72 = .ok (.iload 9, 2) := by decide +kernel
theorem dX11_kinds_74 : decode cX11_kinds 74 = .ok (.iload 5, 2) := by decide +kernel
theorem dX11_kinds_76 : decode cX11_kinds 76 = .ok (.invokevirtual 234, 3) := by decide +kernel
theorem dX11_kinds_79 : decode cX11_kinds 79 = .ok (.ior, 1) := by decide +kernel
theorem dX11_kinds_80 : decode cX11_kinds 80 = .ok (.istore 8, 2) := by decide +kernel
theorem dX11_kinds_82 : decode cX11_kinds 82 = .ok (.iinc 9 1, 3) := by decide +kernel
theorem dX11_kinds_85 : decode cX11_kinds 85 = .ok (.goto (-47), 3) := by decide +kernel
theorem dX11_kinds_88 : decode cX11_kinds 88 = .ok (.aload_n 0, 1) := by decide +kernel
theorem dX11_kinds_89 : decode cX11_kinds 89 = .ok (.getfield 65, 3) := by decide +kernel
theorem dX11_kinds_92 : decode cX11_kinds 92 = .ok (.getfield 138, 3) := by decide +kernel
theorem dX11_kinds_95 : decode cX11_kinds 95 = .ok (.iload_n 1, 1) := by decide +kernel
theorem dX11_kinds_96 : decode cX11_kinds 96 = .ok (.aload 7, 2) := by decide +kernel
theorem dX11_kinds_98 : decode cX11_kinds 98 = .ok (.aastore, 1) := by decide +kernel
theorem dX11_kinds_99 : decode cX11_kinds 99 = .ok (.iload 8, 2) := by decide +kernel
theorem dX11_kinds_101 : decode cX11_kinds 101 = .ok (.ireturn, 1) := by decide +kernel
theorem dX11_speeds_0 : decode cX11_speeds 0 = .ok (.aload_n 0, 1) := by decide +kernel
theorem dX11_speeds_1 : decode cX11_speeds 1 = .ok (.iload_n 1, 1) := by decide +kernel
theorem dX11_speeds_2 : decode cX11_speeds 2 = .ok (.iload_n 2, 1) := by decide +kernel
theorem dX11_speeds_3 : decode cX11_speeds 3 = .ok (.iload_n 3, 1) := by decide +kernel
theorem dX11_speeds_4 : decode cX11_speeds 4 = .ok (.iload 4, 2) := by decide +kernel
theorem dX11_speeds_6 : decode cX11_speeds 6 = .ok (.iload 5, 2) := by decide +kernel
theorem dX11_speeds_8 : decode cX11_speeds 8 = .ok (.invokevirtual 237, 3) := by decide +kernel
theorem dX11_speeds_11 : decode cX11_speeds 11 = .ok (.istore 6, 2) := by decide +kernel
theorem dX11_speeds_13 : decode cX11_speeds 13 = .ok (.iload 6, 2) := by decide +kernel
theorem dX11_speeds_15 : decode cX11_speeds 15 = .ok (.ifCond .eq 6, 3) := by decide +kernel
theorem dX11_speeds_18 : decode cX11_speeds 18 = .ok (.iload 6, 2) := by decide +kernel
theorem dX11_speeds_20 : decode cX11_speeds 20 = .ok (.ireturn, 1) := by decide +kernel
theorem dX11_speeds_21 : decode cX11_speeds 21 = .ok (.aload_n 0, 1) := by decide +kernel
theorem dX11_speeds_22 : decode cX11_speeds 22 = .ok (.getfield 65, 3) := by decide +kernel
theorem dX11_speeds_25 : decode cX11_speeds 25 = .ok (.getfield 138, 3) := by decide +kernel
theorem dX11_speeds_28 : decode cX11_speeds 28 = .ok (.iload_n 1, 1) := by decide +kernel
theorem dX11_speeds_29 : decode cX11_speeds 29 = .ok (.aaload, 1) := by decide +kernel
theorem dX11_speeds_30 : decode cX11_speeds 30 = .ok (.astore 7, 2) := by decide +kernel
theorem dX11_speeds_32 : decode cX11_speeds 32 = .ok (.iconst 0, 1) := by decide +kernel
theorem dX11_speeds_33 : decode cX11_speeds 33 = .ok (.istore 8, 2) := by decide +kernel
theorem dX11_speeds_35 : decode cX11_speeds 35 = .ok (.iconst 1, 1) := by decide +kernel
theorem dX11_speeds_36 : decode cX11_speeds 36 = .ok (.istore 9, 2) := by decide +kernel
theorem dX11_speeds_38 : decode cX11_speeds 38 = .ok (.iload 9, 2) := by decide +kernel
theorem dX11_speeds_40 : decode cX11_speeds 40 = .ok (.iconst 3, 1) := by decide +kernel
theorem dX11_speeds_41 : decode cX11_speeds 41 = .ok (.if_icmp .gt 47, 3) := by decide +kernel
theorem dX11_speeds_44 : decode cX11_speeds 44 = .ok (.aload_n 0, 1) := by decide +kernel
theorem dX11_speeds_45 : decode cX11_speeds 45 = .ok (.getfield 65, 3) := by decide +kernel
theorem dX11_speeds_48 : decode cX11_speeds 48 = .ok (.getfield 138, 3) := by decide +kernel
theorem dX11_speeds_51 : decode cX11_speeds 51 = .ok (.iload_n 1, 1) := by decide +kernel
theorem dX11_speeds_52 : decode cX11_speeds 52 = .ok (.aload 7, 2) := by decide +kernel
theorem dX11_speeds_54 : decode cX11_speeds 54 = .ok (.invokevirtual 142, 3) := by decide +kernel
theorem dX11_speeds_57 : decode cX11_speeds 57 = .ok (.iload_n 1, 1) := by decide +kernel
theorem dX11_speeds_58 : decode cX11_speeds 58 = .ok (.aload 7, 2) := by decide +kernel
theorem dX11_speeds_60 : decode cX11_speeds 60 = .ok (.getfield 148, 3) := by decide +kernel
theorem dX11_speeds_63 : decode cX11_speeds 63 = .ok (.iload 9, 2) := by decide +kernel
theorem dX11_speeds_65 : decode cX11_speeds 65 = .ok (.invokestatic 241, 3) := by decide +kernel
theorem dX11_speeds_68 : decode cX11_speeds 68 = .ok (.aastore, 1) := by decide +kernel
theorem dX11_speeds_69 : decode cX11_speeds 69 = .ok (.iload 8, 2) := by decide +kernel
theorem dX11_speeds_71 : decode cX11_speeds 71 = .ok (.aload_n 0, 1) := by decide +kernel
theorem dX11_speeds_72 : decode cX11_speeds 72 = .ok (.iload 9, 2) := by decide +kernel
theorem dX11_speeds_74 : decode cX11_speeds 74 = .ok (.iload 5, 2) := by decide +kernel
theorem dX11_speeds_76 : decode cX11_speeds 76 = .ok (.invokevirtual 234, 3) := by decide +kernel
theorem dX11_speeds_79 : decode cX11_speeds 79 = .ok (.ior, 1) := by decide +kernel
theorem dX11_speeds_80 : decode cX11_speeds 80 = .ok (.istore 8, 2) := by decide +kernel
theorem dX11_speeds_82 : decode cX11_speeds 82 = .ok (.iinc 9 1, 3) := by decide +kernel
theorem dX11_speeds_85 : decode cX11_speeds 85 = .ok (.goto (-47), 3) := by decide +kernel
theorem dX11_speeds_88 : decode cX11_speeds 88 = .ok (.aload_n 0, 1) := by decide +kernel
theorem dX11_speeds_89 : decode cX11_speeds 89 = .ok (.getfield 65, 3) := by decide +kernel
theorem dX11_speeds_92 : decode cX11_speeds 92 = .ok (.getfield 138, 3) := by decide +kernel
theorem dX11_speeds_95 : decode cX11_speeds 95 = .ok (.iload_n 1, 1) := by decide +kernel
theorem dX11_speeds_96 : decode cX11_speeds 96 = .ok (.aload 7, 2) := by decide +kernel
theorem dX11_speeds_98 : decode cX11_speeds 98 = .ok (.aastore, 1) := by decide +kernel
theorem dX11_speeds_99 : decode cX11_speeds 99 = .ok (.iload 8, 2) := by decide +kernel
theorem dX11_speeds_101 : decode cX11_speeds 101 = .ok (.ireturn, 1) := by decide +kernel
theorem dX11_refusalOfBoatPlan_0 : decode cX11_refusalOfBoatPlan 0 = .ok (.aload_n 0, 1) := by decide +kernel
theorem dX11_refusalOfBoatPlan_1 : decode cX11_refusalOfBoatPlan 1 = .ok (.iconst 0, 1) := by decide +kernel
theorem dX11_refusalOfBoatPlan_2 : decode cX11_refusalOfBoatPlan 2 = .ok (.putfield 72, 3) := by decide +kernel
theorem dX11_refusalOfBoatPlan_5 : decode cX11_refusalOfBoatPlan 5 = .ok (.aload_n 0, 1) := by decide +kernel
theorem dX11_refusalOfBoatPlan_6 : decode cX11_refusalOfBoatPlan 6 = .ok (.iload_n 1, 1) := by decide +kernel
theorem dX11_refusalOfBoatPlan_7 : decode cX11_refusalOfBoatPlan 7 = .ok (.invokevirtual 135, 3) := by decide +kernel
theorem dX11_refusalOfBoatPlan_10 : decode cX11_refusalOfBoatPlan 10 = .ok (.ifCond .ne 5, 3) := by decide +kernel
theorem dX11_refusalOfBoatPlan_13 : decode cX11_refusalOfBoatPlan 13 = .ok (.iconst (-1), 1) := by decide +kernel
theorem dX11_refusalOfBoatPlan_14 : decode cX11_refusalOfBoatPlan 14 = .ok (.ireturn, 1) := by decide +kernel
theorem dX11_refusalOfBoatPlan_15 : decode cX11_refusalOfBoatPlan 15 = .ok (.aload_n 0, 1) := by decide +kernel
theorem dX11_refusalOfBoatPlan_16 : decode cX11_refusalOfBoatPlan 16 = .ok (.iload_n 2, 1) := by decide +kernel
theorem dX11_refusalOfBoatPlan_17 : decode cX11_refusalOfBoatPlan 17 = .ok (.iload_n 3, 1) := by decide +kernel
theorem dX11_refusalOfBoatPlan_18 : decode cX11_refusalOfBoatPlan 18 = .ok (.iload 5, 2) := by decide +kernel
theorem dX11_refusalOfBoatPlan_20 : decode cX11_refusalOfBoatPlan 20 = .ok (.invokevirtual 176, 3) := by decide +kernel
theorem dX11_refusalOfBoatPlan_23 : decode cX11_refusalOfBoatPlan 23 = .ok (.istore 6, 2) := by decide +kernel
theorem dX11_refusalOfBoatPlan_25 : decode cX11_refusalOfBoatPlan 25 = .ok (.iload 6, 2) := by decide +kernel
theorem dX11_refusalOfBoatPlan_27 : decode cX11_refusalOfBoatPlan 27 = .ok (.ifCond .eq 8, 3) := by decide +kernel
theorem dX11_refusalOfBoatPlan_30 : decode cX11_refusalOfBoatPlan 30 = .ok (.iload 6, 2) := by decide +kernel
theorem dX11_refusalOfBoatPlan_32 : decode cX11_refusalOfBoatPlan 32 = .ok (.goto 13, 3) := by decide +kernel
theorem dX11_refusalOfBoatPlan_35 : decode cX11_refusalOfBoatPlan 35 = .ok (.aload_n 0, 1) := by decide +kernel
theorem dX11_refusalOfBoatPlan_36 : decode cX11_refusalOfBoatPlan 36 = .ok (.iload_n 2, 1) := by decide +kernel
theorem dX11_refusalOfBoatPlan_37 : decode cX11_refusalOfBoatPlan 37 = .ok (.iload_n 3, 1) := by decide +kernel
theorem dX11_refusalOfBoatPlan_38 : decode cX11_refusalOfBoatPlan 38 = .ok (.iload 4, 2) := by decide +kernel
theorem dX11_refusalOfBoatPlan_40 : decode cX11_refusalOfBoatPlan 40 = .ok (.iload 5, 2) := by decide +kernel
theorem dX11_refusalOfBoatPlan_42 : decode cX11_refusalOfBoatPlan 42 = .ok (.invokevirtual 183, 3) := by decide +kernel
theorem dX11_refusalOfBoatPlan_45 : decode cX11_refusalOfBoatPlan 45 = .ok (.ireturn, 1) := by decide +kernel
theorem dX11_bitIfAsRead_0 : decode cX11_bitIfAsRead 0 = .ok (.aload_n 0, 1) := by decide +kernel
theorem dX11_bitIfAsRead_1 : decode cX11_bitIfAsRead 1 = .ok (.getfield 27, 3) := by decide +kernel
theorem dX11_bitIfAsRead_4 : decode cX11_bitIfAsRead 4 = .ok (.iload_n 2, 1) := by decide +kernel
theorem dX11_bitIfAsRead_5 : decode cX11_bitIfAsRead 5 = .ok (.invokevirtual 245, 3) := by decide +kernel
theorem dX11_bitIfAsRead_8 : decode cX11_bitIfAsRead 8 = .ok (.ifCond .ne 5, 3) := by decide +kernel
theorem dX11_bitIfAsRead_11 : decode cX11_bitIfAsRead 11 = .ok (.iconst 0, 1) := by decide +kernel
theorem dX11_bitIfAsRead_12 : decode cX11_bitIfAsRead 12 = .ok (.ireturn, 1) := by decide +kernel
theorem dX11_bitIfAsRead_13 : decode cX11_bitIfAsRead 13 = .ok (.aload_n 0, 1) := by decide +kernel
theorem dX11_bitIfAsRead_14 : decode cX11_bitIfAsRead 14 = .ok (.getfield 34, 3) := by decide +kernel
theorem dX11_bitIfAsRead_17 : decode cX11_bitIfAsRead 17 = .ok (.aload_n 0, 1) := by decide +kernel
theorem dX11_bitIfAsRead_18 : decode cX11_bitIfAsRead 18 = .ok (.getfield 65, 3) := by decide +kernel
theorem dX11_bitIfAsRead_21 : decode cX11_bitIfAsRead 21 = .ok (.invokevirtual 248, 3) := by decide +kernel
theorem dX11_bitIfAsRead_24 : decode cX11_bitIfAsRead 24 = .ok (.iconst 0, 1) := by decide +kernel
theorem dX11_bitIfAsRead_25 : decode cX11_bitIfAsRead 25 = .ok (.istore_n 3, 1) := by decide +kernel
theorem dX11_bitIfAsRead_26 : decode cX11_bitIfAsRead 26 = .ok (.iload_n 3, 1) := by decide +kernel
theorem dX11_bitIfAsRead_27 : decode cX11_bitIfAsRead 27 = .ok (.iload_n 2, 1) := by decide +kernel
theorem dX11_bitIfAsRead_28 : decode cX11_bitIfAsRead 28 = .ok (.if_icmp .ge 56, 3) := by decide +kernel
theorem dX11_bitIfAsRead_31 : decode cX11_bitIfAsRead 31 = .ok (.aload_n 0, 1) := by decide +kernel
theorem dX11_bitIfAsRead_32 : decode cX11_bitIfAsRead 32 = .ok (.getfield 34, 3) := by decide +kernel
theorem dX11_bitIfAsRead_35 : decode cX11_bitIfAsRead 35 = .ok (.aload_n 0, 1) := by decide +kernel
theorem dX11_bitIfAsRead_36 : decode cX11_bitIfAsRead 36 = .ok (.getfield 65, 3) := by decide +kernel
theorem dX11_bitIfAsRead_39 : decode cX11_bitIfAsRead 39 = .ok (.aload_n 0, 1) := by decide +kernel
theorem dX11_bitIfAsRead_40 : decode cX11_bitIfAsRead 40 = .ok (.getfield 52, 3) := by decide +kernel
theorem dX11_bitIfAsRead_43 : decode cX11_bitIfAsRead 43 = .ok (.iload_n 3, 1) := by decide +kernel
theorem dX11_bitIfAsRead_44 : decode cX11_bitIfAsRead 44 = .ok (.iaload, 1) := by decide +kernel
theorem dX11_bitIfAsRead_45 : decode cX11_bitIfAsRead 45 = .ok (.aload_n 0, 1) := by decide +kernel
theorem dX11_bitIfAsRead_46 : decode cX11_bitIfAsRead 46 = .ok (.getfield 65, 3) := by decide +kernel
theorem dX11_bitIfAsRead_49 : decode cX11_bitIfAsRead 49 = .ok (.getfield 164, 3) := by decide +kernel
theorem dX11_bitIfAsRead_52 : decode cX11_bitIfAsRead 52 = .ok (.iload_n 3, 1) := by decide +kernel
theorem dX11_bitIfAsRead_53 : decode cX11_bitIfAsRead 53 = .ok (.iaload, 1) := by decide +kernel
theorem dX11_bitIfAsRead_54 : decode cX11_bitIfAsRead 54 = .ok (.invokevirtual 251, 3) := by decide +kernel
theorem dX11_bitIfAsRead_57 : decode cX11_bitIfAsRead 57 = .ok (.pop, 1) := by decide +kernel
theorem dX11_bitIfAsRead_58 : decode cX11_bitIfAsRead 58 = .ok (.aload_n 0, 1) := by decide +kernel
theorem dX11_bitIfAsRead_59 : decode cX11_bitIfAsRead 59 = .ok (.getfield 27, 3) := by decide +kernel
theorem dX11_bitIfAsRead_62 : decode cX11_bitIfAsRead 62 = .ok (.iload_n 3, 1) := by decide +kernel
theorem dX11_bitIfAsRead_63 : decode cX11_bitIfAsRead 63 = .ok (.aload_n 0, 1) := by decide +kernel
theorem dX11_bitIfAsRead_64 : decode cX11_bitIfAsRead 64 = .ok (.getfield 34, 3) := by decide +kernel
theorem dX11_bitIfAsRead_67 : decode cX11_bitIfAsRead 67 = .ok (.getfield 207, 3) := by decide +kernel
theorem dX11_bitIfAsRead_70 : decode cX11_bitIfAsRead 70 = .ok (.invokevirtual 254, 3) := by decide +kernel
theorem dX11_bitIfAsRead_73 : decode cX11_bitIfAsRead 73 = .ok (.ifCond .ne 5, 3) := by decide +kernel
theorem dX11_bitIfAsRead_76 : decode cX11_bitIfAsRead 76 = .ok (.iconst 0, 1) := by decide +kernel
theorem dX11_bitIfAsRead_77 : decode cX11_bitIfAsRead 77 = .ok (.ireturn, 1) := by decide +kernel
theorem dX11_bitIfAsRead_78 : decode cX11_bitIfAsRead 78 = .ok (.iinc 3 1, 3) := by decide +kernel
theorem dX11_bitIfAsRead_81 : decode cX11_bitIfAsRead 81 = .ok (.goto (-55), 3) := by decide +kernel
theorem dX11_bitIfAsRead_84 : decode cX11_bitIfAsRead 84 = .ok (.iconst 1, 1) := by decide +kernel
theorem dX11_bitIfAsRead_85 : decode cX11_bitIfAsRead 85 = .ok (.iload_n 1, 1) := by decide +kernel
theorem dX11_bitIfAsRead_86 : decode cX11_bitIfAsRead 86 = .ok (.ishl, 1) := by decide +kernel
theorem dX11_bitIfAsRead_87 : decode cX11_bitIfAsRead 87 = .ok (.ireturn, 1) := by decide +kernel
theorem dX11_odds_0 : decode cX11_odds 0 = .ok (.aload_n 0, 1) := by decide +kernel
theorem dX11_odds_1 : decode cX11_odds 1 = .ok (.iconst 0, 1) := by decide +kernel
theorem dX11_odds_2 : decode cX11_odds 2 = .ok (.putfield 72, 3) := by decide +kernel
theorem dX11_odds_5 : decode cX11_odds 5 = .ok (.aload_n 0, 1) := by decide +kernel
theorem dX11_odds_6 : decode cX11_odds 6 = .ok (.iload_n 1, 1) := by decide +kernel
theorem dX11_odds_7 : decode cX11_odds 7 = .ok (.iload_n 2, 1) := by decide +kernel
theorem dX11_odds_8 : decode cX11_odds 8 = .ok (.iload 4, 2) := by decide +kernel
theorem dX11_odds_10 : decode cX11_odds 10 = .ok (.invokevirtual 176, 3) := by decide +kernel
theorem dX11_odds_13 : decode cX11_odds 13 = .ok (.ifCond .ne 14, 3) := by decide +kernel
theorem dX11_odds_16 : decode cX11_odds 16 = .ok (.iload 5, 2) := by decide +kernel
theorem dX11_odds_18 : decode cX11_odds 18 = .ok (.ifCond .lt 9, 3) := by decide +kernel
theorem dX11_odds_21 : decode cX11_odds 21 = .ok (.iload 5, 2) := by decide +kernel
theorem dX11_odds_23 : decode cX11_odds 23 = .ok (.iconst 1, 1) := by decide +kernel
theorem dX11_odds_24 : decode cX11_odds 24 = .ok (.if_icmp .le 7, 3) := by decide +kernel
theorem dX11_odds_27 : decode cX11_odds 27 = .ok (.ldc2_w 258, 3) := by decide +kernel
theorem dX11_odds_30 : decode cX11_odds 30 = .ok (.lreturn, 1) := by decide +kernel
theorem dX11_odds_31 : decode cX11_odds 31 = .ok (.aload_n 0, 1) := by decide +kernel
theorem dX11_odds_32 : decode cX11_odds 32 = .ok (.iload_n 1, 1) := by decide +kernel
theorem dX11_odds_33 : decode cX11_odds 33 = .ok (.iload_n 2, 1) := by decide +kernel
theorem dX11_odds_34 : decode cX11_odds 34 = .ok (.iload_n 3, 1) := by decide +kernel
theorem dX11_odds_35 : decode cX11_odds 35 = .ok (.iload 4, 2) := by decide +kernel
theorem dX11_odds_37 : decode cX11_odds 37 = .ok (.invokevirtual 183, 3) := by decide +kernel
theorem dX11_odds_40 : decode cX11_odds 40 = .ok (.ifCond .eq 7, 3) := by decide +kernel
theorem dX11_odds_43 : decode cX11_odds 43 = .ok (.ldc2_w 258, 3) := by decide +kernel
theorem dX11_odds_46 : decode cX11_odds 46 = .ok (.lreturn, 1) := by decide +kernel
theorem dX11_odds_47 : decode cX11_odds 47 = .ok (.aload_n 0, 1) := by decide +kernel
theorem dX11_odds_48 : decode cX11_odds 48 = .ok (.iload 4, 2) := by decide +kernel
theorem dX11_odds_50 : decode cX11_odds 50 = .ok (.invokevirtual 260, 3) := by decide +kernel
theorem dX11_odds_53 : decode cX11_odds 53 = .ok (.istore 6, 2) := by decide +kernel
theorem dX11_odds_55 : decode cX11_odds 55 = .ok (.iconst 1, 1) := by decide +kernel
theorem dX11_odds_56 : decode cX11_odds 56 = .ok (.iload 4, 2) := by decide +kernel
theorem dX11_odds_58 : decode cX11_odds 58 = .ok (.ishl, 1) := by decide +kernel
theorem dX11_odds_59 : decode cX11_odds 59 = .ok (.istore 7, 2) := by decide +kernel
theorem dX11_odds_61 : decode cX11_odds 61 = .ok (.iconst 0, 1) := by decide +kernel
theorem dX11_odds_62 : decode cX11_odds 62 = .ok (.istore 8, 2) := by decide +kernel
theorem dX11_odds_64 : decode cX11_odds 64 = .ok (.iload 8, 2) := by decide +kernel
theorem dX11_odds_66 : decode cX11_odds 66 = .ok (.iload 4, 2) := by decide +kernel
theorem dX11_odds_68 : decode cX11_odds 68 = .ok (.if_icmp .ge 28, 3) := by decide +kernel
theorem dX11_odds_71 : decode cX11_odds 71 = .ok (.iload 6, 2) := by decide +kernel
theorem dX11_odds_73 : decode cX11_odds 73 = .ok (.iconst 2, 1) := by decide +kernel
theorem dX11_odds_74 : decode cX11_odds 74 = .ok (.irem, 1) := by decide +kernel
theorem dX11_odds_75 : decode cX11_odds 75 = .ok (.ifCond .ne 15, 3) := by decide +kernel
theorem dX11_odds_78 : decode cX11_odds 78 = .ok (.iload 6, 2) := by decide +kernel
theorem dX11_odds_80 : decode cX11_odds 80 = .ok (.iconst 2, 1) := by decide +kernel
theorem dX11_odds_81 : decode cX11_odds 81 = .ok (.idiv, 1) := by decide +kernel
theorem dX11_odds_82 : decode cX11_odds 82 = .ok (.istore 6, 2) := by decide +kernel
theorem dX11_odds_84 : decode cX11_odds 84 = .ok (.iload 7, 2) := by decide +kernel
theorem dX11_odds_86 : decode cX11_odds 86 = .ok (.iconst 2, 1) := by decide +kernel
theorem dX11_odds_87 : decode cX11_odds 87 = .ok (.idiv, 1) := by decide +kernel
theorem dX11_odds_88 : decode cX11_odds 88 = .ok (.istore 7, 2) := by decide +kernel
theorem dX11_odds_90 : decode cX11_odds 90 = .ok (.iinc 8 1, 3) := by decide +kernel
theorem dX11_odds_93 : decode cX11_odds 93 = .ok (.goto (-29), 3) := by decide +kernel
theorem dX11_odds_96 : decode cX11_odds 96 = .ok (.iload 5, 2) := by decide +kernel
theorem dX11_odds_98 : decode cX11_odds 98 = .ok (.ifCond .ne 9, 3) := by decide +kernel
theorem dX11_odds_101 : decode cX11_odds 101 = .ok (.iload 6, 2) := by decide +kernel
theorem dX11_odds_103 : decode cX11_odds 103 = .ok (.i2l, 1) := by decide +kernel
theorem dX11_odds_104 : decode cX11_odds 104 = .ok (.goto 6, 3) := by decide +kernel
theorem dX11_odds_107 : decode cX11_odds 107 = .ok (.iload 7, 2) := by decide +kernel
theorem dX11_odds_109 : decode cX11_odds 109 = .ok (.i2l, 1) := by decide +kernel
theorem dX11_odds_110 : decode cX11_odds 110 = .ok (.lreturn, 1) := by decide +kernel
theorem dX11_waysWithoutFine_0 : decode cX11_waysWithoutFine 0 = .ok (.aload_n 0, 1) := by decide +kernel
theorem dX11_waysWithoutFine_1 : decode cX11_waysWithoutFine 1 = .ok (.getfield 65, 3) := by decide +kernel
theorem dX11_waysWithoutFine_4 : decode cX11_waysWithoutFine 4 = .ok (.invokevirtual 263, 3) := by decide +kernel
theorem dX11_waysWithoutFine_7 : decode cX11_waysWithoutFine 7 = .ok (.istore_n 2, 1) := by decide +kernel
theorem dX11_waysWithoutFine_8 : decode cX11_waysWithoutFine 8 = .ok (.aload_n 0, 1) := by decide +kernel
theorem dX11_waysWithoutFine_9 : decode cX11_waysWithoutFine 9 = .ok (.getfield 56, 3) := by decide +kernel
theorem dX11_waysWithoutFine_12 : decode cX11_waysWithoutFine 12 = .ok (.iconst 0, 1) := by decide +kernel
theorem dX11_waysWithoutFine_13 : decode cX11_waysWithoutFine 13 = .ok (.invokestatic 266, 3) := by decide +kernel
theorem dX11_waysWithoutFine_16 : decode cX11_waysWithoutFine 16 = .ok (.aload_n 0, 1) := by decide +kernel
theorem dX11_waysWithoutFine_17 : decode cX11_waysWithoutFine 17 = .ok (.getfield 34, 3) := by decide +kernel
theorem dX11_waysWithoutFine_20 : decode cX11_waysWithoutFine 20 = .ok (.aload_n 0, 1) := by decide +kernel
theorem dX11_waysWithoutFine_21 : decode cX11_waysWithoutFine 21 = .ok (.getfield 65, 3) := by decide +kernel
theorem dX11_waysWithoutFine_24 : decode cX11_waysWithoutFine 24 = .ok (.invokevirtual 248, 3) := by decide +kernel
theorem dX11_waysWithoutFine_27 : decode cX11_waysWithoutFine 27 = .ok (.aload_n 0, 1) := by decide +kernel
theorem dX11_waysWithoutFine_28 : decode cX11_waysWithoutFine 28 = .ok (.getfield 56, 3) := by decide +kernel
theorem dX11_waysWithoutFine_31 : decode cX11_waysWithoutFine 31 = .ok (.aload_n 0, 1) := by decide +kernel
theorem dX11_waysWithoutFine_32 : decode cX11_waysWithoutFine 32 = .ok (.getfield 34, 3) := by decide +kernel
theorem dX11_waysWithoutFine_35 : decode cX11_waysWithoutFine 35 = .ok (.aload_n 0, 1) := by decide +kernel
theorem dX11_waysWithoutFine_36 : decode cX11_waysWithoutFine 36 = .ok (.getfield 65, 3) := by decide +kernel
theorem dX11_waysWithoutFine_39 : decode cX11_waysWithoutFine 39 = .ok (.invokevirtual 272, 3) := by decide +kernel
theorem dX11_waysWithoutFine_42 : decode cX11_waysWithoutFine 42 = .ok (.iconst 1, 1) := by decide +kernel
theorem dX11_waysWithoutFine_43 : decode cX11_waysWithoutFine 43 = .ok (.iastore, 1) := by decide +kernel
theorem dX11_waysWithoutFine_44 : decode cX11_waysWithoutFine 44 = .ok (.iconst 0, 1) := by decide +kernel
theorem dX11_waysWithoutFine_45 : decode cX11_waysWithoutFine 45 = .ok (.istore_n 3, 1) := by decide +kernel
theorem dX11_waysWithoutFine_46 : decode cX11_waysWithoutFine 46 = .ok (.iload_n 3, 1) := by decide +kernel
theorem dX11_waysWithoutFine_47 : decode cX11_waysWithoutFine 47 = .ok (.iload_n 1, 1) := by decide +kernel
theorem dX11_waysWithoutFine_48 : decode cX11_waysWithoutFine 48 = .ok (.if_icmp .ge 74, 3) := by decide +kernel
theorem dX11_waysWithoutFine_51 : decode cX11_waysWithoutFine 51 = .ok (.aload_n 0, 1) := by decide +kernel
theorem dX11_waysWithoutFine_52 : decode cX11_waysWithoutFine 52 = .ok (.getfield 59, 3) := by decide +kernel
theorem dX11_waysWithoutFine_55 : decode cX11_waysWithoutFine 55 = .ok (.iconst 0, 1) := by decide +kernel
theorem dX11_waysWithoutFine_56 : decode cX11_waysWithoutFine 56 = .ok (.invokestatic 266, 3) := by decide +kernel
theorem dX11_waysWithoutFine_59 : decode cX11_waysWithoutFine 59 = .ok (.iconst 0, 1) := by decide +kernel
theorem dX11_waysWithoutFine_60 : decode cX11_waysWithoutFine 60 = .ok (.istore 4, 2) := by decide +kernel
theorem dX11_waysWithoutFine_62 : decode cX11_waysWithoutFine 62 = .ok (.iload 4, 2) := by decide +kernel
theorem dX11_waysWithoutFine_64 : decode cX11_waysWithoutFine 64 = .ok (.iload_n 2, 1) := by decide +kernel
theorem dX11_waysWithoutFine_65 : decode cX11_waysWithoutFine 65 = .ok (.if_icmp .ge 31, 3) := by decide +kernel
theorem dX11_waysWithoutFine_68 : decode cX11_waysWithoutFine 68 = .ok (.aload_n 0, 1) := by decide +kernel
theorem dX11_waysWithoutFine_69 : decode cX11_waysWithoutFine 69 = .ok (.getfield 56, 3) := by decide +kernel
theorem dX11_waysWithoutFine_72 : decode cX11_waysWithoutFine 72 = .ok (.iload 4, 2) := by decide +kernel
theorem dX11_waysWithoutFine_74 : decode cX11_waysWithoutFine 74 = .ok (.iaload, 1) := by decide +kernel
theorem dX11_waysWithoutFine_75 : decode cX11_waysWithoutFine 75 = .ok (.ifCond .le 15, 3) := by decide +kernel
theorem dX11_waysWithoutFine_78 : decode cX11_waysWithoutFine 78 = .ok (.aload_n 0, 1) := by decide +kernel
theorem dX11_waysWithoutFine_79 : decode cX11_waysWithoutFine 79 = .ok (.iload 4, 2) := by decide +kernel
theorem dX11_waysWithoutFine_81 : decode cX11_waysWithoutFine 81 = .ok (.aload_n 0, 1) := by decide +kernel
theorem dX11_waysWithoutFine_82 : decode cX11_waysWithoutFine 82 = .ok (.getfield 52, 3) := by decide +kernel
theorem dX11_waysWithoutFine_85 : decode cX11_waysWithoutFine 85 = .ok (.iload_n 3, 1) := by decide +kernel
theorem dX11_waysWithoutFine_86 : decode cX11_waysWithoutFine 86 = .ok (.iaload, 1) := by decide +kernel
theorem dX11_waysWithoutFine_87 : decode cX11_waysWithoutFine 87 = .ok (.invokevirtual 275, 3) := by decide +kernel
theorem dX11_waysWithoutFine_90 : decode cX11_waysWithoutFine 90 = .ok (.iinc 4 1, 3) := by decide +kernel
theorem dX11_waysWithoutFine_93 : decode cX11_waysWithoutFine 93 = .ok (.goto (-31), 3) := by decide +kernel
theorem dX11_waysWithoutFine_96 : decode cX11_waysWithoutFine 96 = .ok (.aload_n 0, 1) := by decide +kernel
theorem dX11_waysWithoutFine_97 : decode cX11_waysWithoutFine 97 = .ok (.getfield 56, 3) := by decide +kernel
theorem dX11_waysWithoutFine_100 : decode cX11_waysWithoutFine 100 = .ok (.astore 4, 2) := by decide +kernel
theorem dX11_waysWithoutFine_102 : decode cX11_waysWithoutFine 102 = .ok (.aload_n 0, 1) := by decide +kernel
theorem dX11_waysWithoutFine_103 : decode cX11_waysWithoutFine 103 = .ok (.aload_n 0, 1) := by decide +kernel
theorem dX11_waysWithoutFine_104 : decode cX11_waysWithoutFine 104 = .ok (.getfield 59, 3) := by decide +kernel
theorem dX11_waysWithoutFine_107 : decode cX11_waysWithoutFine 107 = .ok (.putfield 56, 3) := by decide +kernel
theorem dX11_waysWithoutFine_110 : decode cX11_waysWithoutFine 110 = .ok (.aload_n 0, 1) := by decide +kernel
theorem dX11_waysWithoutFine_111 : decode cX11_waysWithoutFine 111 = .ok (.aload 4, 2) := by decide +kernel
theorem dX11_waysWithoutFine_113 : decode cX11_waysWithoutFine 113 = .ok (.putfield 59, 3) := by decide +kernel
theorem dX11_waysWithoutFine_116 : decode cX11_waysWithoutFine 116 = .ok (.iinc 3 1, 3) := by decide +kernel
theorem dX11_waysWithoutFine_119 : decode cX11_waysWithoutFine 119 = .ok (.goto (-73), 3) := by decide +kernel
theorem dX11_waysWithoutFine_122 : decode cX11_waysWithoutFine 122 = .ok (.iconst 0, 1) := by decide +kernel
theorem dX11_waysWithoutFine_123 : decode cX11_waysWithoutFine 123 = .ok (.istore_n 3, 1) := by decide +kernel
theorem dX11_waysWithoutFine_124 : decode cX11_waysWithoutFine 124 = .ok (.iconst 0, 1) := by decide +kernel
theorem dX11_waysWithoutFine_125 : decode cX11_waysWithoutFine 125 = .ok (.istore 4, 2) := by decide +kernel
theorem dX11_waysWithoutFine_127 : decode cX11_waysWithoutFine 127 = .ok (.iload 4, 2) := by decide +kernel
theorem dX11_waysWithoutFine_129 : decode cX11_waysWithoutFine 129 = .ok (.iload_n 2, 1) := by decide +kernel
theorem dX11_waysWithoutFine_130 : decode cX11_waysWithoutFine 130 = .ok (.if_icmp .ge 19, 3) := by decide +kernel
theorem dX11_waysWithoutFine_133 : decode cX11_waysWithoutFine 133 = .ok (.iload_n 3, 1) := by decide +kernel
theorem dX11_waysWithoutFine_134 : decode cX11_waysWithoutFine 134 = .ok (.aload_n 0, 1) := by decide +kernel
theorem dX11_waysWithoutFine_135 : decode cX11_waysWithoutFine 135 = .ok (.getfield 56, 3) := by decide +kernel
theorem dX11_waysWithoutFine_138 : decode cX11_waysWithoutFine 138 = .ok (.iload 4, 2) := by decide +kernel
theorem dX11_waysWithoutFine_140 : decode cX11_waysWithoutFine 140 = .ok (.iaload, 1) := by decide +kernel
theorem dX11_waysWithoutFine_141 : decode cX11_waysWithoutFine 141 = .ok (.iadd, 1) := by decide +kernel
theorem dX11_waysWithoutFine_142 : decode cX11_waysWithoutFine 142 = .ok (.istore_n 3, 1) := by decide +kernel
theorem dX11_waysWithoutFine_143 : decode cX11_waysWithoutFine 143 = .ok (.iinc 4 1, 3) := by decide +kernel
theorem dX11_waysWithoutFine_146 : decode cX11_waysWithoutFine 146 = .ok (.goto (-19), 3) := by decide +kernel
theorem dX11_waysWithoutFine_149 : decode cX11_waysWithoutFine 149 = .ok (.iload_n 3, 1) := by decide +kernel
theorem dX11_waysWithoutFine_150 : decode cX11_waysWithoutFine 150 = .ok (.ireturn, 1) := by decide +kernel
theorem dX11_sailByChance_0 : decode cX11_sailByChance 0 = .ok (.iconst 1, 1) := by decide +kernel
theorem dX11_sailByChance_1 : decode cX11_sailByChance 1 = .ok (.istore_n 3, 1) := by decide +kernel
theorem dX11_sailByChance_2 : decode cX11_sailByChance 2 = .ok (.iload_n 3, 1) := by decide +kernel
theorem dX11_sailByChance_3 : decode cX11_sailByChance 3 = .ok (.iconst 2, 1) := by decide +kernel
theorem dX11_sailByChance_4 : decode cX11_sailByChance 4 = .ok (.if_icmp .gt 62, 3) := by decide +kernel
theorem dX11_sailByChance_7 : decode cX11_sailByChance 7 = .ok (.aload_n 0, 1) := by decide +kernel
theorem dX11_sailByChance_8 : decode cX11_sailByChance 8 = .ok (.getfield 34, 3) := by decide +kernel
theorem dX11_sailByChance_11 : decode cX11_sailByChance 11 = .ok (.aload_n 0, 1) := by decide +kernel
theorem dX11_sailByChance_12 : decode cX11_sailByChance 12 = .ok (.getfield 65, 3) := by decide +kernel
theorem dX11_sailByChance_15 : decode cX11_sailByChance 15 = .ok (.iload_n 1, 1) := by decide +kernel
theorem dX11_sailByChance_16 : decode cX11_sailByChance 16 = .ok (.invokevirtual 279, 3) := by decide +kernel
theorem dX11_sailByChance_19 : decode cX11_sailByChance 19 = .ok (.aload_n 0, 1) := by decide +kernel
theorem dX11_sailByChance_20 : decode cX11_sailByChance 20 = .ok (.getfield 34, 3) := by decide +kernel
theorem dX11_sailByChance_23 : decode cX11_sailByChance 23 = .ok (.aload_n 0, 1) := by decide +kernel
theorem dX11_sailByChance_24 : decode cX11_sailByChance 24 = .ok (.getfield 65, 3) := by decide +kernel
theorem dX11_sailByChance_27 : decode cX11_sailByChance 27 = .ok (.iload_n 2, 1) := by decide +kernel
theorem dX11_sailByChance_28 : decode cX11_sailByChance 28 = .ok (.iload_n 3, 1) := by decide +kernel
theorem dX11_sailByChance_29 : decode cX11_sailByChance 29 = .ok (.invokevirtual 251, 3) := by decide +kernel
theorem dX11_sailByChance_32 : decode cX11_sailByChance 32 = .ok (.ifCond .ne 28, 3) := by decide +kernel
theorem dX11_sailByChance_35 : decode cX11_sailByChance 35 = .ok (.aload_n 0, 1) := by decide +kernel
theorem dX11_sailByChance_36 : decode cX11_sailByChance 36 = .ok (.getfield 59, 3) := by decide +kernel
theorem dX11_sailByChance_39 : decode cX11_sailByChance 39 = .ok (.aload_n 0, 1) := by decide +kernel
theorem dX11_sailByChance_40 : decode cX11_sailByChance 40 = .ok (.getfield 34, 3) := by decide +kernel
theorem dX11_sailByChance_43 : decode cX11_sailByChance 43 = .ok (.aload_n 0, 1) := by decide +kernel
theorem dX11_sailByChance_44 : decode cX11_sailByChance 44 = .ok (.getfield 65, 3) := by decide +kernel
theorem dX11_sailByChance_47 : decode cX11_sailByChance 47 = .ok (.invokevirtual 272, 3) := by decide +kernel
theorem dX11_sailByChance_50 : decode cX11_sailByChance 50 = .ok (.dup2, 1) := by decide +kernel
theorem dX11_sailByChance_51 : decode cX11_sailByChance 51 = .ok (.iaload, 1) := by decide +kernel
theorem dX11_sailByChance_52 : decode cX11_sailByChance 52 = .ok (.aload_n 0, 1) := by decide +kernel
theorem dX11_sailByChance_53 : decode cX11_sailByChance 53 = .ok (.getfield 56, 3) := by decide +kernel
theorem dX11_sailByChance_56 : decode cX11_sailByChance 56 = .ok (.iload_n 1, 1) := by decide +kernel
theorem dX11_sailByChance_57 : decode cX11_sailByChance 57 = .ok (.iaload, 1) := by decide +kernel
theorem dX11_sailByChance_58 : decode cX11_sailByChance 58 = .ok (.iadd, 1) := by decide +kernel
theorem dX11_sailByChance_59 : decode cX11_sailByChance 59 = .ok (.iastore, 1) := by decide +kernel
theorem dX11_sailByChance_60 : decode cX11_sailByChance 60 = .ok (.iinc 3 1, 3) := by decide +kernel
theorem dX11_sailByChance_63 : decode cX11_sailByChance 63 = .ok (.goto (-61), 3) := by decide +kernel
theorem dX11_sailByChance_66 : decode cX11_sailByChance 66 = .ok (.return_, 1) := by decide +kernel
theorem dX11_sheet_0 : decode cX11_sheet 0 = .ok (.aload_n 0, 1) := by decide +kernel
theorem dX11_sheet_1 : decode cX11_sheet 1 = .ok (.iconst 0, 1) := by decide +kernel
theorem dX11_sheet_2 : decode cX11_sheet 2 = .ok (.putfield 72, 3) := by decide +kernel
theorem dX11_sheet_5 : decode cX11_sheet 5 = .ok (.iload_n 1, 1) := by decide +kernel
theorem dX11_sheet_6 : decode cX11_sheet 6 = .ok (.invokestatic 77, 3) := by decide +kernel
theorem dX11_sheet_9 : decode cX11_sheet 9 = .ok (.ifCond .ne 5, 3) := by decide +kernel
theorem dX11_sheet_12 : decode cX11_sheet 12 = .ok (.iconst (-1), 1) := by decide +kernel
theorem dX11_sheet_13 : decode cX11_sheet 13 = .ok (.ireturn, 1) := by decide +kernel
theorem dX11_sheet_14 : decode cX11_sheet 14 = .ok (.iload_n 2, 1) := by decide +kernel
theorem dX11_sheet_15 : decode cX11_sheet 15 = .ok (.invokestatic 81, 3) := by decide +kernel
theorem dX11_sheet_18 : decode cX11_sheet 18 = .ok (.ifCond .eq 9, 3) := by decide +kernel
theorem dX11_sheet_21 : decode cX11_sheet 21 = .ok (.iload_n 3, 1) := by decide +kernel
theorem dX11_sheet_22 : decode cX11_sheet 22 = .ok (.bipush 60, 2) := by decide +kernel
theorem dX11_sheet_24 : decode cX11_sheet 24 = .ok (.if_icmp .le 6, 3) := by decide +kernel
theorem dX11_sheet_27 : decode cX11_sheet 27 = .ok (.bipush (-2), 2) := by decide +kernel
theorem dX11_sheet_29 : decode cX11_sheet 29 = .ok (.ireturn, 1) := by decide +kernel
theorem dX11_sheet_30 : decode cX11_sheet 30 = .ok (.iload_n 3, 1) := by decide +kernel
theorem dX11_sheet_31 : decode cX11_sheet 31 = .ok (.ifCond .ge 9, 3) := by decide +kernel
theorem dX11_sheet_34 : decode cX11_sheet 34 = .ok (.aload_n 0, 1) := by decide +kernel
theorem dX11_sheet_35 : decode cX11_sheet 35 = .ok (.iconst 4, 1) := by decide +kernel
theorem dX11_sheet_36 : decode cX11_sheet 36 = .ok (.invokevirtual 88, 3) := by decide +kernel
theorem dX11_sheet_39 : decode cX11_sheet 39 = .ok (.ireturn, 1) := by decide +kernel
theorem dX11_sheet_40 : decode cX11_sheet 40 = .ok (.aload_n 0, 1) := by decide +kernel
theorem dX11_sheet_41 : decode cX11_sheet 41 = .ok (.getfield 13, 3) := by decide +kernel
theorem dX11_sheet_44 : decode cX11_sheet 44 = .ok (.iload_n 1, 1) := by decide +kernel
theorem dX11_sheet_45 : decode cX11_sheet 45 = .ok (.aaload, 1) := by decide +kernel
theorem dX11_sheet_46 : decode cX11_sheet 46 = .ok (.iload_n 2, 1) := by decide +kernel
theorem dX11_sheet_47 : decode cX11_sheet 47 = .ok (.iload_n 3, 1) := by decide +kernel
theorem dX11_sheet_48 : decode cX11_sheet 48 = .ok (.invokevirtual 283, 3) := by decide +kernel
theorem dX11_sheet_51 : decode cX11_sheet 51 = .ok (.iconst 1, 1) := by decide +kernel
theorem dX11_sheet_52 : decode cX11_sheet 52 = .ok (.ireturn, 1) := by decide +kernel
theorem dX11_lose_0 : decode cX11_lose 0 = .ok (.iload_n 1, 1) := by decide +kernel
theorem dX11_lose_1 : decode cX11_lose 1 = .ok (.invokestatic 77, 3) := by decide +kernel
theorem dX11_lose_4 : decode cX11_lose 4 = .ok (.ifCond .ne 5, 3) := by decide +kernel
theorem dX11_lose_7 : decode cX11_lose 7 = .ok (.iconst (-1), 1) := by decide +kernel
theorem dX11_lose_8 : decode cX11_lose 8 = .ok (.ireturn, 1) := by decide +kernel
theorem dX11_lose_9 : decode cX11_lose 9 = .ok (.aload_n 0, 1) := by decide +kernel
theorem dX11_lose_10 : decode cX11_lose 10 = .ok (.getfield 13, 3) := by decide +kernel
theorem dX11_lose_13 : decode cX11_lose 13 = .ok (.iload_n 1, 1) := by decide +kernel
theorem dX11_lose_14 : decode cX11_lose 14 = .ok (.aaload, 1) := by decide +kernel
theorem dX11_lose_15 : decode cX11_lose 15 = .ok (.invokevirtual 286, 3) := by decide +kernel
theorem dX11_lose_18 : decode cX11_lose 18 = .ok (.ifCond .ne 5, 3) := by decide +kernel
theorem dX11_lose_21 : decode cX11_lose 21 = .ok (.iconst 0, 1) := by decide +kernel
theorem dX11_lose_22 : decode cX11_lose 22 = .ok (.ireturn, 1) := by decide +kernel
theorem dX11_lose_23 : decode cX11_lose 23 = .ok (.aload_n 0, 1) := by decide +kernel
theorem dX11_lose_24 : decode cX11_lose 24 = .ok (.getfield 13, 3) := by decide +kernel
theorem dX11_lose_27 : decode cX11_lose 27 = .ok (.iload_n 1, 1) := by decide +kernel
theorem dX11_lose_28 : decode cX11_lose 28 = .ok (.aaload, 1) := by decide +kernel
theorem dX11_lose_29 : decode cX11_lose 29 = .ok (.iconst (-1), 1) := by decide +kernel
theorem dX11_lose_30 : decode cX11_lose 30 = .ok (.putfield 289, 3) := by decide +kernel
theorem dX11_lose_33 : decode cX11_lose 33 = .ok (.iconst 1, 1) := by decide +kernel
theorem dX11_lose_34 : decode cX11_lose 34 = .ok (.ireturn, 1) := by decide +kernel
theorem dX11_put_0 : decode cX11_put 0 = .ok (.aload_n 0, 1) := by decide +kernel
theorem dX11_put_1 : decode cX11_put 1 = .ok (.iconst 0, 1) := by decide +kernel
theorem dX11_put_2 : decode cX11_put 2 = .ok (.putfield 72, 3) := by decide +kernel
theorem dX11_put_5 : decode cX11_put 5 = .ok (.iload_n 1, 1) := by decide +kernel
theorem dX11_put_6 : decode cX11_put 6 = .ok (.invokestatic 77, 3) := by decide +kernel
theorem dX11_put_9 : decode cX11_put 9 = .ok (.ifCond .ne 5, 3) := by decide +kernel
theorem dX11_put_12 : decode cX11_put 12 = .ok (.iconst (-1), 1) := by decide +kernel
theorem dX11_put_13 : decode cX11_put 13 = .ok (.ireturn, 1) := by decide +kernel
theorem dX11_put_14 : decode cX11_put 14 = .ok (.aload_n 0, 1) := by decide +kernel
theorem dX11_put_15 : decode cX11_put 15 = .ok (.getfield 13, 3) := by decide +kernel
theorem dX11_put_18 : decode cX11_put 18 = .ok (.iload_n 1, 1) := by decide +kernel
theorem dX11_put_19 : decode cX11_put 19 = .ok (.aaload, 1) := by decide +kernel
theorem dX11_put_20 : decode cX11_put 20 = .ok (.astore 4, 2) := by decide +kernel
theorem dX11_put_22 : decode cX11_put 22 = .ok (.aload 4, 2) := by decide +kernel
theorem dX11_put_24 : decode cX11_put 24 = .ok (.invokevirtual 286, 3) := by decide +kernel
theorem dX11_put_27 : decode cX11_put 27 = .ok (.ifCond .ne 9, 3) := by decide +kernel
theorem dX11_put_30 : decode cX11_put 30 = .ok (.aload_n 0, 1) := by decide +kernel
theorem dX11_put_31 : decode cX11_put 31 = .ok (.iconst 1, 1) := by decide +kernel
theorem dX11_put_32 : decode cX11_put 32 = .ok (.invokevirtual 88, 3) := by decide +kernel
theorem dX11_put_35 : decode cX11_put 35 = .ok (.ireturn, 1) := by decide +kernel
theorem dX11_put_36 : decode cX11_put 36 = .ok (.aload 4, 2) := by decide +kernel
theorem dX11_put_38 : decode cX11_put 38 = .ok (.iload_n 2, 1) := by decide +kernel
theorem dX11_put_39 : decode cX11_put 39 = .ok (.iconst 1, 1) := by decide +kernel
theorem dX11_put_40 : decode cX11_put 40 = .ok (.invokevirtual 124, 3) := by decide +kernel
theorem dX11_put_43 : decode cX11_put 43 = .ok (.ifCond .ne 9, 3) := by decide +kernel
theorem dX11_put_46 : decode cX11_put 46 = .ok (.aload_n 0, 1) := by decide +kernel
theorem dX11_put_47 : decode cX11_put 47 = .ok (.iconst 3, 1) := by decide +kernel
theorem dX11_put_48 : decode cX11_put 48 = .ok (.invokevirtual 88, 3) := by decide +kernel
theorem dX11_put_51 : decode cX11_put 51 = .ok (.ireturn, 1) := by decide +kernel
theorem dX11_put_52 : decode cX11_put 52 = .ok (.aload 4, 2) := by decide +kernel
theorem dX11_put_54 : decode cX11_put 54 = .ok (.getfield 92, 3) := by decide +kernel
theorem dX11_put_57 : decode cX11_put 57 = .ok (.iload_n 2, 1) := by decide +kernel
theorem dX11_put_58 : decode cX11_put 58 = .ok (.aload 4, 2) := by decide +kernel
theorem dX11_put_60 : decode cX11_put 60 = .ok (.iload_n 3, 1) := by decide +kernel
theorem dX11_put_61 : decode cX11_put 61 = .ok (.invokevirtual 292, 3) := by decide +kernel
theorem dX11_put_64 : decode cX11_put 64 = .ok (.iastore, 1) := by decide +kernel
theorem dX11_put_65 : decode cX11_put 65 = .ok (.iconst 1, 1) := by decide +kernel
theorem dX11_put_66 : decode cX11_put 66 = .ok (.ireturn, 1) := by decide +kernel
theorem dX11_cell_0 : decode cX11_cell 0 = .ok (.aload_n 0, 1) := by decide +kernel
theorem dX11_cell_1 : decode cX11_cell 1 = .ok (.iconst 0, 1) := by decide +kernel
theorem dX11_cell_2 : decode cX11_cell 2 = .ok (.putfield 72, 3) := by decide +kernel
theorem dX11_cell_5 : decode cX11_cell 5 = .ok (.iload_n 1, 1) := by decide +kernel
theorem dX11_cell_6 : decode cX11_cell 6 = .ok (.invokestatic 77, 3) := by decide +kernel
theorem dX11_cell_9 : decode cX11_cell 9 = .ok (.ifCond .eq 10, 3) := by decide +kernel
theorem dX11_cell_12 : decode cX11_cell 12 = .ok (.iload_n 3, 1) := by decide +kernel
theorem dX11_cell_13 : decode cX11_cell 13 = .ok (.invokestatic 81, 3) := by decide +kernel
theorem dX11_cell_16 : decode cX11_cell 16 = .ok (.ifCond .ne 7, 3) := by decide +kernel
theorem dX11_cell_19 : decode cX11_cell 19 = .ok (.ldc2_w 258, 3) := by decide +kernel
theorem dX11_cell_22 : decode cX11_cell 22 = .ok (.lreturn, 1) := by decide +kernel
theorem dX11_cell_23 : decode cX11_cell 23 = .ok (.aload_n 0, 1) := by decide +kernel
theorem dX11_cell_24 : decode cX11_cell 24 = .ok (.getfield 13, 3) := by decide +kernel
theorem dX11_cell_27 : decode cX11_cell 27 = .ok (.iload_n 1, 1) := by decide +kernel
theorem dX11_cell_28 : decode cX11_cell 28 = .ok (.aaload, 1) := by decide +kernel
theorem dX11_cell_29 : decode cX11_cell 29 = .ok (.astore 4, 2) := by decide +kernel
theorem dX11_cell_31 : decode cX11_cell 31 = .ok (.aload 4, 2) := by decide +kernel
theorem dX11_cell_33 : decode cX11_cell 33 = .ok (.iload_n 3, 1) := by decide +kernel
theorem dX11_cell_34 : decode cX11_cell 34 = .ok (.invokevirtual 121, 3) := by decide +kernel
theorem dX11_cell_37 : decode cX11_cell 37 = .ok (.istore 5, 2) := by decide +kernel
theorem dX11_cell_39 : decode cX11_cell 39 = .ok (.iload 5, 2) := by decide +kernel
theorem dX11_cell_41 : decode cX11_cell 41 = .ok (.ifCond .ne 16, 3) := by decide +kernel
theorem dX11_cell_44 : decode cX11_cell 44 = .ok (.aload 4, 2) := by decide +kernel
theorem dX11_cell_46 : decode cX11_cell 46 = .ok (.iload_n 2, 1) := by decide +kernel
theorem dX11_cell_47 : decode cX11_cell 47 = .ok (.iconst 1, 1) := by decide +kernel
theorem dX11_cell_48 : decode cX11_cell 48 = .ok (.invokevirtual 124, 3) := by decide +kernel
theorem dX11_cell_51 : decode cX11_cell 51 = .ok (.ifCond .ne 6, 3) := by decide +kernel
theorem dX11_cell_54 : decode cX11_cell 54 = .ok (.iconst 3, 1) := by decide +kernel
theorem dX11_cell_55 : decode cX11_cell 55 = .ok (.istore 5, 2) := by decide +kernel
theorem dX11_cell_57 : decode cX11_cell 57 = .ok (.iload 5, 2) := by decide +kernel
theorem dX11_cell_59 : decode cX11_cell 59 = .ok (.ifCond .eq 13, 3) := by decide +kernel
theorem dX11_cell_62 : decode cX11_cell 62 = .ok (.aload_n 0, 1) := by decide +kernel
theorem dX11_cell_63 : decode cX11_cell 63 = .ok (.iload 5, 2) := by decide +kernel
theorem dX11_cell_65 : decode cX11_cell 65 = .ok (.putfield 72, 3) := by decide +kernel
theorem dX11_cell_68 : decode cX11_cell 68 = .ok (.ldc2_w 258, 3) := by decide +kernel
theorem dX11_cell_71 : decode cX11_cell 71 = .ok (.lreturn, 1) := by decide +kernel
theorem dX11_cell_72 : decode cX11_cell 72 = .ok (.aload 4, 2) := by decide +kernel
theorem dX11_cell_74 : decode cX11_cell 74 = .ok (.getfield 92, 3) := by decide +kernel
theorem dX11_cell_77 : decode cX11_cell 77 = .ok (.iload_n 2, 1) := by decide +kernel
theorem dX11_cell_78 : decode cX11_cell 78 = .ok (.iaload, 1) := by decide +kernel
theorem dX11_cell_79 : decode cX11_cell 79 = .ok (.i2l, 1) := by decide +kernel
theorem dX11_cell_80 : decode cX11_cell 80 = .ok (.lreturn, 1) := by decide +kernel
theorem dX11_copy_0 : decode cX11_copy 0 = .ok (.aload_n 0, 1) := by decide +kernel
theorem dX11_copy_1 : decode cX11_copy 1 = .ok (.iconst 0, 1) := by decide +kernel
theorem dX11_copy_2 : decode cX11_copy 2 = .ok (.putfield 72, 3) := by decide +kernel
theorem dX11_copy_5 : decode cX11_copy 5 = .ok (.iload_n 1, 1) := by decide +kernel
theorem dX11_copy_6 : decode cX11_copy 6 = .ok (.invokestatic 77, 3) := by decide +kernel
theorem dX11_copy_9 : decode cX11_copy 9 = .ok (.ifCond .eq 10, 3) := by decide +kernel
theorem dX11_copy_12 : decode cX11_copy 12 = .ok (.iload_n 3, 1) := by decide +kernel
theorem dX11_copy_13 : decode cX11_copy 13 = .ok (.invokestatic 77, 3) := by decide +kernel
theorem dX11_copy_16 : decode cX11_copy 16 = .ok (.ifCond .ne 5, 3) := by decide +kernel
theorem dX11_copy_19 : decode cX11_copy 19 = .ok (.iconst (-1), 1) := by decide +kernel
theorem dX11_copy_20 : decode cX11_copy 20 = .ok (.ireturn, 1) := by decide +kernel
theorem dX11_copy_21 : decode cX11_copy 21 = .ok (.aload_n 0, 1) := by decide +kernel
theorem dX11_copy_22 : decode cX11_copy 22 = .ok (.getfield 13, 3) := by decide +kernel
theorem dX11_copy_25 : decode cX11_copy 25 = .ok (.iload_n 1, 1) := by decide +kernel
theorem dX11_copy_26 : decode cX11_copy 26 = .ok (.aaload, 1) := by decide +kernel
theorem dX11_copy_27 : decode cX11_copy 27 = .ok (.astore 6, 2) := by decide +kernel
theorem dX11_copy_29 : decode cX11_copy 29 = .ok (.aload_n 0, 1) := by decide +kernel
theorem dX11_copy_30 : decode cX11_copy 30 = .ok (.getfield 13, 3) := by decide +kernel
theorem dX11_copy_33 : decode cX11_copy 33 = .ok (.iload_n 3, 1) := by decide +kernel
theorem dX11_copy_34 : decode cX11_copy 34 = .ok (.aaload, 1) := by decide +kernel
theorem dX11_copy_35 : decode cX11_copy 35 = .ok (.astore 7, 2) := by decide +kernel
theorem dX11_copy_37 : decode cX11_copy 37 = .ok (.aload 6, 2) := by decide +kernel
theorem dX11_copy_39 : decode cX11_copy 39 = .ok (.invokevirtual 286, 3) := by decide +kernel
theorem dX11_copy_42 : decode cX11_copy 42 = .ok (.ifCond .eq 11, 3) := by decide +kernel
theorem dX11_copy_45 : decode cX11_copy 45 = .ok (.aload 7, 2) := by decide +kernel
theorem dX11_copy_47 : decode cX11_copy 47 = .ok (.invokevirtual 286, 3) := by decide +kernel
theorem dX11_copy_50 : decode cX11_copy 50 = .ok (.ifCond .ne 9, 3) := by decide +kernel
theorem dX11_copy_53 : decode cX11_copy 53 = .ok (.aload_n 0, 1) := by decide +kernel
theorem dX11_copy_54 : decode cX11_copy 54 = .ok (.iconst 1, 1) := by decide +kernel
theorem dX11_copy_55 : decode cX11_copy 55 = .ok (.invokevirtual 88, 3) := by decide +kernel
theorem dX11_copy_58 : decode cX11_copy 58 = .ok (.ireturn, 1) := by decide +kernel
theorem dX11_copy_59 : decode cX11_copy 59 = .ok (.aload 6, 2) := by decide +kernel
theorem dX11_copy_61 : decode cX11_copy 61 = .ok (.getfield 289, 3) := by decide +kernel
theorem dX11_copy_64 : decode cX11_copy 64 = .ok (.aload 7, 2) := by decide +kernel
theorem dX11_copy_66 : decode cX11_copy 66 = .ok (.getfield 289, 3) := by decide +kernel
theorem dX11_copy_69 : decode cX11_copy 69 = .ok (.if_icmp .eq 9, 3) := by decide +kernel
theorem dX11_copy_72 : decode cX11_copy 72 = .ok (.aload_n 0, 1) := by decide +kernel
theorem dX11_copy_73 : decode cX11_copy 73 = .ok (.iconst 2, 1) := by decide +kernel
theorem dX11_copy_74 : decode cX11_copy 74 = .ok (.invokevirtual 88, 3) := by decide +kernel
theorem dX11_copy_77 : decode cX11_copy 77 = .ok (.ireturn, 1) := by decide +kernel
theorem dX11_copy_78 : decode cX11_copy 78 = .ok (.aload 6, 2) := by decide +kernel
theorem dX11_copy_80 : decode cX11_copy 80 = .ok (.iload_n 2, 1) := by decide +kernel
theorem dX11_copy_81 : decode cX11_copy 81 = .ok (.iload 5, 2) := by decide +kernel
theorem dX11_copy_83 : decode cX11_copy 83 = .ok (.invokevirtual 124, 3) := by decide +kernel
theorem dX11_copy_86 : decode cX11_copy 86 = .ok (.ifCond .eq 15, 3) := by decide +kernel
theorem dX11_copy_89 : decode cX11_copy 89 = .ok (.aload 7, 2) := by decide +kernel
theorem dX11_copy_91 : decode cX11_copy 91 = .ok (.iload 4, 2) := by decide +kernel
theorem dX11_copy_93 : decode cX11_copy 93 = .ok (.iload 5, 2) := by decide +kernel
theorem dX11_copy_95 : decode cX11_copy 95 = .ok (.invokevirtual 124, 3) := by decide +kernel
theorem dX11_copy_98 : decode cX11_copy 98 = .ok (.ifCond .ne 9, 3) := by decide +kernel
theorem dX11_copy_101 : decode cX11_copy 101 = .ok (.aload_n 0, 1) := by decide +kernel
theorem dX11_copy_102 : decode cX11_copy 102 = .ok (.iconst 3, 1) := by decide +kernel
theorem dX11_copy_103 : decode cX11_copy 103 = .ok (.invokevirtual 88, 3) := by decide +kernel
theorem dX11_copy_106 : decode cX11_copy 106 = .ok (.ireturn, 1) := by decide +kernel
theorem dX11_copy_107 : decode cX11_copy 107 = .ok (.aload 6, 2) := by decide +kernel
theorem dX11_copy_109 : decode cX11_copy 109 = .ok (.getfield 92, 3) := by decide +kernel
theorem dX11_copy_112 : decode cX11_copy 112 = .ok (.iload_n 2, 1) := by decide +kernel
theorem dX11_copy_113 : decode cX11_copy 113 = .ok (.aload 7, 2) := by decide +kernel
theorem dX11_copy_115 : decode cX11_copy 115 = .ok (.getfield 92, 3) := by decide +kernel
theorem dX11_copy_118 : decode cX11_copy 118 = .ok (.iload 4, 2) := by decide +kernel
theorem dX11_copy_120 : decode cX11_copy 120 = .ok (.iload 5, 2) := by decide +kernel
theorem dX11_copy_122 : decode cX11_copy 122 = .ok (.invokestatic 295, 3) := by decide +kernel
theorem dX11_copy_125 : decode cX11_copy 125 = .ok (.iload 5, 2) := by decide +kernel
theorem dX11_copy_127 : decode cX11_copy 127 = .ok (.ireturn, 1) := by decide +kernel
theorem dX11_tell_0 : decode cX11_tell 0 = .ok (.aload_n 0, 1) := by decide +kernel
theorem dX11_tell_1 : decode cX11_tell 1 = .ok (.iload_n 1, 1) := by decide +kernel
theorem dX11_tell_2 : decode cX11_tell 2 = .ok (.invokevirtual 135, 3) := by decide +kernel
theorem dX11_tell_5 : decode cX11_tell 5 = .ok (.ifCond .eq 22, 3) := by decide +kernel
theorem dX11_tell_8 : decode cX11_tell 8 = .ok (.aload_n 0, 1) := by decide +kernel
theorem dX11_tell_9 : decode cX11_tell 9 = .ok (.getfield 65, 3) := by decide +kernel
theorem dX11_tell_12 : decode cX11_tell 12 = .ok (.getfield 138, 3) := by decide +kernel
theorem dX11_tell_15 : decode cX11_tell 15 = .ok (.iload_n 1, 1) := by decide +kernel
theorem dX11_tell_16 : decode cX11_tell 16 = .ok (.aaload, 1) := by decide +kernel
theorem dX11_tell_17 : decode cX11_tell 17 = .ok (.aload_n 0, 1) := by decide +kernel
theorem dX11_tell_18 : decode cX11_tell 18 = .ok (.getfield 48, 3) := by decide +kernel
theorem dX11_tell_21 : decode cX11_tell 21 = .ok (.invokevirtual 301, 3) := by decide +kernel
theorem dX11_tell_24 : decode cX11_tell 24 = .ok (.goto 4, 3) := by decide +kernel
theorem dX11_tell_27 : decode cX11_tell 27 = .ok (.iconst (-1), 1) := by decide +kernel
theorem dX11_tell_28 : decode cX11_tell 28 = .ok (.ireturn, 1) := by decide +kernel
theorem dX11_hail_0 : decode cX11_hail 0 = .ok (.aload_n 0, 1) := by decide +kernel
theorem dX11_hail_1 : decode cX11_hail 1 = .ok (.iload_n 1, 1) := by decide +kernel
theorem dX11_hail_2 : decode cX11_hail 2 = .ok (.invokevirtual 135, 3) := by decide +kernel
theorem dX11_hail_5 : decode cX11_hail 5 = .ok (.ifCond .eq 22, 3) := by decide +kernel
theorem dX11_hail_8 : decode cX11_hail 8 = .ok (.aload_n 0, 1) := by decide +kernel
theorem dX11_hail_9 : decode cX11_hail 9 = .ok (.getfield 65, 3) := by decide +kernel
theorem dX11_hail_12 : decode cX11_hail 12 = .ok (.getfield 138, 3) := by decide +kernel
theorem dX11_hail_15 : decode cX11_hail 15 = .ok (.iload_n 1, 1) := by decide +kernel
theorem dX11_hail_16 : decode cX11_hail 16 = .ok (.aaload, 1) := by decide +kernel
theorem dX11_hail_17 : decode cX11_hail 17 = .ok (.aload_n 0, 1) := by decide +kernel
theorem dX11_hail_18 : decode cX11_hail 18 = .ok (.getfield 48, 3) := by decide +kernel
theorem dX11_hail_21 : decode cX11_hail 21 = .ok (.invokevirtual 305, 3) := by decide +kernel
theorem dX11_hail_24 : decode cX11_hail 24 = .ok (.goto 4, 3) := by decide +kernel
theorem dX11_hail_27 : decode cX11_hail 27 = .ok (.iconst (-1), 1) := by decide +kernel
theorem dX11_hail_28 : decode cX11_hail 28 = .ok (.ireturn, 1) := by decide +kernel
theorem dX11_as_0 : decode cX11_as 0 = .ok (.aload_n 0, 1) := by decide +kernel
theorem dX11_as_1 : decode cX11_as 1 = .ok (.iconst 0, 1) := by decide +kernel
theorem dX11_as_2 : decode cX11_as 2 = .ok (.putfield 72, 3) := by decide +kernel
theorem dX11_as_5 : decode cX11_as 5 = .ok (.aload_n 0, 1) := by decide +kernel
theorem dX11_as_6 : decode cX11_as 6 = .ok (.iload_n 1, 1) := by decide +kernel
theorem dX11_as_7 : decode cX11_as 7 = .ok (.invokevirtual 135, 3) := by decide +kernel
theorem dX11_as_10 : decode cX11_as 10 = .ok (.ifCond .ne 5, 3) := by decide +kernel
theorem dX11_as_13 : decode cX11_as 13 = .ok (.iconst (-1), 1) := by decide +kernel
theorem dX11_as_14 : decode cX11_as 14 = .ok (.ireturn, 1) := by decide +kernel
theorem dX11_as_15 : decode cX11_as 15 = .ok (.iload_n 2, 1) := by decide +kernel
theorem dX11_as_16 : decode cX11_as 16 = .ok (.ifCond .lt 8, 3) := by decide +kernel
theorem dX11_as_19 : decode cX11_as 19 = .ok (.iload_n 2, 1) := by decide +kernel
theorem dX11_as_20 : decode cX11_as 20 = .ok (.iconst 3, 1) := by decide +kernel
theorem dX11_as_21 : decode cX11_as 21 = .ok (.if_icmp .lt 6, 3) := by decide +kernel
theorem dX11_as_24 : decode cX11_as 24 = .ok (.bipush (-2), 2) := by decide +kernel
theorem dX11_as_26 : decode cX11_as 26 = .ok (.ireturn, 1) := by decide +kernel
theorem dX11_as_27 : decode cX11_as 27 = .ok (.aload_n 0, 1) := by decide +kernel
theorem dX11_as_28 : decode cX11_as 28 = .ok (.getfield 65, 3) := by decide +kernel
theorem dX11_as_31 : decode cX11_as 31 = .ok (.getfield 138, 3) := by decide +kernel
theorem dX11_as_34 : decode cX11_as 34 = .ok (.iload_n 1, 1) := by decide +kernel
theorem dX11_as_35 : decode cX11_as 35 = .ok (.aaload, 1) := by decide +kernel
theorem dX11_as_36 : decode cX11_as 36 = .ok (.iload_n 2, 1) := by decide +kernel
theorem dX11_as_37 : decode cX11_as 37 = .ok (.invokestatic 308, 3) := by decide +kernel
theorem dX11_as_40 : decode cX11_as 40 = .ok (.ifCond .eq 7, 3) := by decide +kernel
theorem dX11_as_43 : decode cX11_as 43 = .ok (.iconst 1, 1) := by decide +kernel
theorem dX11_as_44 : decode cX11_as 44 = .ok (.goto 8, 3) := by decide +kernel
theorem dX11_as_47 : decode cX11_as 47 = .ok (.aload_n 0, 1) := by decide +kernel
theorem dX11_as_48 : decode cX11_as 48 = .ok (.iconst 2, 1) := by decide +kernel
theorem dX11_as_49 : decode cX11_as 49 = .ok (.invokevirtual 88, 3) := by decide +kernel
theorem dX11_as_52 : decode cX11_as 52 = .ok (.ireturn, 1) := by decide +kernel
theorem dX11_isOfKind_0 : decode cX11_isOfKind 0 = .ok (.iload_n 1, 1) := by decide +kernel
theorem dX11_isOfKind_1 : decode cX11_isOfKind 1 = .ok (.lookupswitch 37 #[(1, 27), (2, 32)], 27) := by decide +kernel
theorem dX11_isOfKind_28 : decode cX11_isOfKind 28 = .ok (.aload_n 0, 1) := by decide +kernel
theorem dX11_isOfKind_29 : decode cX11_isOfKind 29 = .ok (.instanceof 312, 3) := by decide +kernel
theorem dX11_isOfKind_32 : decode cX11_isOfKind 32 = .ok (.ireturn, 1) := by decide +kernel
theorem dX11_isOfKind_33 : decode cX11_isOfKind 33 = .ok (.aload_n 0, 1) := by decide +kernel
theorem dX11_isOfKind_34 : decode cX11_isOfKind 34 = .ok (.instanceof 314, 3) := by decide +kernel
theorem dX11_isOfKind_37 : decode cX11_isOfKind 37 = .ok (.ireturn, 1) := by decide +kernel
theorem dX11_isOfKind_38 : decode cX11_isOfKind 38 = .ok (.iconst 1, 1) := by decide +kernel
theorem dX11_isOfKind_39 : decode cX11_isOfKind 39 = .ok (.ireturn, 1) := by decide +kernel
theorem dX11_trace_0 : decode cX11_trace 0 = .ok (.aload_n 0, 1) := by decide +kernel
theorem dX11_trace_1 : decode cX11_trace 1 = .ok (.getfield 48, 3) := by decide +kernel
theorem dX11_trace_4 : decode cX11_trace 4 = .ok (.getfield 316, 3) := by decide +kernel
theorem dX11_trace_7 : decode cX11_trace 7 = .ok (.ireturn, 1) := by decide +kernel
theorem dX11_fault_0 : decode cX11_fault 0 = .ok (.aload_n 0, 1) := by decide +kernel
theorem dX11_fault_1 : decode cX11_fault 1 = .ok (.getfield 72, 3) := by decide +kernel
theorem dX11_fault_4 : decode cX11_fault 4 = .ok (.ireturn, 1) := by decide +kernel
theorem dX11_many_0 : decode cX11_many 0 = .ok (.iload_n 1, 1) := by decide +kernel
theorem dX11_many_1 : decode cX11_many 1 = .ok (.tableswitch 63 0 3 #[31, 39, 47, 55], 31) := by decide +kernel
theorem dX11_many_32 : decode cX11_many 32 = .ok (.aload_n 0, 1) := by decide +kernel
theorem dX11_many_33 : decode cX11_many 33 = .ok (.getfield 65, 3) := by decide +kernel
theorem dX11_many_36 : decode cX11_many 36 = .ok (.getfield 118, 3) := by decide +kernel
theorem dX11_many_39 : decode cX11_many 39 = .ok (.ireturn, 1) := by decide +kernel
theorem dX11_many_40 : decode cX11_many 40 = .ok (.aload_n 0, 1) := by decide +kernel
theorem dX11_many_41 : decode cX11_many 41 = .ok (.getfield 65, 3) := by decide +kernel
theorem dX11_many_44 : decode cX11_many 44 = .ok (.getfield 167, 3) := by decide +kernel
theorem dX11_many_47 : decode cX11_many 47 = .ok (.ireturn, 1) := by decide +kernel
theorem dX11_many_48 : decode cX11_many 48 = .ok (.aload_n 0, 1) := by decide +kernel
theorem dX11_many_49 : decode cX11_many 49 = .ok (.getfield 65, 3) := by decide +kernel
theorem dX11_many_52 : decode cX11_many 52 = .ok (.getfield 208, 3) := by decide +kernel
theorem dX11_many_55 : decode cX11_many 55 = .ok (.ireturn, 1) := by decide +kernel
theorem dX11_many_56 : decode cX11_many 56 = .ok (.aload_n 0, 1) := by decide +kernel
theorem dX11_many_57 : decode cX11_many 57 = .ok (.getfield 27, 3) := by decide +kernel
theorem dX11_many_60 : decode cX11_many 60 = .ok (.getfield 128, 3) := by decide +kernel
theorem dX11_many_63 : decode cX11_many 63 = .ok (.ireturn, 1) := by decide +kernel
theorem dX11_many_64 : decode cX11_many 64 = .ok (.bipush (-2), 2) := by decide +kernel
theorem dX11_many_66 : decode cX11_many 66 = .ok (.ireturn, 1) := by decide +kernel
theorem dX11_faulted_0 : decode cX11_faulted 0 = .ok (.aload_n 0, 1) := by decide +kernel
theorem dX11_faulted_1 : decode cX11_faulted 1 = .ok (.iload_n 1, 1) := by decide +kernel
theorem dX11_faulted_2 : decode cX11_faulted 2 = .ok (.putfield 72, 3) := by decide +kernel
theorem dX11_faulted_5 : decode cX11_faulted 5 = .ok (.bipush (-10), 2) := by decide +kernel
theorem dX11_faulted_7 : decode cX11_faulted 7 = .ok (.iload_n 1, 1) := by decide +kernel
theorem dX11_faulted_8 : decode cX11_faulted 8 = .ok (.isub, 1) := by decide +kernel
theorem dX11_faulted_9 : decode cX11_faulted 9 = .ok (.ireturn, 1) := by decide +kernel
theorem dX11_isSheet_0 : decode cX11_isSheet 0 = .ok (.iload_n 0, 1) := by decide +kernel
theorem dX11_isSheet_1 : decode cX11_isSheet 1 = .ok (.ifCond .lt 12, 3) := by decide +kernel
theorem dX11_isSheet_4 : decode cX11_isSheet 4 = .ok (.iload_n 0, 1) := by decide +kernel
theorem dX11_isSheet_5 : decode cX11_isSheet 5 = .ok (.iconst 4, 1) := by decide +kernel
theorem dX11_isSheet_6 : decode cX11_isSheet 6 = .ok (.if_icmp .ge 7, 3) := by decide +kernel
theorem dX11_isSheet_9 : decode cX11_isSheet 9 = .ok (.iconst 1, 1) := by decide +kernel
theorem dX11_isSheet_10 : decode cX11_isSheet 10 = .ok (.goto 4, 3) := by decide +kernel
theorem dX11_isSheet_13 : decode cX11_isSheet 13 = .ok (.iconst 0, 1) := by decide +kernel
theorem dX11_isSheet_14 : decode cX11_isSheet 14 = .ok (.ireturn, 1) := by decide +kernel
theorem dX11_isLane_0 : decode cX11_isLane 0 = .ok (.iload_n 0, 1) := by decide +kernel
theorem dX11_isLane_1 : decode cX11_isLane 1 = .ok (.ifCond .lt 12, 3) := by decide +kernel
theorem dX11_isLane_4 : decode cX11_isLane 4 = .ok (.iload_n 0, 1) := by decide +kernel
theorem dX11_isLane_5 : decode cX11_isLane 5 = .ok (.iconst 3, 1) := by decide +kernel
theorem dX11_isLane_6 : decode cX11_isLane 6 = .ok (.if_icmp .ge 7, 3) := by decide +kernel
theorem dX11_isLane_9 : decode cX11_isLane 9 = .ok (.iconst 1, 1) := by decide +kernel
theorem dX11_isLane_10 : decode cX11_isLane 10 = .ok (.goto 4, 3) := by decide +kernel
theorem dX11_isLane_13 : decode cX11_isLane 13 = .ok (.iconst 0, 1) := by decide +kernel
theorem dX11_isLane_14 : decode cX11_isLane 14 = .ok (.ireturn, 1) := by decide +kernel
theorem dX11_isBoat_0 : decode cX11_isBoat 0 = .ok (.iload_n 1, 1) := by decide +kernel
theorem dX11_isBoat_1 : decode cX11_isBoat 1 = .ok (.ifCond .lt 18, 3) := by decide +kernel
theorem dX11_isBoat_4 : decode cX11_isBoat 4 = .ok (.iload_n 1, 1) := by decide +kernel
theorem dX11_isBoat_5 : decode cX11_isBoat 5 = .ok (.aload_n 0, 1) := by decide +kernel
theorem dX11_isBoat_6 : decode cX11_isBoat 6 = .ok (.getfield 65, 3) := by decide +kernel
theorem dX11_isBoat_9 : decode cX11_isBoat 9 = .ok (.getfield 118, 3) := by decide +kernel
theorem dX11_isBoat_12 : decode cX11_isBoat 12 = .ok (.if_icmp .ge 7, 3) := by decide +kernel
theorem dX11_isBoat_15 : decode cX11_isBoat 15 = .ok (.iconst 1, 1) := by decide +kernel
theorem dX11_isBoat_16 : decode cX11_isBoat 16 = .ok (.goto 4, 3) := by decide +kernel
theorem dX11_isBoat_19 : decode cX11_isBoat 19 = .ok (.iconst 0, 1) := by decide +kernel
theorem dX11_isBoat_20 : decode cX11_isBoat 20 = .ok (.ireturn, 1) := by decide +kernel
theorem dX11_isHour_0 : decode cX11_isHour 0 = .ok (.iload_n 1, 1) := by decide +kernel
theorem dX11_isHour_1 : decode cX11_isHour 1 = .ok (.ifCond .lt 18, 3) := by decide +kernel
theorem dX11_isHour_4 : decode cX11_isHour 4 = .ok (.iload_n 1, 1) := by decide +kernel
theorem dX11_isHour_5 : decode cX11_isHour 5 = .ok (.aload_n 0, 1) := by decide +kernel
theorem dX11_isHour_6 : decode cX11_isHour 6 = .ok (.getfield 65, 3) := by decide +kernel
theorem dX11_isHour_9 : decode cX11_isHour 9 = .ok (.getfield 208, 3) := by decide +kernel
theorem dX11_isHour_12 : decode cX11_isHour 12 = .ok (.if_icmp .ge 7, 3) := by decide +kernel
theorem dX11_isHour_15 : decode cX11_isHour 15 = .ok (.iconst 1, 1) := by decide +kernel
theorem dX11_isHour_16 : decode cX11_isHour 16 = .ok (.goto 4, 3) := by decide +kernel
theorem dX11_isHour_19 : decode cX11_isHour 19 = .ok (.iconst 0, 1) := by decide +kernel
theorem dX11_isHour_20 : decode cX11_isHour 20 = .ok (.ireturn, 1) := by decide +kernel
theorem dX11_isSet_0 : decode cX11_isSet 0 = .ok (.iload_n 1, 1) := by decide +kernel
theorem dX11_isSet_1 : decode cX11_isSet 1 = .ok (.ifCond .lt 18, 3) := by decide +kernel
theorem dX11_isSet_4 : decode cX11_isSet 4 = .ok (.iload_n 1, 1) := by decide +kernel
theorem dX11_isSet_5 : decode cX11_isSet 5 = .ok (.aload_n 0, 1) := by decide +kernel
theorem dX11_isSet_6 : decode cX11_isSet 6 = .ok (.getfield 65, 3) := by decide +kernel
theorem dX11_isSet_9 : decode cX11_isSet 9 = .ok (.invokevirtual 228, 3) := by decide +kernel
theorem dX11_isSet_12 : decode cX11_isSet 12 = .ok (.if_icmp .gt 7, 3) := by decide +kernel
theorem dX11_isSet_15 : decode cX11_isSet 15 = .ok (.iconst 1, 1) := by decide +kernel
theorem dX11_isSet_16 : decode cX11_isSet 16 = .ok (.goto 4, 3) := by decide +kernel
theorem dX11_isSet_19 : decode cX11_isSet 19 = .ok (.iconst 0, 1) := by decide +kernel
theorem dX11_isSet_20 : decode cX11_isSet 20 = .ok (.ireturn, 1) := by decide +kernel
theorem dX11_newBoat_0 : decode cX11_newBoat 0 = .ok (.iload_n 0, 1) := by decide +kernel
theorem dX11_newBoat_1 : decode cX11_newBoat 1 = .ok (.lookupswitch 49 #[(1, 27), (2, 38)], 27) := by decide +kernel
theorem dX11_newBoat_28 : decode cX11_newBoat 28 = .ok (.new 312, 3) := by decide +kernel
theorem dX11_newBoat_31 : decode cX11_newBoat 31 = .ok (.dup, 1) := by decide +kernel
theorem dX11_newBoat_32 : decode cX11_newBoat 32 = .ok (.iload_n 1, 1) := by decide +kernel
theorem dX11_newBoat_33 : decode cX11_newBoat 33 = .ok (.iload_n 2, 1) := by decide +kernel
theorem dX11_newBoat_34 : decode cX11_newBoat 34 = .ok (.iload_n 3, 1) := by decide +kernel
theorem dX11_newBoat_35 : decode cX11_newBoat 35 = .ok (.invokespecial 319, 3) := by decide +kernel
theorem dX11_newBoat_38 : decode cX11_newBoat 38 = .ok (.areturn, 1) := by decide +kernel
theorem dX11_newBoat_39 : decode cX11_newBoat 39 = .ok (.new 314, 3) := by decide +kernel
theorem dX11_newBoat_42 : decode cX11_newBoat 42 = .ok (.dup, 1) := by decide +kernel
theorem dX11_newBoat_43 : decode cX11_newBoat 43 = .ok (.iload_n 1, 1) := by decide +kernel
theorem dX11_newBoat_44 : decode cX11_newBoat 44 = .ok (.iload_n 2, 1) := by decide +kernel
theorem dX11_newBoat_45 : decode cX11_newBoat 45 = .ok (.iload_n 3, 1) := by decide +kernel
theorem dX11_newBoat_46 : decode cX11_newBoat 46 = .ok (.invokespecial 322, 3) := by decide +kernel
theorem dX11_newBoat_49 : decode cX11_newBoat 49 = .ok (.areturn, 1) := by decide +kernel
theorem dX11_newBoat_50 : decode cX11_newBoat 50 = .ok (.new 143, 3) := by decide +kernel
theorem dX11_newBoat_53 : decode cX11_newBoat 53 = .ok (.dup, 1) := by decide +kernel
theorem dX11_newBoat_54 : decode cX11_newBoat 54 = .ok (.iload_n 1, 1) := by decide +kernel
theorem dX11_newBoat_55 : decode cX11_newBoat 55 = .ok (.iload_n 2, 1) := by decide +kernel
theorem dX11_newBoat_56 : decode cX11_newBoat 56 = .ok (.iload_n 3, 1) := by decide +kernel
theorem dX11_newBoat_57 : decode cX11_newBoat 57 = .ok (.invokespecial 323, 3) := by decide +kernel
theorem dX11_newBoat_60 : decode cX11_newBoat 60 = .ok (.areturn, 1) := by decide +kernel
theorem dX12_init_0 : decode cX12_init 0 = .ok (.aload_n 0, 1) := by decide +kernel
theorem dX12_init_1 : decode cX12_init 1 = .ok (.invokespecial 1, 3) := by decide +kernel
theorem dX12_init_4 : decode cX12_init 4 = .ok (.aload_n 0, 1) := by decide +kernel
theorem dX12_init_5 : decode cX12_init 5 = .ok (.iconst 4, 1) := by decide +kernel
theorem dX12_init_6 : decode cX12_init 6 = .ok (.newarray .int, 2) := by decide +kernel
theorem dX12_init_8 : decode cX12_init 8 = .ok (.dup, 1) := by decide +kernel
theorem dX12_init_9 : decode cX12_init 9 = .ok (.iconst 0, 1) := by decide +kernel
theorem dX12_init_10 : decode cX12_init 10 = .ok (.bipush (-9), 2) := by decide +kernel
theorem dX12_init_12 : decode cX12_init 12 = .ok (.iastore, 1) := by decide +kernel
theorem dX12_init_13 : decode cX12_init 13 = .ok (.dup, 1) := by decide +kernel
theorem dX12_init_14 : decode cX12_init 14 = .ok (.iconst 1, 1) := by decide +kernel
theorem dX12_init_15 : decode cX12_init 15 = .ok (.bipush (-9), 2) := by decide +kernel
theorem dX12_init_17 : decode cX12_init 17 = .ok (.iastore, 1) := by decide +kernel
theorem dX12_init_18 : decode cX12_init 18 = .ok (.dup, 1) := by decide +kernel
theorem dX12_init_19 : decode cX12_init 19 = .ok (.iconst 2, 1) := by decide +kernel
theorem dX12_init_20 : decode cX12_init 20 = .ok (.bipush (-9), 2) := by decide +kernel
theorem dX12_init_22 : decode cX12_init 22 = .ok (.iastore, 1) := by decide +kernel
theorem dX12_init_23 : decode cX12_init 23 = .ok (.dup, 1) := by decide +kernel
theorem dX12_init_24 : decode cX12_init 24 = .ok (.iconst 3, 1) := by decide +kernel
theorem dX12_init_25 : decode cX12_init 25 = .ok (.bipush (-9), 2) := by decide +kernel
theorem dX12_init_27 : decode cX12_init 27 = .ok (.iastore, 1) := by decide +kernel
theorem dX12_init_28 : decode cX12_init 28 = .ok (.putfield 9, 3) := by decide +kernel
theorem dX12_init_31 : decode cX12_init 31 = .ok (.aload_n 0, 1) := by decide +kernel
theorem dX12_init_32 : decode cX12_init 32 = .ok (.iconst 4, 1) := by decide +kernel
theorem dX12_init_33 : decode cX12_init 33 = .ok (.newarray .int, 2) := by decide +kernel
theorem dX12_init_35 : decode cX12_init 35 = .ok (.putfield 13, 3) := by decide +kernel
theorem dX12_init_38 : decode cX12_init 38 = .ok (.aload_n 0, 1) := by decide +kernel
theorem dX12_init_39 : decode cX12_init 39 = .ok (.sipush 240, 3) := by decide +kernel
theorem dX12_init_42 : decode cX12_init 42 = .ok (.newarray .int, 2) := by decide +kernel
theorem dX12_init_44 : decode cX12_init 44 = .ok (.putfield 16, 3) := by decide +kernel
theorem dX12_init_47 : decode cX12_init 47 = .ok (.aload_n 0, 1) := by decide +kernel
theorem dX12_init_48 : decode cX12_init 48 = .ok (.iconst 5, 1) := by decide +kernel
theorem dX12_init_49 : decode cX12_init 49 = .ok (.newarray .boolean, 2) := by decide +kernel
theorem dX12_init_51 : decode cX12_init 51 = .ok (.putfield 19, 3) := by decide +kernel
theorem dX12_init_54 : decode cX12_init 54 = .ok (.aload_n 0, 1) := by decide +kernel
theorem dX12_init_55 : decode cX12_init 55 = .ok (.bipush 10, 2) := by decide +kernel
theorem dX12_init_57 : decode cX12_init 57 = .ok (.newarray .int, 2) := by decide +kernel
theorem dX12_init_59 : decode cX12_init 59 = .ok (.putfield 23, 3) := by decide +kernel
theorem dX12_init_62 : decode cX12_init 62 = .ok (.aload_n 0, 1) := by decide +kernel
theorem dX12_init_63 : decode cX12_init 63 = .ok (.iconst 3, 1) := by decide +kernel
theorem dX12_init_64 : decode cX12_init 64 = .ok (.newarray .int, 2) := by decide +kernel
theorem dX12_init_66 : decode cX12_init 66 = .ok (.putfield 26, 3) := by decide +kernel
theorem dX12_init_69 : decode cX12_init 69 = .ok (.aload_n 0, 1) := by decide +kernel
theorem dX12_init_70 : decode cX12_init 70 = .ok (.iconst 3, 1) := by decide +kernel
theorem dX12_init_71 : decode cX12_init 71 = .ok (.newarray .int, 2) := by decide +kernel
theorem dX12_init_73 : decode cX12_init 73 = .ok (.putfield 29, 3) := by decide +kernel
theorem dX12_init_76 : decode cX12_init 76 = .ok (.aload_n 0, 1) := by decide +kernel
theorem dX12_init_77 : decode cX12_init 77 = .ok (.iconst 3, 1) := by decide +kernel
theorem dX12_init_78 : decode cX12_init 78 = .ok (.newarray .int, 2) := by decide +kernel
theorem dX12_init_80 : decode cX12_init 80 = .ok (.putfield 32, 3) := by decide +kernel
theorem dX12_init_83 : decode cX12_init 83 = .ok (.aload_n 0, 1) := by decide +kernel
theorem dX12_init_84 : decode cX12_init 84 = .ok (.iconst 5, 1) := by decide +kernel
theorem dX12_init_85 : decode cX12_init 85 = .ok (.newarray .int, 2) := by decide +kernel
theorem dX12_init_87 : decode cX12_init 87 = .ok (.putfield 35, 3) := by decide +kernel
theorem dX12_init_90 : decode cX12_init 90 = .ok (.aload_n 0, 1) := by decide +kernel
theorem dX12_init_91 : decode cX12_init 91 = .ok (.bipush 10, 2) := by decide +kernel
theorem dX12_init_93 : decode cX12_init 93 = .ok (.newarray .int, 2) := by decide +kernel
theorem dX12_init_95 : decode cX12_init 95 = .ok (.putfield 38, 3) := by decide +kernel
theorem dX12_init_98 : decode cX12_init 98 = .ok (.aload_n 0, 1) := by decide +kernel
theorem dX12_init_99 : decode cX12_init 99 = .ok (.bipush 9, 2) := by decide +kernel
theorem dX12_init_101 : decode cX12_init 101 = .ok (.newarray .int, 2) := by decide +kernel
theorem dX12_init_103 : decode cX12_init 103 = .ok (.putfield 41, 3) := by decide +kernel
theorem dX12_init_106 : decode cX12_init 106 = .ok (.aload_n 0, 1) := by decide +kernel
theorem dX12_init_107 : decode cX12_init 107 = .ok (.iconst 3, 1) := by decide +kernel
theorem dX12_init_108 : decode cX12_init 108 = .ok (.newarray .int, 2) := by decide +kernel
theorem dX12_init_110 : decode cX12_init 110 = .ok (.putfield 44, 3) := by decide +kernel
theorem dX12_init_113 : decode cX12_init 113 = .ok (.aload_n 0, 1) := by decide +kernel
theorem dX12_init_114 : decode cX12_init 114 = .ok (.bipush 10, 2) := by decide +kernel
theorem dX12_init_116 : decode cX12_init 116 = .ok (.newarray .int, 2) := by decide +kernel
theorem dX12_init_118 : decode cX12_init 118 = .ok (.putfield 47, 3) := by decide +kernel
theorem dX12_init_121 : decode cX12_init 121 = .ok (.aload_n 0, 1) := by decide +kernel
theorem dX12_init_122 : decode cX12_init 122 = .ok (.bipush 125, 2) := by decide +kernel
theorem dX12_init_124 : decode cX12_init 124 = .ok (.newarray .boolean, 2) := by decide +kernel
theorem dX12_init_126 : decode cX12_init 126 = .ok (.putfield 50, 3) := by decide +kernel
theorem dX12_init_129 : decode cX12_init 129 = .ok (.aload_n 0, 1) := by decide +kernel
theorem dX12_init_130 : decode cX12_init 130 = .ok (.bipush 125, 2) := by decide +kernel
theorem dX12_init_132 : decode cX12_init 132 = .ok (.newarray .boolean, 2) := by decide +kernel
theorem dX12_init_134 : decode cX12_init 134 = .ok (.putfield 53, 3) := by decide +kernel
theorem dX12_init_137 : decode cX12_init 137 = .ok (.aload_n 0, 1) := by decide +kernel
theorem dX12_init_138 : decode cX12_init 138 = .ok (.bipush 8, 2) := by decide +kernel
theorem dX12_init_140 : decode cX12_init 140 = .ok (.newarray .int, 2) := by decide +kernel
theorem dX12_init_142 : decode cX12_init 142 = .ok (.putfield 56, 3) := by decide +kernel
theorem dX12_init_145 : decode cX12_init 145 = .ok (.aload_n 0, 1) := by decide +kernel
theorem dX12_init_146 : decode cX12_init 146 = .ok (.bipush 8, 2) := by decide +kernel
theorem dX12_init_148 : decode cX12_init 148 = .ok (.newarray .int, 2) := by decide +kernel
theorem dX12_init_150 : decode cX12_init 150 = .ok (.putfield 59, 3) := by decide +kernel
theorem dX12_init_153 : decode cX12_init 153 = .ok (.aload_n 0, 1) := by decide +kernel
theorem dX12_init_154 : decode cX12_init 154 = .ok (.bipush 8, 2) := by decide +kernel
theorem dX12_init_156 : decode cX12_init 156 = .ok (.newarray .int, 2) := by decide +kernel
theorem dX12_init_158 : decode cX12_init 158 = .ok (.putfield 62, 3) := by decide +kernel
theorem dX12_init_161 : decode cX12_init 161 = .ok (.return_, 1) := by decide +kernel
theorem dX12_fails_0 : decode cX12_fails 0 = .ok (.aload_n 0, 1) := by decide +kernel
theorem dX12_fails_1 : decode cX12_fails 1 = .ok (.iload_n 1, 1) := by decide +kernel
theorem dX12_fails_2 : decode cX12_fails 2 = .ok (.putfield 65, 3) := by decide +kernel
theorem dX12_fails_5 : decode cX12_fails 5 = .ok (.bipush (-10), 2) := by decide +kernel
theorem dX12_fails_7 : decode cX12_fails 7 = .ok (.iload_n 1, 1) := by decide +kernel
theorem dX12_fails_8 : decode cX12_fails 8 = .ok (.isub, 1) := by decide +kernel
theorem dX12_fails_9 : decode cX12_fails 9 = .ok (.ireturn, 1) := by decide +kernel
theorem dX12_lost_0 : decode cX12_lost 0 = .ok (.aload_n 0, 1) := by decide +kernel
theorem dX12_lost_1 : decode cX12_lost 1 = .ok (.iload_n 1, 1) := by decide +kernel
theorem dX12_lost_2 : decode cX12_lost 2 = .ok (.putfield 65, 3) := by decide +kernel
theorem dX12_lost_5 : decode cX12_lost 5 = .ok (.ldc2_w 69, 3) := by decide +kernel
theorem dX12_lost_8 : decode cX12_lost 8 = .ok (.lreturn, 1) := by decide +kernel
theorem dX12_within_0 : decode cX12_within 0 = .ok (.iload_n 0, 1) := by decide +kernel
theorem dX12_within_1 : decode cX12_within 1 = .ok (.iload_n 1, 1) := by decide +kernel
theorem dX12_within_2 : decode cX12_within 2 = .ok (.if_icmp .lt 12, 3) := by decide +kernel
theorem dX12_within_5 : decode cX12_within 5 = .ok (.iload_n 0, 1) := by decide +kernel
theorem dX12_within_6 : decode cX12_within 6 = .ok (.iload_n 2, 1) := by decide +kernel
theorem dX12_within_7 : decode cX12_within 7 = .ok (.if_icmp .gt 7, 3) := by decide +kernel
theorem dX12_within_10 : decode cX12_within 10 = .ok (.iconst 1, 1) := by decide +kernel
theorem dX12_within_11 : decode cX12_within 11 = .ok (.goto 4, 3) := by decide +kernel
theorem dX12_within_14 : decode cX12_within 14 = .ok (.iconst 0, 1) := by decide +kernel
theorem dX12_within_15 : decode cX12_within 15 = .ok (.ireturn, 1) := by decide +kernel
theorem dX12_isSheet_0 : decode cX12_isSheet 0 = .ok (.iload_n 0, 1) := by decide +kernel
theorem dX12_isSheet_1 : decode cX12_isSheet 1 = .ok (.iconst 0, 1) := by decide +kernel
theorem dX12_isSheet_2 : decode cX12_isSheet 2 = .ok (.iconst 3, 1) := by decide +kernel
theorem dX12_isSheet_3 : decode cX12_isSheet 3 = .ok (.invokestatic 71, 3) := by decide +kernel
theorem dX12_isSheet_6 : decode cX12_isSheet 6 = .ok (.ireturn, 1) := by decide +kernel
theorem dX12_isSort_0 : decode cX12_isSort 0 = .ok (.iload_n 0, 1) := by decide +kernel
theorem dX12_isSort_1 : decode cX12_isSort 1 = .ok (.iconst 0, 1) := by decide +kernel
end
section
theorem dX12_isSort_2 : decode cX12_isSort 2 = .ok (.iconst 2, 1) := by decide +kernel
theorem dX12_isSort_3 : decode cX12_isSort 3 = .ok (.invokestatic 71, 3) := by decide +kernel
theorem dX12_isSort_6 : decode cX12_isSort 6 = .ok (.ireturn, 1) := by decide +kernel
theorem dX12_against_0 : decode cX12_against 0 = .ok (.aload_n 0, 1) := by decide +kernel
theorem dX12_against_1 : decode cX12_against 1 = .ok (.getfield 9, 3) := by decide +kernel
theorem dX12_against_4 : decode cX12_against 4 = .ok (.iload_n 1, 1) := by decide +kernel
theorem dX12_against_5 : decode cX12_against 5 = .ok (.iaload, 1) := by decide +kernel
theorem dX12_against_6 : decode cX12_against 6 = .ok (.bipush (-9), 2) := by decide +kernel
theorem dX12_against_8 : decode cX12_against 8 = .ok (.if_icmp .eq 15, 3) := by decide +kernel
theorem dX12_against_11 : decode cX12_against 11 = .ok (.aload_n 0, 1) := by decide +kernel
theorem dX12_against_12 : decode cX12_against 12 = .ok (.getfield 9, 3) := by decide +kernel
theorem dX12_against_15 : decode cX12_against 15 = .ok (.iload_n 1, 1) := by decide +kernel
theorem dX12_against_16 : decode cX12_against 16 = .ok (.iaload, 1) := by decide +kernel
theorem dX12_against_17 : decode cX12_against 17 = .ok (.iload_n 2, 1) := by decide +kernel
theorem dX12_against_18 : decode cX12_against 18 = .ok (.if_icmp .eq 5, 3) := by decide +kernel
theorem dX12_against_21 : decode cX12_against 21 = .ok (.iconst 2, 1) := by decide +kernel
theorem dX12_against_22 : decode cX12_against 22 = .ok (.ireturn, 1) := by decide +kernel
theorem dX12_against_23 : decode cX12_against 23 = .ok (.aload_n 0, 1) := by decide +kernel
theorem dX12_against_24 : decode cX12_against 24 = .ok (.getfield 9, 3) := by decide +kernel
theorem dX12_against_27 : decode cX12_against 27 = .ok (.iload_n 1, 1) := by decide +kernel
theorem dX12_against_28 : decode cX12_against 28 = .ok (.iaload, 1) := by decide +kernel
theorem dX12_against_29 : decode cX12_against 29 = .ok (.bipush (-9), 2) := by decide +kernel
theorem dX12_against_31 : decode cX12_against 31 = .ok (.if_icmp .ne 5, 3) := by decide +kernel
theorem dX12_against_34 : decode cX12_against 34 = .ok (.iconst 1, 1) := by decide +kernel
theorem dX12_against_35 : decode cX12_against 35 = .ok (.ireturn, 1) := by decide +kernel
theorem dX12_against_36 : decode cX12_against 36 = .ok (.iload 4, 2) := by decide +kernel
theorem dX12_against_38 : decode cX12_against 38 = .ok (.ifCond .ge 5, 3) := by decide +kernel
theorem dX12_against_41 : decode cX12_against 41 = .ok (.iconst 4, 1) := by decide +kernel
theorem dX12_against_42 : decode cX12_against 42 = .ok (.ireturn, 1) := by decide +kernel
theorem dX12_against_43 : decode cX12_against 43 = .ok (.iload_n 3, 1) := by decide +kernel
theorem dX12_against_44 : decode cX12_against 44 = .ok (.ifCond .lt 26, 3) := by decide +kernel
theorem dX12_against_47 : decode cX12_against 47 = .ok (.iload_n 3, 1) := by decide +kernel
theorem dX12_against_48 : decode cX12_against 48 = .ok (.aload_n 0, 1) := by decide +kernel
theorem dX12_against_49 : decode cX12_against 49 = .ok (.getfield 13, 3) := by decide +kernel
theorem dX12_against_52 : decode cX12_against 52 = .ok (.iload_n 1, 1) := by decide +kernel
theorem dX12_against_53 : decode cX12_against 53 = .ok (.iaload, 1) := by decide +kernel
theorem dX12_against_54 : decode cX12_against 54 = .ok (.if_icmp .gt 16, 3) := by decide +kernel
theorem dX12_against_57 : decode cX12_against 57 = .ok (.iload 4, 2) := by decide +kernel
theorem dX12_against_59 : decode cX12_against 59 = .ok (.aload_n 0, 1) := by decide +kernel
theorem dX12_against_60 : decode cX12_against 60 = .ok (.getfield 13, 3) := by decide +kernel
theorem dX12_against_63 : decode cX12_against 63 = .ok (.iload_n 1, 1) := by decide +kernel
theorem dX12_against_64 : decode cX12_against 64 = .ok (.iaload, 1) := by decide +kernel
theorem dX12_against_65 : decode cX12_against 65 = .ok (.iload_n 3, 1) := by decide +kernel
theorem dX12_against_66 : decode cX12_against 66 = .ok (.isub, 1) := by decide +kernel
theorem dX12_against_67 : decode cX12_against 67 = .ok (.if_icmp .le 7, 3) := by decide +kernel
theorem dX12_against_70 : decode cX12_against 70 = .ok (.iconst 3, 1) := by decide +kernel
theorem dX12_against_71 : decode cX12_against 71 = .ok (.goto 4, 3) := by decide +kernel
theorem dX12_against_74 : decode cX12_against 74 = .ok (.iconst 0, 1) := by decide +kernel
theorem dX12_against_75 : decode cX12_against 75 = .ok (.ireturn, 1) := by decide +kernel
theorem dX12_isBoat_0 : decode cX12_isBoat 0 = .ok (.iload_n 1, 1) := by decide +kernel
theorem dX12_isBoat_1 : decode cX12_isBoat 1 = .ok (.ifCond .lt 15, 3) := by decide +kernel
theorem dX12_isBoat_4 : decode cX12_isBoat 4 = .ok (.iload_n 1, 1) := by decide +kernel
theorem dX12_isBoat_5 : decode cX12_isBoat 5 = .ok (.aload_n 0, 1) := by decide +kernel
theorem dX12_isBoat_6 : decode cX12_isBoat 6 = .ok (.getfield 75, 3) := by decide +kernel
theorem dX12_isBoat_9 : decode cX12_isBoat 9 = .ok (.if_icmp .ge 7, 3) := by decide +kernel
theorem dX12_isBoat_12 : decode cX12_isBoat 12 = .ok (.iconst 1, 1) := by decide +kernel
theorem dX12_isBoat_13 : decode cX12_isBoat 13 = .ok (.goto 4, 3) := by decide +kernel
theorem dX12_isBoat_16 : decode cX12_isBoat 16 = .ok (.iconst 0, 1) := by decide +kernel
theorem dX12_isBoat_17 : decode cX12_isBoat 17 = .ok (.ireturn, 1) := by decide +kernel
theorem dX12_isHour_0 : decode cX12_isHour 0 = .ok (.iload_n 1, 1) := by decide +kernel
theorem dX12_isHour_1 : decode cX12_isHour 1 = .ok (.ifCond .lt 15, 3) := by decide +kernel
theorem dX12_isHour_4 : decode cX12_isHour 4 = .ok (.iload_n 1, 1) := by decide +kernel
theorem dX12_isHour_5 : decode cX12_isHour 5 = .ok (.aload_n 0, 1) := by decide +kernel
theorem dX12_isHour_6 : decode cX12_isHour 6 = .ok (.getfield 78, 3) := by decide +kernel
theorem dX12_isHour_9 : decode cX12_isHour 9 = .ok (.if_icmp .ge 7, 3) := by decide +kernel
theorem dX12_isHour_12 : decode cX12_isHour 12 = .ok (.iconst 1, 1) := by decide +kernel
theorem dX12_isHour_13 : decode cX12_isHour 13 = .ok (.goto 4, 3) := by decide +kernel
theorem dX12_isHour_16 : decode cX12_isHour 16 = .ok (.iconst 0, 1) := by decide +kernel
theorem dX12_isHour_17 : decode cX12_isHour 17 = .ok (.ireturn, 1) := by decide +kernel
theorem dX12_all_0 : decode cX12_all 0 = .ok (.iconst 1, 1) := by decide +kernel
theorem dX12_all_1 : decode cX12_all 1 = .ok (.aload_n 0, 1) := by decide +kernel
theorem dX12_all_2 : decode cX12_all 2 = .ok (.getfield 75, 3) := by decide +kernel
theorem dX12_all_5 : decode cX12_all 5 = .ok (.ishl, 1) := by decide +kernel
theorem dX12_all_6 : decode cX12_all 6 = .ok (.iconst 1, 1) := by decide +kernel
theorem dX12_all_7 : decode cX12_all 7 = .ok (.isub, 1) := by decide +kernel
theorem dX12_all_8 : decode cX12_all 8 = .ok (.ireturn, 1) := by decide +kernel
theorem dX12_digit_0 : decode cX12_digit 0 = .ok (.aload_n 0, 1) := by decide +kernel
theorem dX12_digit_1 : decode cX12_digit 1 = .ok (.getfield 81, 3) := by decide +kernel
theorem dX12_digit_4 : decode cX12_digit 4 = .ok (.iload_n 1, 1) := by decide +kernel
theorem dX12_digit_5 : decode cX12_digit 5 = .ok (.if_icmp .ge 26, 3) := by decide +kernel
theorem dX12_digit_8 : decode cX12_digit 8 = .ok (.aload_n 0, 1) := by decide +kernel
theorem dX12_digit_9 : decode cX12_digit 9 = .ok (.getfield 16, 3) := by decide +kernel
theorem dX12_digit_12 : decode cX12_digit 12 = .ok (.aload_n 0, 1) := by decide +kernel
theorem dX12_digit_13 : decode cX12_digit 13 = .ok (.getfield 81, 3) := by decide +kernel
theorem dX12_digit_16 : decode cX12_digit 16 = .ok (.iaload, 1) := by decide +kernel
theorem dX12_digit_17 : decode cX12_digit 17 = .ok (.bipush 48, 2) := by decide +kernel
theorem dX12_digit_19 : decode cX12_digit 19 = .ok (.iload_n 2, 1) := by decide +kernel
theorem dX12_digit_20 : decode cX12_digit 20 = .ok (.iadd, 1) := by decide +kernel
theorem dX12_digit_21 : decode cX12_digit 21 = .ok (.bipush 48, 2) := by decide +kernel
theorem dX12_digit_23 : decode cX12_digit 23 = .ok (.iload_n 3, 1) := by decide +kernel
theorem dX12_digit_24 : decode cX12_digit 24 = .ok (.iadd, 1) := by decide +kernel
theorem dX12_digit_25 : decode cX12_digit 25 = .ok (.invokestatic 71, 3) := by decide +kernel
theorem dX12_digit_28 : decode cX12_digit 28 = .ok (.ifCond .ne 6, 3) := by decide +kernel
theorem dX12_digit_31 : decode cX12_digit 31 = .ok (.bipush (-9), 2) := by decide +kernel
theorem dX12_digit_33 : decode cX12_digit 33 = .ok (.ireturn, 1) := by decide +kernel
theorem dX12_digit_34 : decode cX12_digit 34 = .ok (.aload_n 0, 1) := by decide +kernel
theorem dX12_digit_35 : decode cX12_digit 35 = .ok (.dup, 1) := by decide +kernel
theorem dX12_digit_36 : decode cX12_digit 36 = .ok (.getfield 81, 3) := by decide +kernel
theorem dX12_digit_39 : decode cX12_digit 39 = .ok (.iconst 1, 1) := by decide +kernel
theorem dX12_digit_40 : decode cX12_digit 40 = .ok (.iadd, 1) := by decide +kernel
theorem dX12_digit_41 : decode cX12_digit 41 = .ok (.putfield 81, 3) := by decide +kernel
theorem dX12_digit_44 : decode cX12_digit 44 = .ok (.aload_n 0, 1) := by decide +kernel
theorem dX12_digit_45 : decode cX12_digit 45 = .ok (.getfield 16, 3) := by decide +kernel
theorem dX12_digit_48 : decode cX12_digit 48 = .ok (.aload_n 0, 1) := by decide +kernel
theorem dX12_digit_49 : decode cX12_digit 49 = .ok (.getfield 81, 3) := by decide +kernel
theorem dX12_digit_52 : decode cX12_digit 52 = .ok (.iconst 1, 1) := by decide +kernel
theorem dX12_digit_53 : decode cX12_digit 53 = .ok (.isub, 1) := by decide +kernel
theorem dX12_digit_54 : decode cX12_digit 54 = .ok (.iaload, 1) := by decide +kernel
theorem dX12_digit_55 : decode cX12_digit 55 = .ok (.bipush 48, 2) := by decide +kernel
theorem dX12_digit_57 : decode cX12_digit 57 = .ok (.isub, 1) := by decide +kernel
theorem dX12_digit_58 : decode cX12_digit 58 = .ok (.ireturn, 1) := by decide +kernel
theorem dX12_isSign_0 : decode cX12_isSign 0 = .ok (.aload_n 0, 1) := by decide +kernel
theorem dX12_isSign_1 : decode cX12_isSign 1 = .ok (.getfield 81, 3) := by decide +kernel
theorem dX12_isSign_4 : decode cX12_isSign 4 = .ok (.iload_n 1, 1) := by decide +kernel
theorem dX12_isSign_5 : decode cX12_isSign 5 = .ok (.if_icmp .ge 16, 3) := by decide +kernel
theorem dX12_isSign_8 : decode cX12_isSign 8 = .ok (.aload_n 0, 1) := by decide +kernel
theorem dX12_isSign_9 : decode cX12_isSign 9 = .ok (.getfield 16, 3) := by decide +kernel
theorem dX12_isSign_12 : decode cX12_isSign 12 = .ok (.aload_n 0, 1) := by decide +kernel
theorem dX12_isSign_13 : decode cX12_isSign 13 = .ok (.getfield 81, 3) := by decide +kernel
theorem dX12_isSign_16 : decode cX12_isSign 16 = .ok (.iaload, 1) := by decide +kernel
theorem dX12_isSign_17 : decode cX12_isSign 17 = .ok (.iload_n 2, 1) := by decide +kernel
theorem dX12_isSign_18 : decode cX12_isSign 18 = .ok (.if_icmp .eq 5, 3) := by decide +kernel
theorem dX12_isSign_21 : decode cX12_isSign 21 = .ok (.iconst 0, 1) := by decide +kernel
theorem dX12_isSign_22 : decode cX12_isSign 22 = .ok (.ireturn, 1) := by decide +kernel
theorem dX12_isSign_23 : decode cX12_isSign 23 = .ok (.aload_n 0, 1) := by decide +kernel
theorem dX12_isSign_24 : decode cX12_isSign 24 = .ok (.dup, 1) := by decide +kernel
theorem dX12_isSign_25 : decode cX12_isSign 25 = .ok (.getfield 81, 3) := by decide +kernel
theorem dX12_isSign_28 : decode cX12_isSign 28 = .ok (.iconst 1, 1) := by decide +kernel
theorem dX12_isSign_29 : decode cX12_isSign 29 = .ok (.iadd, 1) := by decide +kernel
theorem dX12_isSign_30 : decode cX12_isSign 30 = .ok (.putfield 81, 3) := by decide +kernel
theorem dX12_isSign_33 : decode cX12_isSign 33 = .ok (.iconst 1, 1) := by decide +kernel
theorem dX12_isSign_34 : decode cX12_isSign 34 = .ok (.ireturn, 1) := by decide +kernel
theorem dX12_lake_0 : decode cX12_lake 0 = .ok (.aload_n 0, 1) := by decide +kernel
theorem dX12_lake_1 : decode cX12_lake 1 = .ok (.iconst 0, 1) := by decide +kernel
theorem dX12_lake_2 : decode cX12_lake 2 = .ok (.putfield 65, 3) := by decide +kernel
theorem dX12_lake_5 : decode cX12_lake 5 = .ok (.iload_n 1, 1) := by decide +kernel
theorem dX12_lake_6 : decode cX12_lake 6 = .ok (.invokestatic 84, 3) := by decide +kernel
theorem dX12_lake_9 : decode cX12_lake 9 = .ok (.ifCond .ne 5, 3) := by decide +kernel
theorem dX12_lake_12 : decode cX12_lake 12 = .ok (.iconst (-1), 1) := by decide +kernel
theorem dX12_lake_13 : decode cX12_lake 13 = .ok (.ireturn, 1) := by decide +kernel
theorem dX12_lake_14 : decode cX12_lake 14 = .ok (.iload_n 2, 1) := by decide +kernel
theorem dX12_lake_15 : decode cX12_lake 15 = .ok (.invokestatic 88, 3) := by decide +kernel
theorem dX12_lake_18 : decode cX12_lake 18 = .ok (.ifCond .ne 6, 3) := by decide +kernel
theorem dX12_lake_21 : decode cX12_lake 21 = .ok (.bipush (-2), 2) := by decide +kernel
theorem dX12_lake_23 : decode cX12_lake 23 = .ok (.ireturn, 1) := by decide +kernel
theorem dX12_lake_24 : decode cX12_lake 24 = .ok (.aload_n 0, 1) := by decide +kernel
theorem dX12_lake_25 : decode cX12_lake 25 = .ok (.iload_n 1, 1) := by decide +kernel
theorem dX12_lake_26 : decode cX12_lake 26 = .ok (.iload_n 2, 1) := by decide +kernel
theorem dX12_lake_27 : decode cX12_lake 27 = .ok (.iload_n 3, 1) := by decide +kernel
theorem dX12_lake_28 : decode cX12_lake 28 = .ok (.iload 4, 2) := by decide +kernel
theorem dX12_lake_30 : decode cX12_lake 30 = .ok (.invokevirtual 91, 3) := by decide +kernel
theorem dX12_lake_33 : decode cX12_lake 33 = .ok (.istore 5, 2) := by decide +kernel
theorem dX12_lake_35 : decode cX12_lake 35 = .ok (.iload 5, 2) := by decide +kernel
theorem dX12_lake_37 : decode cX12_lake 37 = .ok (.ifCond .eq 10, 3) := by decide +kernel
theorem dX12_lake_40 : decode cX12_lake 40 = .ok (.aload_n 0, 1) := by decide +kernel
theorem dX12_lake_41 : decode cX12_lake 41 = .ok (.iload 5, 2) := by decide +kernel
theorem dX12_lake_43 : decode cX12_lake 43 = .ok (.invokevirtual 95, 3) := by decide +kernel
theorem dX12_lake_46 : decode cX12_lake 46 = .ok (.ireturn, 1) := by decide +kernel
theorem dX12_lake_47 : decode cX12_lake 47 = .ok (.bipush 60, 2) := by decide +kernel
theorem dX12_lake_49 : decode cX12_lake 49 = .ok (.iload_n 1, 1) := by decide +kernel
theorem dX12_lake_50 : decode cX12_lake 50 = .ok (.imul, 1) := by decide +kernel
theorem dX12_lake_51 : decode cX12_lake 51 = .ok (.iload_n 3, 1) := by decide +kernel
theorem dX12_lake_52 : decode cX12_lake 52 = .ok (.iadd, 1) := by decide +kernel
theorem dX12_lake_53 : decode cX12_lake 53 = .ok (.istore 6, 2) := by decide +kernel
theorem dX12_lake_55 : decode cX12_lake 55 = .ok (.aload_n 0, 1) := by decide +kernel
theorem dX12_lake_56 : decode cX12_lake 56 = .ok (.iload 6, 2) := by decide +kernel
theorem dX12_lake_58 : decode cX12_lake 58 = .ok (.putfield 81, 3) := by decide +kernel
theorem dX12_lake_61 : decode cX12_lake 61 = .ok (.aload_n 0, 1) := by decide +kernel
theorem dX12_lake_62 : decode cX12_lake 62 = .ok (.iload 6, 2) := by decide +kernel
theorem dX12_lake_64 : decode cX12_lake 64 = .ok (.iload 4, 2) := by decide +kernel
theorem dX12_lake_66 : decode cX12_lake 66 = .ok (.iadd, 1) := by decide +kernel
theorem dX12_lake_67 : decode cX12_lake 67 = .ok (.invokevirtual 99, 3) := by decide +kernel
theorem dX12_lake_70 : decode cX12_lake 70 = .ok (.ifCond .ne 14, 3) := by decide +kernel
theorem dX12_lake_73 : decode cX12_lake 73 = .ok (.bipush (-100), 2) := by decide +kernel
theorem dX12_lake_75 : decode cX12_lake 75 = .ok (.aload_n 0, 1) := by decide +kernel
theorem dX12_lake_76 : decode cX12_lake 76 = .ok (.getfield 81, 3) := by decide +kernel
theorem dX12_lake_79 : decode cX12_lake 79 = .ok (.iload 6, 2) := by decide +kernel
theorem dX12_lake_81 : decode cX12_lake 81 = .ok (.isub, 1) := by decide +kernel
theorem dX12_lake_82 : decode cX12_lake 82 = .ok (.isub, 1) := by decide +kernel
theorem dX12_lake_83 : decode cX12_lake 83 = .ok (.ireturn, 1) := by decide +kernel
theorem dX12_lake_84 : decode cX12_lake 84 = .ok (.aload_n 0, 1) := by decide +kernel
theorem dX12_lake_85 : decode cX12_lake 85 = .ok (.invokevirtual 102, 3) := by decide +kernel
theorem dX12_lake_88 : decode cX12_lake 88 = .ok (.aload_n 0, 1) := by decide +kernel
theorem dX12_lake_89 : decode cX12_lake 89 = .ok (.getfield 75, 3) := by decide +kernel
theorem dX12_lake_92 : decode cX12_lake 92 = .ok (.ireturn, 1) := by decide +kernel
theorem dX12_takeLake_0 : decode cX12_takeLake 0 = .ok (.aload_n 0, 1) := by decide +kernel
theorem dX12_takeLake_1 : decode cX12_takeLake 1 = .ok (.aload_n 0, 1) := by decide +kernel
theorem dX12_takeLake_2 : decode cX12_takeLake 2 = .ok (.getfield 105, 3) := by decide +kernel
theorem dX12_takeLake_5 : decode cX12_takeLake 5 = .ok (.putfield 108, 3) := by decide +kernel
theorem dX12_takeLake_8 : decode cX12_takeLake 8 = .ok (.iconst 0, 1) := by decide +kernel
theorem dX12_takeLake_9 : decode cX12_takeLake 9 = .ok (.istore_n 1, 1) := by decide +kernel
theorem dX12_takeLake_10 : decode cX12_takeLake 10 = .ok (.iload_n 1, 1) := by decide +kernel
theorem dX12_takeLake_11 : decode cX12_takeLake 11 = .ok (.iconst 4, 1) := by decide +kernel
theorem dX12_takeLake_12 : decode cX12_takeLake 12 = .ok (.if_icmp .gt 42, 3) := by decide +kernel
theorem dX12_takeLake_15 : decode cX12_takeLake 15 = .ok (.aload_n 0, 1) := by decide +kernel
theorem dX12_takeLake_16 : decode cX12_takeLake 16 = .ok (.getfield 19, 3) := by decide +kernel
theorem dX12_takeLake_19 : decode cX12_takeLake 19 = .ok (.iload_n 1, 1) := by decide +kernel
theorem dX12_takeLake_20 : decode cX12_takeLake 20 = .ok (.iload_n 1, 1) := by decide +kernel
theorem dX12_takeLake_21 : decode cX12_takeLake 21 = .ok (.ifCond .le 25, 3) := by decide +kernel
theorem dX12_takeLake_24 : decode cX12_takeLake 24 = .ok (.iload_n 1, 1) := by decide +kernel
theorem dX12_takeLake_25 : decode cX12_takeLake 25 = .ok (.aload_n 0, 1) := by decide +kernel
theorem dX12_takeLake_26 : decode cX12_takeLake 26 = .ok (.getfield 108, 3) := by decide +kernel
theorem dX12_takeLake_29 : decode cX12_takeLake 29 = .ok (.if_icmp .ge 17, 3) := by decide +kernel
theorem dX12_takeLake_32 : decode cX12_takeLake 32 = .ok (.aload_n 0, 1) := by decide +kernel
theorem dX12_takeLake_33 : decode cX12_takeLake 33 = .ok (.getfield 35, 3) := by decide +kernel
theorem dX12_takeLake_36 : decode cX12_takeLake 36 = .ok (.iload_n 1, 1) := by decide +kernel
theorem dX12_takeLake_37 : decode cX12_takeLake 37 = .ok (.iaload, 1) := by decide +kernel
theorem dX12_takeLake_38 : decode cX12_takeLake 38 = .ok (.iconst 1, 1) := by decide +kernel
theorem dX12_takeLake_39 : decode cX12_takeLake 39 = .ok (.if_icmp .ne 7, 3) := by decide +kernel
theorem dX12_takeLake_42 : decode cX12_takeLake 42 = .ok (.iconst 1, 1) := by decide +kernel
theorem dX12_takeLake_43 : decode cX12_takeLake 43 = .ok (.goto 4, 3) := by decide +kernel
theorem dX12_takeLake_46 : decode cX12_takeLake 46 = .ok (.iconst 0, 1) := by decide +kernel
theorem dX12_takeLake_47 : decode cX12_takeLake 47 = .ok (.bastore, 1) := by decide +kernel
theorem dX12_takeLake_48 : decode cX12_takeLake 48 = .ok (.iinc 1 1, 3) := by decide +kernel
theorem dX12_takeLake_51 : decode cX12_takeLake 51 = .ok (.goto (-41), 3) := by decide +kernel
theorem dX12_takeLake_54 : decode cX12_takeLake 54 = .ok (.aload_n 0, 1) := by decide +kernel
theorem dX12_takeLake_55 : decode cX12_takeLake 55 = .ok (.aload_n 0, 1) := by decide +kernel
theorem dX12_takeLake_56 : decode cX12_takeLake 56 = .ok (.getfield 111, 3) := by decide +kernel
theorem dX12_takeLake_59 : decode cX12_takeLake 59 = .ok (.putfield 78, 3) := by decide +kernel
theorem dX12_takeLake_62 : decode cX12_takeLake 62 = .ok (.iconst 0, 1) := by decide +kernel
theorem dX12_takeLake_63 : decode cX12_takeLake 63 = .ok (.istore_n 1, 1) := by decide +kernel
theorem dX12_takeLake_64 : decode cX12_takeLake 64 = .ok (.iload_n 1, 1) := by decide +kernel
theorem dX12_takeLake_65 : decode cX12_takeLake 65 = .ok (.aload_n 0, 1) := by decide +kernel
theorem dX12_takeLake_66 : decode cX12_takeLake 66 = .ok (.getfield 78, 3) := by decide +kernel
theorem dX12_takeLake_69 : decode cX12_takeLake 69 = .ok (.if_icmp .ge 21, 3) := by decide +kernel
theorem dX12_takeLake_72 : decode cX12_takeLake 72 = .ok (.aload_n 0, 1) := by decide +kernel
theorem dX12_takeLake_73 : decode cX12_takeLake 73 = .ok (.getfield 23, 3) := by decide +kernel
theorem dX12_takeLake_76 : decode cX12_takeLake 76 = .ok (.iload_n 1, 1) := by decide +kernel
theorem dX12_takeLake_77 : decode cX12_takeLake 77 = .ok (.aload_n 0, 1) := by decide +kernel
theorem dX12_takeLake_78 : decode cX12_takeLake 78 = .ok (.getfield 38, 3) := by decide +kernel
theorem dX12_takeLake_81 : decode cX12_takeLake 81 = .ok (.iload_n 1, 1) := by decide +kernel
theorem dX12_takeLake_82 : decode cX12_takeLake 82 = .ok (.iaload, 1) := by decide +kernel
theorem dX12_takeLake_83 : decode cX12_takeLake 83 = .ok (.iastore, 1) := by decide +kernel
theorem dX12_takeLake_84 : decode cX12_takeLake 84 = .ok (.iinc 1 1, 3) := by decide +kernel
theorem dX12_takeLake_87 : decode cX12_takeLake 87 = .ok (.goto (-23), 3) := by decide +kernel
theorem dX12_takeLake_90 : decode cX12_takeLake 90 = .ok (.aload_n 0, 1) := by decide +kernel
theorem dX12_takeLake_91 : decode cX12_takeLake 91 = .ok (.aload_n 0, 1) := by decide +kernel
theorem dX12_takeLake_92 : decode cX12_takeLake 92 = .ok (.getfield 114, 3) := by decide +kernel
theorem dX12_takeLake_95 : decode cX12_takeLake 95 = .ok (.putfield 75, 3) := by decide +kernel
theorem dX12_takeLake_98 : decode cX12_takeLake 98 = .ok (.iconst 0, 1) := by decide +kernel
theorem dX12_takeLake_99 : decode cX12_takeLake 99 = .ok (.istore_n 1, 1) := by decide +kernel
theorem dX12_takeLake_100 : decode cX12_takeLake 100 = .ok (.iload_n 1, 1) := by decide +kernel
theorem dX12_takeLake_101 : decode cX12_takeLake 101 = .ok (.aload_n 0, 1) := by decide +kernel
theorem dX12_takeLake_102 : decode cX12_takeLake 102 = .ok (.getfield 75, 3) := by decide +kernel
theorem dX12_takeLake_105 : decode cX12_takeLake 105 = .ok (.if_icmp .ge 55, 3) := by decide +kernel
theorem dX12_takeLake_108 : decode cX12_takeLake 108 = .ok (.aload_n 0, 1) := by decide +kernel
theorem dX12_takeLake_109 : decode cX12_takeLake 109 = .ok (.getfield 26, 3) := by decide +kernel
theorem dX12_takeLake_112 : decode cX12_takeLake 112 = .ok (.iload_n 1, 1) := by decide +kernel
theorem dX12_takeLake_113 : decode cX12_takeLake 113 = .ok (.aload_n 0, 1) := by decide +kernel
theorem dX12_takeLake_114 : decode cX12_takeLake 114 = .ok (.getfield 41, 3) := by decide +kernel
theorem dX12_takeLake_117 : decode cX12_takeLake 117 = .ok (.iconst 3, 1) := by decide +kernel
theorem dX12_takeLake_118 : decode cX12_takeLake 118 = .ok (.iload_n 1, 1) := by decide +kernel
theorem dX12_takeLake_119 : decode cX12_takeLake 119 = .ok (.imul, 1) := by decide +kernel
theorem dX12_takeLake_120 : decode cX12_takeLake 120 = .ok (.iaload, 1) := by decide +kernel
theorem dX12_takeLake_121 : decode cX12_takeLake 121 = .ok (.iastore, 1) := by decide +kernel
theorem dX12_takeLake_122 : decode cX12_takeLake 122 = .ok (.aload_n 0, 1) := by decide +kernel
theorem dX12_takeLake_123 : decode cX12_takeLake 123 = .ok (.getfield 29, 3) := by decide +kernel
theorem dX12_takeLake_126 : decode cX12_takeLake 126 = .ok (.iload_n 1, 1) := by decide +kernel
theorem dX12_takeLake_127 : decode cX12_takeLake 127 = .ok (.aload_n 0, 1) := by decide +kernel
theorem dX12_takeLake_128 : decode cX12_takeLake 128 = .ok (.getfield 41, 3) := by decide +kernel
theorem dX12_takeLake_131 : decode cX12_takeLake 131 = .ok (.iconst 3, 1) := by decide +kernel
theorem dX12_takeLake_132 : decode cX12_takeLake 132 = .ok (.iload_n 1, 1) := by decide +kernel
theorem dX12_takeLake_133 : decode cX12_takeLake 133 = .ok (.imul, 1) := by decide +kernel
theorem dX12_takeLake_134 : decode cX12_takeLake 134 = .ok (.iconst 1, 1) := by decide +kernel
theorem dX12_takeLake_135 : decode cX12_takeLake 135 = .ok (.iadd, 1) := by decide +kernel
theorem dX12_takeLake_136 : decode cX12_takeLake 136 = .ok (.iaload, 1) := by decide +kernel
theorem dX12_takeLake_137 : decode cX12_takeLake 137 = .ok (.iastore, 1) := by decide +kernel
theorem dX12_takeLake_138 : decode cX12_takeLake 138 = .ok (.aload_n 0, 1) := by decide +kernel
theorem dX12_takeLake_139 : decode cX12_takeLake 139 = .ok (.getfield 32, 3) := by decide +kernel
theorem dX12_takeLake_142 : decode cX12_takeLake 142 = .ok (.iload_n 1, 1) := by decide +kernel
theorem dX12_takeLake_143 : decode cX12_takeLake 143 = .ok (.aload_n 0, 1) := by decide +kernel
theorem dX12_takeLake_144 : decode cX12_takeLake 144 = .ok (.getfield 41, 3) := by decide +kernel
theorem dX12_takeLake_147 : decode cX12_takeLake 147 = .ok (.iconst 3, 1) := by decide +kernel
theorem dX12_takeLake_148 : decode cX12_takeLake 148 = .ok (.iload_n 1, 1) := by decide +kernel
theorem dX12_takeLake_149 : decode cX12_takeLake 149 = .ok (.imul, 1) := by decide +kernel
theorem dX12_takeLake_150 : decode cX12_takeLake 150 = .ok (.iconst 2, 1) := by decide +kernel
theorem dX12_takeLake_151 : decode cX12_takeLake 151 = .ok (.iadd, 1) := by decide +kernel
theorem dX12_takeLake_152 : decode cX12_takeLake 152 = .ok (.iaload, 1) := by decide +kernel
theorem dX12_takeLake_153 : decode cX12_takeLake 153 = .ok (.iastore, 1) := by decide +kernel
theorem dX12_takeLake_154 : decode cX12_takeLake 154 = .ok (.iinc 1 1, 3) := by decide +kernel
theorem dX12_takeLake_157 : decode cX12_takeLake 157 = .ok (.goto (-57), 3) := by decide +kernel
theorem dX12_takeLake_160 : decode cX12_takeLake 160 = .ok (.aload_n 0, 1) := by decide +kernel
theorem dX12_takeLake_161 : decode cX12_takeLake 161 = .ok (.iconst 0, 1) := by decide +kernel
theorem dX12_takeLake_162 : decode cX12_takeLake 162 = .ok (.putfield 117, 3) := by decide +kernel
theorem dX12_takeLake_165 : decode cX12_takeLake 165 = .ok (.return_, 1) := by decide +kernel
theorem dX12_windBy_0 : decode cX12_windBy 0 = .ok (.iload_n 0, 1) := by decide +kernel
theorem dX12_windBy_1 : decode cX12_windBy 1 = .ok (.bipush 46, 2) := by decide +kernel
theorem dX12_windBy_3 : decode cX12_windBy 3 = .ok (.if_icmp .ne 7, 3) := by decide +kernel
theorem dX12_windBy_6 : decode cX12_windBy 6 = .ok (.iconst 0, 1) := by decide +kernel
theorem dX12_windBy_7 : decode cX12_windBy 7 = .ok (.goto 25, 3) := by decide +kernel
theorem dX12_windBy_10 : decode cX12_windBy 10 = .ok (.iload_n 0, 1) := by decide +kernel
theorem dX12_windBy_11 : decode cX12_windBy 11 = .ok (.bipush 62, 2) := by decide +kernel
theorem dX12_windBy_13 : decode cX12_windBy 13 = .ok (.if_icmp .ne 7, 3) := by decide +kernel
theorem dX12_windBy_16 : decode cX12_windBy 16 = .ok (.iconst 1, 1) := by decide +kernel
theorem dX12_windBy_17 : decode cX12_windBy 17 = .ok (.goto 15, 3) := by decide +kernel
theorem dX12_windBy_20 : decode cX12_windBy 20 = .ok (.iload_n 0, 1) := by decide +kernel
theorem dX12_windBy_21 : decode cX12_windBy 21 = .ok (.bipush 60, 2) := by decide +kernel
theorem dX12_windBy_23 : decode cX12_windBy 23 = .ok (.if_icmp .ne 7, 3) := by decide +kernel
theorem dX12_windBy_26 : decode cX12_windBy 26 = .ok (.iconst 2, 1) := by decide +kernel
theorem dX12_windBy_27 : decode cX12_windBy 27 = .ok (.goto 5, 3) := by decide +kernel
theorem dX12_windBy_30 : decode cX12_windBy 30 = .ok (.bipush (-9), 2) := by decide +kernel
theorem dX12_windBy_32 : decode cX12_windBy 32 = .ok (.ireturn, 1) := by decide +kernel
theorem dX12_readLake_0 : decode cX12_readLake 0 = .ok (.aload_n 0, 1) := by decide +kernel
theorem dX12_readLake_1 : decode cX12_readLake 1 = .ok (.iconst 0, 1) := by decide +kernel
theorem dX12_readLake_2 : decode cX12_readLake 2 = .ok (.putfield 111, 3) := by decide +kernel
theorem dX12_readLake_5 : decode cX12_readLake 5 = .ok (.aload_n 0, 1) := by decide +kernel
theorem dX12_readLake_6 : decode cX12_readLake 6 = .ok (.iconst 0, 1) := by decide +kernel
theorem dX12_readLake_7 : decode cX12_readLake 7 = .ok (.putfield 114, 3) := by decide +kernel
theorem dX12_readLake_10 : decode cX12_readLake 10 = .ok (.aload_n 0, 1) := by decide +kernel
theorem dX12_readLake_11 : decode cX12_readLake 11 = .ok (.iload_n 1, 1) := by decide +kernel
theorem dX12_readLake_12 : decode cX12_readLake 12 = .ok (.bipush 119, 2) := by decide +kernel
theorem dX12_readLake_14 : decode cX12_readLake 14 = .ok (.invokevirtual 120, 3) := by decide +kernel
theorem dX12_readLake_17 : decode cX12_readLake 17 = .ok (.ifCond .ne 5, 3) := by decide +kernel
theorem dX12_readLake_20 : decode cX12_readLake 20 = .ok (.iconst 0, 1) := by decide +kernel
theorem dX12_readLake_21 : decode cX12_readLake 21 = .ok (.ireturn, 1) := by decide +kernel
theorem dX12_readLake_22 : decode cX12_readLake 22 = .ok (.aload_n 0, 1) := by decide +kernel
theorem dX12_readLake_23 : decode cX12_readLake 23 = .ok (.aload_n 0, 1) := by decide +kernel
theorem dX12_readLake_24 : decode cX12_readLake 24 = .ok (.iload_n 1, 1) := by decide +kernel
theorem dX12_readLake_25 : decode cX12_readLake 25 = .ok (.iconst 2, 1) := by decide +kernel
theorem dX12_readLake_26 : decode cX12_readLake 26 = .ok (.iconst 4, 1) := by decide +kernel
theorem dX12_readLake_27 : decode cX12_readLake 27 = .ok (.invokevirtual 124, 3) := by decide +kernel
theorem dX12_readLake_30 : decode cX12_readLake 30 = .ok (.putfield 105, 3) := by decide +kernel
theorem dX12_readLake_33 : decode cX12_readLake 33 = .ok (.aload_n 0, 1) := by decide +kernel
theorem dX12_readLake_34 : decode cX12_readLake 34 = .ok (.getfield 105, 3) := by decide +kernel
theorem dX12_readLake_37 : decode cX12_readLake 37 = .ok (.bipush (-9), 2) := by decide +kernel
theorem dX12_readLake_39 : decode cX12_readLake 39 = .ok (.if_icmp .ne 5, 3) := by decide +kernel
theorem dX12_readLake_42 : decode cX12_readLake 42 = .ok (.iconst 0, 1) := by decide +kernel
theorem dX12_readLake_43 : decode cX12_readLake 43 = .ok (.ireturn, 1) := by decide +kernel
theorem dX12_readLake_44 : decode cX12_readLake 44 = .ok (.iconst 1, 1) := by decide +kernel
theorem dX12_readLake_45 : decode cX12_readLake 45 = .ok (.istore_n 2, 1) := by decide +kernel
theorem dX12_readLake_46 : decode cX12_readLake 46 = .ok (.iload_n 2, 1) := by decide +kernel
theorem dX12_readLake_47 : decode cX12_readLake 47 = .ok (.aload_n 0, 1) := by decide +kernel
theorem dX12_readLake_48 : decode cX12_readLake 48 = .ok (.getfield 105, 3) := by decide +kernel
theorem dX12_readLake_51 : decode cX12_readLake 51 = .ok (.if_icmp .ge 35, 3) := by decide +kernel
theorem dX12_readLake_54 : decode cX12_readLake 54 = .ok (.aload_n 0, 1) := by decide +kernel
theorem dX12_readLake_55 : decode cX12_readLake 55 = .ok (.getfield 35, 3) := by decide +kernel
theorem dX12_readLake_58 : decode cX12_readLake 58 = .ok (.iload_n 2, 1) := by decide +kernel
theorem dX12_readLake_59 : decode cX12_readLake 59 = .ok (.aload_n 0, 1) := by decide +kernel
theorem dX12_readLake_60 : decode cX12_readLake 60 = .ok (.iload_n 1, 1) := by decide +kernel
theorem dX12_readLake_61 : decode cX12_readLake 61 = .ok (.iconst 0, 1) := by decide +kernel
theorem dX12_readLake_62 : decode cX12_readLake 62 = .ok (.iconst 1, 1) := by decide +kernel
theorem dX12_readLake_63 : decode cX12_readLake 63 = .ok (.invokevirtual 124, 3) := by decide +kernel
theorem dX12_readLake_66 : decode cX12_readLake 66 = .ok (.iastore, 1) := by decide +kernel
theorem dX12_readLake_67 : decode cX12_readLake 67 = .ok (.aload_n 0, 1) := by decide +kernel
theorem dX12_readLake_68 : decode cX12_readLake 68 = .ok (.getfield 35, 3) := by decide +kernel
theorem dX12_readLake_71 : decode cX12_readLake 71 = .ok (.iload_n 2, 1) := by decide +kernel
theorem dX12_readLake_72 : decode cX12_readLake 72 = .ok (.iaload, 1) := by decide +kernel
theorem dX12_readLake_73 : decode cX12_readLake 73 = .ok (.bipush (-9), 2) := by decide +kernel
theorem dX12_readLake_75 : decode cX12_readLake 75 = .ok (.if_icmp .ne 5, 3) := by decide +kernel
theorem dX12_readLake_78 : decode cX12_readLake 78 = .ok (.iconst 0, 1) := by decide +kernel
theorem dX12_readLake_79 : decode cX12_readLake 79 = .ok (.ireturn, 1) := by decide +kernel
theorem dX12_readLake_80 : decode cX12_readLake 80 = .ok (.iinc 2 1, 3) := by decide +kernel
theorem dX12_readLake_83 : decode cX12_readLake 83 = .ok (.goto (-37), 3) := by decide +kernel
theorem dX12_readLake_86 : decode cX12_readLake 86 = .ok (.aload_n 0, 1) := by decide +kernel
theorem dX12_readLake_87 : decode cX12_readLake 87 = .ok (.iload_n 1, 1) := by decide +kernel
theorem dX12_readLake_88 : decode cX12_readLake 88 = .ok (.bipush 59, 2) := by decide +kernel
theorem dX12_readLake_90 : decode cX12_readLake 90 = .ok (.invokevirtual 120, 3) := by decide +kernel
theorem dX12_readLake_93 : decode cX12_readLake 93 = .ok (.ifCond .ne 5, 3) := by decide +kernel
theorem dX12_readLake_96 : decode cX12_readLake 96 = .ok (.iconst 0, 1) := by decide +kernel
theorem dX12_readLake_97 : decode cX12_readLake 97 = .ok (.ireturn, 1) := by decide +kernel
theorem dX12_readLake_98 : decode cX12_readLake 98 = .ok (.aload_n 0, 1) := by decide +kernel
theorem dX12_readLake_99 : decode cX12_readLake 99 = .ok (.getfield 111, 3) := by decide +kernel
theorem dX12_readLake_102 : decode cX12_readLake 102 = .ok (.bipush 10, 2) := by decide +kernel
theorem dX12_readLake_104 : decode cX12_readLake 104 = .ok (.if_icmp .ge 72, 3) := by decide +kernel
theorem dX12_readLake_107 : decode cX12_readLake 107 = .ok (.aload_n 0, 1) := by decide +kernel
theorem dX12_readLake_108 : decode cX12_readLake 108 = .ok (.getfield 81, 3) := by decide +kernel
theorem dX12_readLake_111 : decode cX12_readLake 111 = .ok (.iload_n 1, 1) := by decide +kernel
theorem dX12_readLake_112 : decode cX12_readLake 112 = .ok (.if_icmp .ge 64, 3) := by decide +kernel
theorem dX12_readLake_115 : decode cX12_readLake 115 = .ok (.aload_n 0, 1) := by decide +kernel
theorem dX12_readLake_116 : decode cX12_readLake 116 = .ok (.getfield 16, 3) := by decide +kernel
theorem dX12_readLake_119 : decode cX12_readLake 119 = .ok (.aload_n 0, 1) := by decide +kernel
theorem dX12_readLake_120 : decode cX12_readLake 120 = .ok (.getfield 81, 3) := by decide +kernel
theorem dX12_readLake_123 : decode cX12_readLake 123 = .ok (.iaload, 1) := by decide +kernel
theorem dX12_readLake_124 : decode cX12_readLake 124 = .ok (.invokestatic 128, 3) := by decide +kernel
theorem dX12_readLake_127 : decode cX12_readLake 127 = .ok (.bipush (-9), 2) := by decide +kernel
theorem dX12_readLake_129 : decode cX12_readLake 129 = .ok (.if_icmp .eq 47, 3) := by decide +kernel
theorem dX12_readLake_132 : decode cX12_readLake 132 = .ok (.aload_n 0, 1) := by decide +kernel
theorem dX12_readLake_133 : decode cX12_readLake 133 = .ok (.getfield 38, 3) := by decide +kernel
theorem dX12_readLake_136 : decode cX12_readLake 136 = .ok (.aload_n 0, 1) := by decide +kernel
theorem dX12_readLake_137 : decode cX12_readLake 137 = .ok (.getfield 111, 3) := by decide +kernel
theorem dX12_readLake_140 : decode cX12_readLake 140 = .ok (.aload_n 0, 1) := by decide +kernel
theorem dX12_readLake_141 : decode cX12_readLake 141 = .ok (.getfield 16, 3) := by decide +kernel
theorem dX12_readLake_144 : decode cX12_readLake 144 = .ok (.aload_n 0, 1) := by decide +kernel
theorem dX12_readLake_145 : decode cX12_readLake 145 = .ok (.getfield 81, 3) := by decide +kernel
theorem dX12_readLake_148 : decode cX12_readLake 148 = .ok (.iaload, 1) := by decide +kernel
theorem dX12_readLake_149 : decode cX12_readLake 149 = .ok (.invokestatic 128, 3) := by decide +kernel
theorem dX12_readLake_152 : decode cX12_readLake 152 = .ok (.iastore, 1) := by decide +kernel
theorem dX12_readLake_153 : decode cX12_readLake 153 = .ok (.aload_n 0, 1) := by decide +kernel
theorem dX12_readLake_154 : decode cX12_readLake 154 = .ok (.dup, 1) := by decide +kernel
theorem dX12_readLake_155 : decode cX12_readLake 155 = .ok (.getfield 111, 3) := by decide +kernel
theorem dX12_readLake_158 : decode cX12_readLake 158 = .ok (.iconst 1, 1) := by decide +kernel
theorem dX12_readLake_159 : decode cX12_readLake 159 = .ok (.iadd, 1) := by decide +kernel
theorem dX12_readLake_160 : decode cX12_readLake 160 = .ok (.putfield 111, 3) := by decide +kernel
theorem dX12_readLake_163 : decode cX12_readLake 163 = .ok (.aload_n 0, 1) := by decide +kernel
theorem dX12_readLake_164 : decode cX12_readLake 164 = .ok (.dup, 1) := by decide +kernel
theorem dX12_readLake_165 : decode cX12_readLake 165 = .ok (.getfield 81, 3) := by decide +kernel
theorem dX12_readLake_168 : decode cX12_readLake 168 = .ok (.iconst 1, 1) := by decide +kernel
theorem dX12_readLake_169 : decode cX12_readLake 169 = .ok (.iadd, 1) := by decide +kernel
theorem dX12_readLake_170 : decode cX12_readLake 170 = .ok (.putfield 81, 3) := by decide +kernel
theorem dX12_readLake_173 : decode cX12_readLake 173 = .ok (.goto (-75), 3) := by decide +kernel
theorem dX12_readLake_176 : decode cX12_readLake 176 = .ok (.aload_n 0, 1) := by decide +kernel
theorem dX12_readLake_177 : decode cX12_readLake 177 = .ok (.getfield 111, 3) := by decide +kernel
theorem dX12_readLake_180 : decode cX12_readLake 180 = .ok (.ifCond .ne 5, 3) := by decide +kernel
theorem dX12_readLake_183 : decode cX12_readLake 183 = .ok (.iconst 0, 1) := by decide +kernel
theorem dX12_readLake_184 : decode cX12_readLake 184 = .ok (.ireturn, 1) := by decide +kernel
theorem dX12_readLake_185 : decode cX12_readLake 185 = .ok (.aload_n 0, 1) := by decide +kernel
theorem dX12_readLake_186 : decode cX12_readLake 186 = .ok (.getfield 114, 3) := by decide +kernel
theorem dX12_readLake_189 : decode cX12_readLake 189 = .ok (.ifCond .eq 19, 3) := by decide +kernel
theorem dX12_readLake_192 : decode cX12_readLake 192 = .ok (.aload_n 0, 1) := by decide +kernel
theorem dX12_readLake_193 : decode cX12_readLake 193 = .ok (.getfield 114, 3) := by decide +kernel
theorem dX12_readLake_196 : decode cX12_readLake 196 = .ok (.iconst 3, 1) := by decide +kernel
theorem dX12_readLake_197 : decode cX12_readLake 197 = .ok (.if_icmp .ge 31, 3) := by decide +kernel
theorem dX12_readLake_200 : decode cX12_readLake 200 = .ok (.aload_n 0, 1) := by decide +kernel
theorem dX12_readLake_201 : decode cX12_readLake 201 = .ok (.getfield 81, 3) := by decide +kernel
theorem dX12_readLake_204 : decode cX12_readLake 204 = .ok (.iload_n 1, 1) := by decide +kernel
theorem dX12_readLake_205 : decode cX12_readLake 205 = .ok (.if_icmp .ge 23, 3) := by decide +kernel
theorem dX12_readLake_208 : decode cX12_readLake 208 = .ok (.aload_n 0, 1) := by decide +kernel
theorem dX12_readLake_209 : decode cX12_readLake 209 = .ok (.iload_n 1, 1) := by decide +kernel
theorem dX12_readLake_210 : decode cX12_readLake 210 = .ok (.bipush 44, 2) := by decide +kernel
theorem dX12_readLake_212 : decode cX12_readLake 212 = .ok (.invokevirtual 120, 3) := by decide +kernel
theorem dX12_readLake_215 : decode cX12_readLake 215 = .ok (.ifCond .eq 11, 3) := by decide +kernel
theorem dX12_readLake_218 : decode cX12_readLake 218 = .ok (.aload_n 0, 1) := by decide +kernel
theorem dX12_readLake_219 : decode cX12_readLake 219 = .ok (.iload_n 1, 1) := by decide +kernel
theorem dX12_readLake_220 : decode cX12_readLake 220 = .ok (.invokevirtual 131, 3) := by decide +kernel
theorem dX12_readLake_223 : decode cX12_readLake 223 = .ok (.ifCond .ne (-38), 3) := by decide +kernel
theorem dX12_readLake_226 : decode cX12_readLake 226 = .ok (.iconst 0, 1) := by decide +kernel
theorem dX12_readLake_227 : decode cX12_readLake 227 = .ok (.ireturn, 1) := by decide +kernel
theorem dX12_readLake_228 : decode cX12_readLake 228 = .ok (.aload_n 0, 1) := by decide +kernel
theorem dX12_readLake_229 : decode cX12_readLake 229 = .ok (.getfield 81, 3) := by decide +kernel
theorem dX12_readLake_232 : decode cX12_readLake 232 = .ok (.iload_n 1, 1) := by decide +kernel
theorem dX12_readLake_233 : decode cX12_readLake 233 = .ok (.if_icmp .ne 7, 3) := by decide +kernel
theorem dX12_readLake_236 : decode cX12_readLake 236 = .ok (.iconst 1, 1) := by decide +kernel
theorem dX12_readLake_237 : decode cX12_readLake 237 = .ok (.goto 4, 3) := by decide +kernel
theorem dX12_readLake_240 : decode cX12_readLake 240 = .ok (.iconst 0, 1) := by decide +kernel
theorem dX12_readLake_241 : decode cX12_readLake 241 = .ok (.ireturn, 1) := by decide +kernel
theorem dX12_readBoat_0 : decode cX12_readBoat 0 = .ok (.iconst 3, 1) := by decide +kernel
theorem dX12_readBoat_1 : decode cX12_readBoat 1 = .ok (.aload_n 0, 1) := by decide +kernel
theorem dX12_readBoat_2 : decode cX12_readBoat 2 = .ok (.getfield 114, 3) := by decide +kernel
theorem dX12_readBoat_5 : decode cX12_readBoat 5 = .ok (.imul, 1) := by decide +kernel
theorem dX12_readBoat_6 : decode cX12_readBoat 6 = .ok (.istore_n 2, 1) := by decide +kernel
theorem dX12_readBoat_7 : decode cX12_readBoat 7 = .ok (.aload_n 0, 1) := by decide +kernel
theorem dX12_readBoat_8 : decode cX12_readBoat 8 = .ok (.getfield 81, 3) := by decide +kernel
theorem dX12_readBoat_11 : decode cX12_readBoat 11 = .ok (.iload_n 1, 1) := by decide +kernel
theorem dX12_readBoat_12 : decode cX12_readBoat 12 = .ok (.if_icmp .ge 15, 3) := by decide +kernel
theorem dX12_readBoat_15 : decode cX12_readBoat 15 = .ok (.aload_n 0, 1) := by decide +kernel
theorem dX12_readBoat_16 : decode cX12_readBoat 16 = .ok (.getfield 16, 3) := by decide +kernel
theorem dX12_readBoat_19 : decode cX12_readBoat 19 = .ok (.aload_n 0, 1) := by decide +kernel
theorem dX12_readBoat_20 : decode cX12_readBoat 20 = .ok (.getfield 81, 3) := by decide +kernel
theorem dX12_readBoat_23 : decode cX12_readBoat 23 = .ok (.iaload, 1) := by decide +kernel
theorem dX12_readBoat_24 : decode cX12_readBoat 24 = .ok (.goto 4, 3) := by decide +kernel
theorem dX12_readBoat_27 : decode cX12_readBoat 27 = .ok (.iconst 0, 1) := by decide +kernel
theorem dX12_readBoat_28 : decode cX12_readBoat 28 = .ok (.istore_n 3, 1) := by decide +kernel
theorem dX12_readBoat_29 : decode cX12_readBoat 29 = .ok (.aload_n 0, 1) := by decide +kernel
theorem dX12_readBoat_30 : decode cX12_readBoat 30 = .ok (.getfield 41, 3) := by decide +kernel
theorem dX12_readBoat_33 : decode cX12_readBoat 33 = .ok (.iload_n 2, 1) := by decide +kernel
theorem dX12_readBoat_34 : decode cX12_readBoat 34 = .ok (.iload_n 3, 1) := by decide +kernel
theorem dX12_readBoat_35 : decode cX12_readBoat 35 = .ok (.bipush 98, 2) := by decide +kernel
theorem dX12_readBoat_37 : decode cX12_readBoat 37 = .ok (.if_icmp .ne 7, 3) := by decide +kernel
theorem dX12_readBoat_40 : decode cX12_readBoat 40 = .ok (.iconst 0, 1) := by decide +kernel
theorem dX12_readBoat_41 : decode cX12_readBoat 41 = .ok (.goto 25, 3) := by decide +kernel
theorem dX12_readBoat_44 : decode cX12_readBoat 44 = .ok (.iload_n 3, 1) := by decide +kernel
theorem dX12_readBoat_45 : decode cX12_readBoat 45 = .ok (.bipush 111, 2) := by decide +kernel
theorem dX12_readBoat_47 : decode cX12_readBoat 47 = .ok (.if_icmp .ne 7, 3) := by decide +kernel
theorem dX12_readBoat_50 : decode cX12_readBoat 50 = .ok (.iconst 1, 1) := by decide +kernel
theorem dX12_readBoat_51 : decode cX12_readBoat 51 = .ok (.goto 15, 3) := by decide +kernel
theorem dX12_readBoat_54 : decode cX12_readBoat 54 = .ok (.iload_n 3, 1) := by decide +kernel
theorem dX12_readBoat_55 : decode cX12_readBoat 55 = .ok (.bipush 116, 2) := by decide +kernel
theorem dX12_readBoat_57 : decode cX12_readBoat 57 = .ok (.if_icmp .ne 7, 3) := by decide +kernel
theorem dX12_readBoat_60 : decode cX12_readBoat 60 = .ok (.iconst 2, 1) := by decide +kernel
theorem dX12_readBoat_61 : decode cX12_readBoat 61 = .ok (.goto 5, 3) := by decide +kernel
theorem dX12_readBoat_64 : decode cX12_readBoat 64 = .ok (.bipush (-9), 2) := by decide +kernel
theorem dX12_readBoat_66 : decode cX12_readBoat 66 = .ok (.iastore, 1) := by decide +kernel
theorem dX12_readBoat_67 : decode cX12_readBoat 67 = .ok (.aload_n 0, 1) := by decide +kernel
theorem dX12_readBoat_68 : decode cX12_readBoat 68 = .ok (.getfield 41, 3) := by decide +kernel
theorem dX12_readBoat_71 : decode cX12_readBoat 71 = .ok (.iload_n 2, 1) := by decide +kernel
theorem dX12_readBoat_72 : decode cX12_readBoat 72 = .ok (.iaload, 1) := by decide +kernel
theorem dX12_readBoat_73 : decode cX12_readBoat 73 = .ok (.bipush (-9), 2) := by decide +kernel
theorem dX12_readBoat_75 : decode cX12_readBoat 75 = .ok (.if_icmp .ne 5, 3) := by decide +kernel
theorem dX12_readBoat_78 : decode cX12_readBoat 78 = .ok (.iconst 0, 1) := by decide +kernel
theorem dX12_readBoat_79 : decode cX12_readBoat 79 = .ok (.ireturn, 1) := by decide +kernel
theorem dX12_readBoat_80 : decode cX12_readBoat 80 = .ok (.aload_n 0, 1) := by decide +kernel
theorem dX12_readBoat_81 : decode cX12_readBoat 81 = .ok (.dup, 1) := by decide +kernel
theorem dX12_readBoat_82 : decode cX12_readBoat 82 = .ok (.getfield 81, 3) := by decide +kernel
theorem dX12_readBoat_85 : decode cX12_readBoat 85 = .ok (.iconst 1, 1) := by decide +kernel
theorem dX12_readBoat_86 : decode cX12_readBoat 86 = .ok (.iadd, 1) := by decide +kernel
theorem dX12_readBoat_87 : decode cX12_readBoat 87 = .ok (.putfield 81, 3) := by decide +kernel
theorem dX12_readBoat_90 : decode cX12_readBoat 90 = .ok (.aload_n 0, 1) := by decide +kernel
theorem dX12_readBoat_91 : decode cX12_readBoat 91 = .ok (.getfield 41, 3) := by decide +kernel
theorem dX12_readBoat_94 : decode cX12_readBoat 94 = .ok (.iload_n 2, 1) := by decide +kernel
theorem dX12_readBoat_95 : decode cX12_readBoat 95 = .ok (.iconst 1, 1) := by decide +kernel
theorem dX12_readBoat_96 : decode cX12_readBoat 96 = .ok (.iadd, 1) := by decide +kernel
theorem dX12_readBoat_97 : decode cX12_readBoat 97 = .ok (.aload_n 0, 1) := by decide +kernel
theorem dX12_readBoat_98 : decode cX12_readBoat 98 = .ok (.iload_n 1, 1) := by decide +kernel
theorem dX12_readBoat_99 : decode cX12_readBoat 99 = .ok (.iconst 0, 1) := by decide +kernel
theorem dX12_readBoat_100 : decode cX12_readBoat 100 = .ok (.iconst 1, 1) := by decide +kernel
theorem dX12_readBoat_101 : decode cX12_readBoat 101 = .ok (.invokevirtual 124, 3) := by decide +kernel
theorem dX12_readBoat_104 : decode cX12_readBoat 104 = .ok (.iastore, 1) := by decide +kernel
theorem dX12_readBoat_105 : decode cX12_readBoat 105 = .ok (.aload_n 0, 1) := by decide +kernel
theorem dX12_readBoat_106 : decode cX12_readBoat 106 = .ok (.getfield 41, 3) := by decide +kernel
theorem dX12_readBoat_109 : decode cX12_readBoat 109 = .ok (.iload_n 2, 1) := by decide +kernel
theorem dX12_readBoat_110 : decode cX12_readBoat 110 = .ok (.iconst 1, 1) := by decide +kernel
theorem dX12_readBoat_111 : decode cX12_readBoat 111 = .ok (.iadd, 1) := by decide +kernel
theorem dX12_readBoat_112 : decode cX12_readBoat 112 = .ok (.iaload, 1) := by decide +kernel
theorem dX12_readBoat_113 : decode cX12_readBoat 113 = .ok (.bipush (-9), 2) := by decide +kernel
theorem dX12_readBoat_115 : decode cX12_readBoat 115 = .ok (.if_icmp .ne 5, 3) := by decide +kernel
theorem dX12_readBoat_118 : decode cX12_readBoat 118 = .ok (.iconst 0, 1) := by decide +kernel
theorem dX12_readBoat_119 : decode cX12_readBoat 119 = .ok (.ireturn, 1) := by decide +kernel
theorem dX12_readBoat_120 : decode cX12_readBoat 120 = .ok (.aload_n 0, 1) := by decide +kernel
theorem dX12_readBoat_121 : decode cX12_readBoat 121 = .ok (.getfield 41, 3) := by decide +kernel
theorem dX12_readBoat_124 : decode cX12_readBoat 124 = .ok (.iload_n 2, 1) := by decide +kernel
theorem dX12_readBoat_125 : decode cX12_readBoat 125 = .ok (.iconst 2, 1) := by decide +kernel
theorem dX12_readBoat_126 : decode cX12_readBoat 126 = .ok (.iadd, 1) := by decide +kernel
theorem dX12_readBoat_127 : decode cX12_readBoat 127 = .ok (.aload_n 0, 1) := by decide +kernel
theorem dX12_readBoat_128 : decode cX12_readBoat 128 = .ok (.iload_n 1, 1) := by decide +kernel
theorem dX12_readBoat_129 : decode cX12_readBoat 129 = .ok (.iconst 1, 1) := by decide +kernel
theorem dX12_readBoat_130 : decode cX12_readBoat 130 = .ok (.iconst 3, 1) := by decide +kernel
theorem dX12_readBoat_131 : decode cX12_readBoat 131 = .ok (.invokevirtual 124, 3) := by decide +kernel
theorem dX12_readBoat_134 : decode cX12_readBoat 134 = .ok (.iastore, 1) := by decide +kernel
theorem dX12_readBoat_135 : decode cX12_readBoat 135 = .ok (.aload_n 0, 1) := by decide +kernel
theorem dX12_readBoat_136 : decode cX12_readBoat 136 = .ok (.dup, 1) := by decide +kernel
theorem dX12_readBoat_137 : decode cX12_readBoat 137 = .ok (.getfield 114, 3) := by decide +kernel
theorem dX12_readBoat_140 : decode cX12_readBoat 140 = .ok (.iconst 1, 1) := by decide +kernel
theorem dX12_readBoat_141 : decode cX12_readBoat 141 = .ok (.iadd, 1) := by decide +kernel
theorem dX12_readBoat_142 : decode cX12_readBoat 142 = .ok (.putfield 114, 3) := by decide +kernel
theorem dX12_readBoat_145 : decode cX12_readBoat 145 = .ok (.aload_n 0, 1) := by decide +kernel
theorem dX12_readBoat_146 : decode cX12_readBoat 146 = .ok (.getfield 41, 3) := by decide +kernel
theorem dX12_readBoat_149 : decode cX12_readBoat 149 = .ok (.iload_n 2, 1) := by decide +kernel
theorem dX12_readBoat_150 : decode cX12_readBoat 150 = .ok (.iconst 2, 1) := by decide +kernel
theorem dX12_readBoat_151 : decode cX12_readBoat 151 = .ok (.iadd, 1) := by decide +kernel
theorem dX12_readBoat_152 : decode cX12_readBoat 152 = .ok (.iaload, 1) := by decide +kernel
theorem dX12_readBoat_153 : decode cX12_readBoat 153 = .ok (.bipush (-9), 2) := by decide +kernel
theorem dX12_readBoat_155 : decode cX12_readBoat 155 = .ok (.if_icmp .eq 7, 3) := by decide +kernel
theorem dX12_readBoat_158 : decode cX12_readBoat 158 = .ok (.iconst 1, 1) := by decide +kernel
theorem dX12_readBoat_159 : decode cX12_readBoat 159 = .ok (.goto 4, 3) := by decide +kernel
theorem dX12_readBoat_162 : decode cX12_readBoat 162 = .ok (.iconst 0, 1) := by decide +kernel
theorem dX12_readBoat_163 : decode cX12_readBoat 163 = .ok (.ireturn, 1) := by decide +kernel
theorem dX12_ofBoat_0 : decode cX12_ofBoat 0 = .ok (.aload_n 0, 1) := by decide +kernel
theorem dX12_ofBoat_1 : decode cX12_ofBoat 1 = .ok (.iload_n 1, 1) := by decide +kernel
theorem dX12_ofBoat_2 : decode cX12_ofBoat 2 = .ok (.invokevirtual 134, 3) := by decide +kernel
theorem dX12_ofBoat_5 : decode cX12_ofBoat 5 = .ok (.ifCond .ne 5, 3) := by decide +kernel
theorem dX12_ofBoat_8 : decode cX12_ofBoat 8 = .ok (.iconst (-1), 1) := by decide +kernel
theorem dX12_ofBoat_9 : decode cX12_ofBoat 9 = .ok (.ireturn, 1) := by decide +kernel
theorem dX12_ofBoat_10 : decode cX12_ofBoat 10 = .ok (.iload_n 2, 1) := by decide +kernel
theorem dX12_ofBoat_11 : decode cX12_ofBoat 11 = .ok (.tableswitch 78 0 3 #[29, 36, 43, 50], 29) := by decide +kernel
theorem dX12_ofBoat_40 : decode cX12_ofBoat 40 = .ok (.aload_n 0, 1) := by decide +kernel
theorem dX12_ofBoat_41 : decode cX12_ofBoat 41 = .ok (.getfield 26, 3) := by decide +kernel
theorem dX12_ofBoat_44 : decode cX12_ofBoat 44 = .ok (.iload_n 1, 1) := by decide +kernel
theorem dX12_ofBoat_45 : decode cX12_ofBoat 45 = .ok (.iaload, 1) := by decide +kernel
theorem dX12_ofBoat_46 : decode cX12_ofBoat 46 = .ok (.ireturn, 1) := by decide +kernel
theorem dX12_ofBoat_47 : decode cX12_ofBoat 47 = .ok (.aload_n 0, 1) := by decide +kernel
theorem dX12_ofBoat_48 : decode cX12_ofBoat 48 = .ok (.getfield 29, 3) := by decide +kernel
theorem dX12_ofBoat_51 : decode cX12_ofBoat 51 = .ok (.iload_n 1, 1) := by decide +kernel
theorem dX12_ofBoat_52 : decode cX12_ofBoat 52 = .ok (.iaload, 1) := by decide +kernel
theorem dX12_ofBoat_53 : decode cX12_ofBoat 53 = .ok (.ireturn, 1) := by decide +kernel
theorem dX12_ofBoat_54 : decode cX12_ofBoat 54 = .ok (.aload_n 0, 1) := by decide +kernel
theorem dX12_ofBoat_55 : decode cX12_ofBoat 55 = .ok (.getfield 32, 3) := by decide +kernel
theorem dX12_ofBoat_58 : decode cX12_ofBoat 58 = .ok (.iload_n 1, 1) := by decide +kernel
theorem dX12_ofBoat_59 : decode cX12_ofBoat 59 = .ok (.iaload, 1) := by decide +kernel
theorem dX12_ofBoat_60 : decode cX12_ofBoat 60 = .ok (.ireturn, 1) := by decide +kernel
theorem dX12_ofBoat_61 : decode cX12_ofBoat 61 = .ok (.aload_n 0, 1) := by decide +kernel
theorem dX12_ofBoat_62 : decode cX12_ofBoat 62 = .ok (.getfield 26, 3) := by decide +kernel
theorem dX12_ofBoat_65 : decode cX12_ofBoat 65 = .ok (.iload_n 1, 1) := by decide +kernel
theorem dX12_ofBoat_66 : decode cX12_ofBoat 66 = .ok (.iaload, 1) := by decide +kernel
theorem dX12_ofBoat_67 : decode cX12_ofBoat 67 = .ok (.iconst 1, 1) := by decide +kernel
theorem dX12_ofBoat_68 : decode cX12_ofBoat 68 = .ok (.if_icmp .ne 14, 3) := by decide +kernel
theorem dX12_ofBoat_71 : decode cX12_ofBoat 71 = .ok (.aload_n 0, 1) := by decide +kernel
theorem dX12_ofBoat_72 : decode cX12_ofBoat 72 = .ok (.getfield 32, 3) := by decide +kernel
theorem dX12_ofBoat_75 : decode cX12_ofBoat 75 = .ok (.iload_n 1, 1) := by decide +kernel
theorem dX12_ofBoat_76 : decode cX12_ofBoat 76 = .ok (.iaload, 1) := by decide +kernel
theorem dX12_ofBoat_77 : decode cX12_ofBoat 77 = .ok (.iconst 1, 1) := by decide +kernel
theorem dX12_ofBoat_78 : decode cX12_ofBoat 78 = .ok (.iadd, 1) := by decide +kernel
theorem dX12_ofBoat_79 : decode cX12_ofBoat 79 = .ok (.goto 9, 3) := by decide +kernel
theorem dX12_ofBoat_82 : decode cX12_ofBoat 82 = .ok (.aload_n 0, 1) := by decide +kernel
theorem dX12_ofBoat_83 : decode cX12_ofBoat 83 = .ok (.getfield 32, 3) := by decide +kernel
theorem dX12_ofBoat_86 : decode cX12_ofBoat 86 = .ok (.iload_n 1, 1) := by decide +kernel
theorem dX12_ofBoat_87 : decode cX12_ofBoat 87 = .ok (.iaload, 1) := by decide +kernel
theorem dX12_ofBoat_88 : decode cX12_ofBoat 88 = .ok (.ireturn, 1) := by decide +kernel
theorem dX12_ofBoat_89 : decode cX12_ofBoat 89 = .ok (.bipush (-2), 2) := by decide +kernel
theorem dX12_ofBoat_91 : decode cX12_ofBoat 91 = .ok (.ireturn, 1) := by decide +kernel
theorem dX12_wind_0 : decode cX12_wind 0 = .ok (.aload_n 0, 1) := by decide +kernel
theorem dX12_wind_1 : decode cX12_wind 1 = .ok (.getfield 75, 3) := by decide +kernel
theorem dX12_wind_4 : decode cX12_wind 4 = .ok (.ifCond .ne 6, 3) := by decide +kernel
theorem dX12_wind_7 : decode cX12_wind 7 = .ok (.bipush (-3), 2) := by decide +kernel
theorem dX12_wind_9 : decode cX12_wind 9 = .ok (.ireturn, 1) := by decide +kernel
theorem dX12_wind_10 : decode cX12_wind 10 = .ok (.aload_n 0, 1) := by decide +kernel
theorem dX12_wind_11 : decode cX12_wind 11 = .ok (.iload_n 1, 1) := by decide +kernel
theorem dX12_wind_12 : decode cX12_wind 12 = .ok (.invokevirtual 137, 3) := by decide +kernel
theorem dX12_wind_15 : decode cX12_wind 15 = .ok (.ifCond .eq 12, 3) := by decide +kernel
theorem dX12_wind_18 : decode cX12_wind 18 = .ok (.iload_n 2, 1) := by decide +kernel
theorem dX12_wind_19 : decode cX12_wind 19 = .ok (.iconst 0, 1) := by decide +kernel
theorem dX12_wind_20 : decode cX12_wind 20 = .ok (.iconst 2, 1) := by decide +kernel
theorem dX12_wind_21 : decode cX12_wind 21 = .ok (.invokestatic 71, 3) := by decide +kernel
theorem dX12_wind_24 : decode cX12_wind 24 = .ok (.ifCond .ne 6, 3) := by decide +kernel
theorem dX12_wind_27 : decode cX12_wind 27 = .ok (.bipush (-2), 2) := by decide +kernel
theorem dX12_wind_29 : decode cX12_wind 29 = .ok (.ireturn, 1) := by decide +kernel
theorem dX12_wind_30 : decode cX12_wind 30 = .ok (.aload_n 0, 1) := by decide +kernel
theorem dX12_wind_31 : decode cX12_wind 31 = .ok (.getfield 23, 3) := by decide +kernel
theorem dX12_wind_34 : decode cX12_wind 34 = .ok (.iload_n 1, 1) := by decide +kernel
theorem dX12_wind_35 : decode cX12_wind 35 = .ok (.iaload, 1) := by decide +kernel
theorem dX12_wind_36 : decode cX12_wind 36 = .ok (.istore_n 3, 1) := by decide +kernel
theorem dX12_wind_37 : decode cX12_wind 37 = .ok (.aload_n 0, 1) := by decide +kernel
theorem dX12_wind_38 : decode cX12_wind 38 = .ok (.getfield 23, 3) := by decide +kernel
theorem dX12_wind_41 : decode cX12_wind 41 = .ok (.iload_n 1, 1) := by decide +kernel
theorem dX12_wind_42 : decode cX12_wind 42 = .ok (.iload_n 2, 1) := by decide +kernel
theorem dX12_wind_43 : decode cX12_wind 43 = .ok (.iastore, 1) := by decide +kernel
theorem dX12_wind_44 : decode cX12_wind 44 = .ok (.iload_n 3, 1) := by decide +kernel
theorem dX12_wind_45 : decode cX12_wind 45 = .ok (.ireturn, 1) := by decide +kernel
theorem dX12_isle_0 : decode cX12_isle 0 = .ok (.aload_n 0, 1) := by decide +kernel
theorem dX12_isle_1 : decode cX12_isle 1 = .ok (.getfield 75, 3) := by decide +kernel
theorem dX12_isle_4 : decode cX12_isle 4 = .ok (.ifCond .ne 6, 3) := by decide +kernel
theorem dX12_isle_7 : decode cX12_isle 7 = .ok (.bipush (-3), 2) := by decide +kernel
theorem dX12_isle_9 : decode cX12_isle 9 = .ok (.ireturn, 1) := by decide +kernel
theorem dX12_isle_10 : decode cX12_isle 10 = .ok (.iload_n 1, 1) := by decide +kernel
theorem dX12_isle_11 : decode cX12_isle 11 = .ok (.iconst 1, 1) := by decide +kernel
theorem dX12_isle_12 : decode cX12_isle 12 = .ok (.aload_n 0, 1) := by decide +kernel
theorem dX12_isle_13 : decode cX12_isle 13 = .ok (.getfield 108, 3) := by decide +kernel
theorem dX12_isle_16 : decode cX12_isle 16 = .ok (.iconst 1, 1) := by decide +kernel
theorem dX12_isle_17 : decode cX12_isle 17 = .ok (.isub, 1) := by decide +kernel
theorem dX12_isle_18 : decode cX12_isle 18 = .ok (.invokestatic 71, 3) := by decide +kernel
theorem dX12_isle_21 : decode cX12_isle 21 = .ok (.ifCond .ne 6, 3) := by decide +kernel
theorem dX12_isle_24 : decode cX12_isle 24 = .ok (.bipush (-2), 2) := by decide +kernel
theorem dX12_isle_26 : decode cX12_isle 26 = .ok (.ireturn, 1) := by decide +kernel
theorem dX12_isle_27 : decode cX12_isle 27 = .ok (.aload_n 0, 1) := by decide +kernel
theorem dX12_isle_28 : decode cX12_isle 28 = .ok (.getfield 19, 3) := by decide +kernel
theorem dX12_isle_31 : decode cX12_isle 31 = .ok (.iload_n 1, 1) := by decide +kernel
theorem dX12_isle_32 : decode cX12_isle 32 = .ok (.baload, 1) := by decide +kernel
theorem dX12_isle_33 : decode cX12_isle 33 = .ok (.istore_n 3, 1) := by decide +kernel
theorem dX12_isle_34 : decode cX12_isle 34 = .ok (.aload_n 0, 1) := by decide +kernel
theorem dX12_isle_35 : decode cX12_isle 35 = .ok (.getfield 19, 3) := by decide +kernel
theorem dX12_isle_38 : decode cX12_isle 38 = .ok (.iload_n 1, 1) := by decide +kernel
theorem dX12_isle_39 : decode cX12_isle 39 = .ok (.iload_n 2, 1) := by decide +kernel
theorem dX12_isle_40 : decode cX12_isle 40 = .ok (.bastore, 1) := by decide +kernel
theorem dX12_isle_41 : decode cX12_isle 41 = .ok (.iload_n 3, 1) := by decide +kernel
theorem dX12_isle_42 : decode cX12_isle 42 = .ok (.iload_n 2, 1) := by decide +kernel
theorem dX12_isle_43 : decode cX12_isle 43 = .ok (.if_icmp .ne 7, 3) := by decide +kernel
theorem dX12_isle_46 : decode cX12_isle 46 = .ok (.iconst 0, 1) := by decide +kernel
theorem dX12_isle_47 : decode cX12_isle 47 = .ok (.goto 4, 3) := by decide +kernel
theorem dX12_isle_50 : decode cX12_isle 50 = .ok (.iconst 1, 1) := by decide +kernel
theorem dX12_isle_51 : decode cX12_isle 51 = .ok (.ireturn, 1) := by decide +kernel
theorem dX12_asNumber_0 : decode cX12_asNumber 0 = .ok (.iconst 0, 1) := by decide +kernel
theorem dX12_asNumber_1 : decode cX12_asNumber 1 = .ok (.istore_n 1, 1) := by decide +kernel
theorem dX12_asNumber_2 : decode cX12_asNumber 2 = .ok (.aload_n 0, 1) := by decide +kernel
theorem dX12_asNumber_3 : decode cX12_asNumber 3 = .ok (.getfield 75, 3) := by decide +kernel
theorem dX12_asNumber_6 : decode cX12_asNumber 6 = .ok (.iconst 1, 1) := by decide +kernel
theorem dX12_asNumber_7 : decode cX12_asNumber 7 = .ok (.isub, 1) := by decide +kernel
theorem dX12_asNumber_8 : decode cX12_asNumber 8 = .ok (.istore_n 2, 1) := by decide +kernel
theorem dX12_asNumber_9 : decode cX12_asNumber 9 = .ok (.iload_n 2, 1) := by decide +kernel
theorem dX12_asNumber_10 : decode cX12_asNumber 10 = .ok (.ifCond .lt 20, 3) := by decide +kernel
theorem dX12_asNumber_13 : decode cX12_asNumber 13 = .ok (.iconst 5, 1) := by decide +kernel
theorem dX12_asNumber_14 : decode cX12_asNumber 14 = .ok (.iload_n 1, 1) := by decide +kernel
theorem dX12_asNumber_15 : decode cX12_asNumber 15 = .ok (.imul, 1) := by decide +kernel
theorem dX12_asNumber_16 : decode cX12_asNumber 16 = .ok (.aload_n 0, 1) := by decide +kernel
theorem dX12_asNumber_17 : decode cX12_asNumber 17 = .ok (.getfield 44, 3) := by decide +kernel
theorem dX12_asNumber_20 : decode cX12_asNumber 20 = .ok (.iload_n 2, 1) := by decide +kernel
theorem dX12_asNumber_21 : decode cX12_asNumber 21 = .ok (.iaload, 1) := by decide +kernel
theorem dX12_asNumber_22 : decode cX12_asNumber 22 = .ok (.iadd, 1) := by decide +kernel
theorem dX12_asNumber_23 : decode cX12_asNumber 23 = .ok (.istore_n 1, 1) := by decide +kernel
theorem dX12_asNumber_24 : decode cX12_asNumber 24 = .ok (.iinc 2 (-1), 3) := by decide +kernel
theorem dX12_asNumber_27 : decode cX12_asNumber 27 = .ok (.goto (-18), 3) := by decide +kernel
theorem dX12_asNumber_30 : decode cX12_asNumber 30 = .ok (.iload_n 1, 1) := by decide +kernel
theorem dX12_asNumber_31 : decode cX12_asNumber 31 = .ok (.ireturn, 1) := by decide +kernel
theorem dX12_asPlaces_0 : decode cX12_asPlaces 0 = .ok (.iload_n 1, 1) := by decide +kernel
theorem dX12_asPlaces_1 : decode cX12_asPlaces 1 = .ok (.istore_n 2, 1) := by decide +kernel
theorem dX12_asPlaces_2 : decode cX12_asPlaces 2 = .ok (.iconst 0, 1) := by decide +kernel
theorem dX12_asPlaces_3 : decode cX12_asPlaces 3 = .ok (.istore_n 3, 1) := by decide +kernel
theorem dX12_asPlaces_4 : decode cX12_asPlaces 4 = .ok (.iload_n 3, 1) := by decide +kernel
theorem dX12_asPlaces_5 : decode cX12_asPlaces 5 = .ok (.aload_n 0, 1) := by decide +kernel
theorem dX12_asPlaces_6 : decode cX12_asPlaces 6 = .ok (.getfield 75, 3) := by decide +kernel
theorem dX12_asPlaces_9 : decode cX12_asPlaces 9 = .ok (.if_icmp .ge 22, 3) := by decide +kernel
theorem dX12_asPlaces_12 : decode cX12_asPlaces 12 = .ok (.aload_n 0, 1) := by decide +kernel
theorem dX12_asPlaces_13 : decode cX12_asPlaces 13 = .ok (.getfield 44, 3) := by decide +kernel
theorem dX12_asPlaces_16 : decode cX12_asPlaces 16 = .ok (.iload_n 3, 1) := by decide +kernel
theorem dX12_asPlaces_17 : decode cX12_asPlaces 17 = .ok (.iload_n 2, 1) := by decide +kernel
theorem dX12_asPlaces_18 : decode cX12_asPlaces 18 = .ok (.iconst 5, 1) := by decide +kernel
theorem dX12_asPlaces_19 : decode cX12_asPlaces 19 = .ok (.irem, 1) := by decide +kernel
theorem dX12_asPlaces_20 : decode cX12_asPlaces 20 = .ok (.iastore, 1) := by decide +kernel
theorem dX12_asPlaces_21 : decode cX12_asPlaces 21 = .ok (.iload_n 2, 1) := by decide +kernel
theorem dX12_asPlaces_22 : decode cX12_asPlaces 22 = .ok (.iconst 5, 1) := by decide +kernel
theorem dX12_asPlaces_23 : decode cX12_asPlaces 23 = .ok (.idiv, 1) := by decide +kernel
theorem dX12_asPlaces_24 : decode cX12_asPlaces 24 = .ok (.istore_n 2, 1) := by decide +kernel
theorem dX12_asPlaces_25 : decode cX12_asPlaces 25 = .ok (.iinc 3 1, 3) := by decide +kernel
theorem dX12_asPlaces_28 : decode cX12_asPlaces 28 = .ok (.goto (-24), 3) := by decide +kernel
theorem dX12_asPlaces_31 : decode cX12_asPlaces 31 = .ok (.return_, 1) := by decide +kernel
theorem dX12_begins_0 : decode cX12_begins 0 = .ok (.iconst 0, 1) := by decide +kernel
theorem dX12_begins_1 : decode cX12_begins 1 = .ok (.istore_n 2, 1) := by decide +kernel
theorem dX12_begins_2 : decode cX12_begins 2 = .ok (.iload_n 2, 1) := by decide +kernel
theorem dX12_begins_3 : decode cX12_begins 3 = .ok (.aload_n 0, 1) := by decide +kernel
theorem dX12_begins_4 : decode cX12_begins 4 = .ok (.getfield 75, 3) := by decide +kernel
theorem dX12_begins_7 : decode cX12_begins 7 = .ok (.if_icmp .ge 32, 3) := by decide +kernel
theorem dX12_begins_10 : decode cX12_begins 10 = .ok (.aload_n 0, 1) := by decide +kernel
theorem dX12_begins_11 : decode cX12_begins 11 = .ok (.getfield 44, 3) := by decide +kernel
theorem dX12_begins_14 : decode cX12_begins 14 = .ok (.iload_n 2, 1) := by decide +kernel
theorem dX12_begins_15 : decode cX12_begins 15 = .ok (.aload_n 0, 1) := by decide +kernel
theorem dX12_begins_16 : decode cX12_begins 16 = .ok (.getfield 29, 3) := by decide +kernel
theorem dX12_begins_19 : decode cX12_begins 19 = .ok (.iload_n 2, 1) := by decide +kernel
theorem dX12_begins_20 : decode cX12_begins 20 = .ok (.iaload, 1) := by decide +kernel
theorem dX12_begins_21 : decode cX12_begins 21 = .ok (.ifCond .ne 7, 3) := by decide +kernel
theorem dX12_begins_24 : decode cX12_begins 24 = .ok (.iconst 0, 1) := by decide +kernel
theorem dX12_begins_25 : decode cX12_begins 25 = .ok (.goto 7, 3) := by decide +kernel
theorem dX12_begins_28 : decode cX12_begins 28 = .ok (.aload_n 0, 1) := by decide +kernel
theorem dX12_begins_29 : decode cX12_begins 29 = .ok (.getfield 108, 3) := by decide +kernel
theorem dX12_begins_32 : decode cX12_begins 32 = .ok (.iastore, 1) := by decide +kernel
theorem dX12_begins_33 : decode cX12_begins 33 = .ok (.iinc 2 1, 3) := by decide +kernel
theorem dX12_begins_36 : decode cX12_begins 36 = .ok (.goto (-34), 3) := by decide +kernel
theorem dX12_begins_39 : decode cX12_begins 39 = .ok (.iload_n 1, 1) := by decide +kernel
theorem dX12_begins_40 : decode cX12_begins 40 = .ok (.ifCond .eq 10, 3) := by decide +kernel
theorem dX12_begins_43 : decode cX12_begins 43 = .ok (.aload_n 0, 1) := by decide +kernel
theorem dX12_begins_44 : decode cX12_begins 44 = .ok (.invokevirtual 140, 3) := by decide +kernel
theorem dX12_begins_47 : decode cX12_begins 47 = .ok (.goto 4, 3) := by decide +kernel
theorem dX12_begins_50 : decode cX12_begins 50 = .ok (.iconst 0, 1) := by decide +kernel
theorem dX12_begins_51 : decode cX12_begins 51 = .ok (.ireturn, 1) := by decide +kernel
theorem dX12_isOver_0 : decode cX12_isOver 0 = .ok (.aload_n 0, 1) := by decide +kernel
theorem dX12_isOver_1 : decode cX12_isOver 1 = .ok (.getfield 44, 3) := by decide +kernel
theorem dX12_isOver_4 : decode cX12_isOver 4 = .ok (.iload_n 1, 1) := by decide +kernel
theorem dX12_isOver_5 : decode cX12_isOver 5 = .ok (.iaload, 1) := by decide +kernel
theorem dX12_isOver_6 : decode cX12_isOver 6 = .ok (.aload_n 0, 1) := by decide +kernel
theorem dX12_isOver_7 : decode cX12_isOver 7 = .ok (.getfield 29, 3) := by decide +kernel
theorem dX12_isOver_10 : decode cX12_isOver 10 = .ok (.iload_n 1, 1) := by decide +kernel
theorem dX12_isOver_11 : decode cX12_isOver 11 = .ok (.iaload, 1) := by decide +kernel
theorem dX12_isOver_12 : decode cX12_isOver 12 = .ok (.ifCond .ne 10, 3) := by decide +kernel
theorem dX12_isOver_15 : decode cX12_isOver 15 = .ok (.aload_n 0, 1) := by decide +kernel
theorem dX12_isOver_16 : decode cX12_isOver 16 = .ok (.getfield 108, 3) := by decide +kernel
theorem dX12_isOver_19 : decode cX12_isOver 19 = .ok (.goto 4, 3) := by decide +kernel
theorem dX12_isOver_22 : decode cX12_isOver 22 = .ok (.iconst 0, 1) := by decide +kernel
theorem dX12_isOver_23 : decode cX12_isOver 23 = .ok (.if_icmp .ne 7, 3) := by decide +kernel
theorem dX12_isOver_26 : decode cX12_isOver 26 = .ok (.iconst 1, 1) := by decide +kernel
theorem dX12_isOver_27 : decode cX12_isOver 27 = .ok (.goto 4, 3) := by decide +kernel
theorem dX12_isOver_30 : decode cX12_isOver 30 = .ok (.iconst 0, 1) := by decide +kernel
theorem dX12_isOver_31 : decode cX12_isOver 31 = .ok (.ireturn, 1) := by decide +kernel
theorem dX12_over_0 : decode cX12_over 0 = .ok (.iconst 0, 1) := by decide +kernel
theorem dX12_over_1 : decode cX12_over 1 = .ok (.istore_n 1, 1) := by decide +kernel
theorem dX12_over_2 : decode cX12_over 2 = .ok (.iconst 0, 1) := by decide +kernel
theorem dX12_over_3 : decode cX12_over 3 = .ok (.istore_n 2, 1) := by decide +kernel
theorem dX12_over_4 : decode cX12_over 4 = .ok (.iload_n 2, 1) := by decide +kernel
theorem dX12_over_5 : decode cX12_over 5 = .ok (.aload_n 0, 1) := by decide +kernel
theorem dX12_over_6 : decode cX12_over 6 = .ok (.getfield 75, 3) := by decide +kernel
theorem dX12_over_9 : decode cX12_over 9 = .ok (.if_icmp .ge 27, 3) := by decide +kernel
theorem dX12_over_12 : decode cX12_over 12 = .ok (.iload_n 1, 1) := by decide +kernel
theorem dX12_over_13 : decode cX12_over 13 = .ok (.aload_n 0, 1) := by decide +kernel
theorem dX12_over_14 : decode cX12_over 14 = .ok (.iload_n 2, 1) := by decide +kernel
theorem dX12_over_15 : decode cX12_over 15 = .ok (.invokevirtual 144, 3) := by decide +kernel
theorem dX12_over_18 : decode cX12_over 18 = .ok (.ifCond .eq 9, 3) := by decide +kernel
theorem dX12_over_21 : decode cX12_over 21 = .ok (.iconst 1, 1) := by decide +kernel
theorem dX12_over_22 : decode cX12_over 22 = .ok (.iload_n 2, 1) := by decide +kernel
theorem dX12_over_23 : decode cX12_over 23 = .ok (.ishl, 1) := by decide +kernel
theorem dX12_over_24 : decode cX12_over 24 = .ok (.goto 4, 3) := by decide +kernel
theorem dX12_over_27 : decode cX12_over 27 = .ok (.iconst 0, 1) := by decide +kernel
theorem dX12_over_28 : decode cX12_over 28 = .ok (.ior, 1) := by decide +kernel
theorem dX12_over_29 : decode cX12_over 29 = .ok (.istore_n 1, 1) := by decide +kernel
theorem dX12_over_30 : decode cX12_over 30 = .ok (.iinc 2 1, 3) := by decide +kernel
theorem dX12_over_33 : decode cX12_over 33 = .ok (.goto (-29), 3) := by decide +kernel
theorem dX12_over_36 : decode cX12_over 36 = .ok (.iload_n 1, 1) := by decide +kernel
theorem dX12_over_37 : decode cX12_over 37 = .ok (.ireturn, 1) := by decide +kernel
theorem dX12_isWith_0 : decode cX12_isWith 0 = .ok (.iload_n 2, 1) := by decide +kernel
theorem dX12_isWith_1 : decode cX12_isWith 1 = .ok (.aload_n 0, 1) := by decide +kernel
theorem dX12_isWith_2 : decode cX12_isWith 2 = .ok (.getfield 29, 3) := by decide +kernel
theorem dX12_isWith_5 : decode cX12_isWith 5 = .ok (.iload_n 1, 1) := by decide +kernel
theorem dX12_isWith_6 : decode cX12_isWith 6 = .ok (.iaload, 1) := by decide +kernel
theorem dX12_isWith_7 : decode cX12_isWith 7 = .ok (.iconst 1, 1) := by decide +kernel
theorem dX12_isWith_8 : decode cX12_isWith 8 = .ok (.iadd, 1) := by decide +kernel
theorem dX12_isWith_9 : decode cX12_isWith 9 = .ok (.if_icmp .ne 7, 3) := by decide +kernel
theorem dX12_isWith_12 : decode cX12_isWith 12 = .ok (.iconst 1, 1) := by decide +kernel
theorem dX12_isWith_13 : decode cX12_isWith 13 = .ok (.goto 4, 3) := by decide +kernel
theorem dX12_isWith_16 : decode cX12_isWith 16 = .ok (.iconst 0, 1) := by decide +kernel
theorem dX12_isWith_17 : decode cX12_isWith 17 = .ok (.ireturn, 1) := by decide +kernel
theorem dX12_finedBy_0 : decode cX12_finedBy 0 = .ok (.iconst 0, 1) := by decide +kernel
theorem dX12_finedBy_1 : decode cX12_finedBy 1 = .ok (.istore_n 3, 1) := by decide +kernel
theorem dX12_finedBy_2 : decode cX12_finedBy 2 = .ok (.iconst 0, 1) := by decide +kernel
theorem dX12_finedBy_3 : decode cX12_finedBy 3 = .ok (.istore 4, 2) := by decide +kernel
theorem dX12_finedBy_5 : decode cX12_finedBy 5 = .ok (.iload 4, 2) := by decide +kernel
theorem dX12_finedBy_7 : decode cX12_finedBy 7 = .ok (.aload_n 0, 1) := by decide +kernel
theorem dX12_finedBy_8 : decode cX12_finedBy 8 = .ok (.getfield 75, 3) := by decide +kernel
theorem dX12_finedBy_11 : decode cX12_finedBy 11 = .ok (.if_icmp .ge 57, 3) := by decide +kernel
theorem dX12_finedBy_14 : decode cX12_finedBy 14 = .ok (.iload_n 3, 1) := by decide +kernel
theorem dX12_finedBy_15 : decode cX12_finedBy 15 = .ok (.iload_n 1, 1) := by decide +kernel
theorem dX12_finedBy_16 : decode cX12_finedBy 16 = .ok (.iload 4, 2) := by decide +kernel
theorem dX12_finedBy_18 : decode cX12_finedBy 18 = .ok (.ishr, 1) := by decide +kernel
theorem dX12_finedBy_19 : decode cX12_finedBy 19 = .ok (.iconst 1, 1) := by decide +kernel
theorem dX12_finedBy_20 : decode cX12_finedBy 20 = .ok (.iand, 1) := by decide +kernel
theorem dX12_finedBy_21 : decode cX12_finedBy 21 = .ok (.iconst 1, 1) := by decide +kernel
theorem dX12_finedBy_22 : decode cX12_finedBy 22 = .ok (.if_icmp .ne 37, 3) := by decide +kernel
theorem dX12_finedBy_25 : decode cX12_finedBy 25 = .ok (.aload_n 0, 1) := by decide +kernel
theorem dX12_finedBy_26 : decode cX12_finedBy 26 = .ok (.iload 4, 2) := by decide +kernel
theorem dX12_finedBy_28 : decode cX12_finedBy 28 = .ok (.invokevirtual 144, 3) := by decide +kernel
theorem dX12_finedBy_31 : decode cX12_finedBy 31 = .ok (.ifCond .ne 28, 3) := by decide +kernel
theorem dX12_finedBy_34 : decode cX12_finedBy 34 = .ok (.aload_n 0, 1) := by decide +kernel
theorem dX12_finedBy_35 : decode cX12_finedBy 35 = .ok (.iload 4, 2) := by decide +kernel
theorem dX12_finedBy_37 : decode cX12_finedBy 37 = .ok (.iload_n 2, 1) := by decide +kernel
theorem dX12_finedBy_38 : decode cX12_finedBy 38 = .ok (.invokevirtual 147, 3) := by decide +kernel
theorem dX12_finedBy_41 : decode cX12_finedBy 41 = .ok (.ifCond .eq 18, 3) := by decide +kernel
theorem dX12_finedBy_44 : decode cX12_finedBy 44 = .ok (.aload_n 0, 1) := by decide +kernel
theorem dX12_finedBy_45 : decode cX12_finedBy 45 = .ok (.getfield 26, 3) := by decide +kernel
theorem dX12_finedBy_48 : decode cX12_finedBy 48 = .ok (.iload 4, 2) := by decide +kernel
theorem dX12_finedBy_50 : decode cX12_finedBy 50 = .ok (.iaload, 1) := by decide +kernel
theorem dX12_finedBy_51 : decode cX12_finedBy 51 = .ok (.iconst 2, 1) := by decide +kernel
theorem dX12_finedBy_52 : decode cX12_finedBy 52 = .ok (.if_icmp .eq 7, 3) := by decide +kernel
theorem dX12_finedBy_55 : decode cX12_finedBy 55 = .ok (.iconst 1, 1) := by decide +kernel
theorem dX12_finedBy_56 : decode cX12_finedBy 56 = .ok (.goto 4, 3) := by decide +kernel
theorem dX12_finedBy_59 : decode cX12_finedBy 59 = .ok (.iconst 0, 1) := by decide +kernel
theorem dX12_finedBy_60 : decode cX12_finedBy 60 = .ok (.iadd, 1) := by decide +kernel
theorem dX12_finedBy_61 : decode cX12_finedBy 61 = .ok (.istore_n 3, 1) := by decide +kernel
theorem dX12_finedBy_62 : decode cX12_finedBy 62 = .ok (.iinc 4 1, 3) := by decide +kernel
theorem dX12_finedBy_65 : decode cX12_finedBy 65 = .ok (.goto (-60), 3) := by decide +kernel
theorem dX12_finedBy_68 : decode cX12_finedBy 68 = .ok (.iload_n 3, 1) := by decide +kernel
theorem dX12_finedBy_69 : decode cX12_finedBy 69 = .ok (.iconst 2, 1) := by decide +kernel
theorem dX12_finedBy_70 : decode cX12_finedBy 70 = .ok (.if_icmp .ge 7, 3) := by decide +kernel
theorem dX12_finedBy_73 : decode cX12_finedBy 73 = .ok (.iconst 0, 1) := by decide +kernel
theorem dX12_finedBy_74 : decode cX12_finedBy 74 = .ok (.goto 4, 3) := by decide +kernel
theorem dX12_finedBy_77 : decode cX12_finedBy 77 = .ok (.iload_n 3, 1) := by decide +kernel
theorem dX12_finedBy_78 : decode cX12_finedBy 78 = .ok (.ireturn, 1) := by decide +kernel
theorem dX12_bounded_0 : decode cX12_bounded 0 = .ok (.iload_n 1, 1) := by decide +kernel
theorem dX12_bounded_1 : decode cX12_bounded 1 = .ok (.ifCond .ge 7, 3) := by decide +kernel
theorem dX12_bounded_4 : decode cX12_bounded 4 = .ok (.iconst 0, 1) := by decide +kernel
theorem dX12_bounded_5 : decode cX12_bounded 5 = .ok (.goto 19, 3) := by decide +kernel
theorem dX12_bounded_8 : decode cX12_bounded 8 = .ok (.iload_n 1, 1) := by decide +kernel
theorem dX12_bounded_9 : decode cX12_bounded 9 = .ok (.aload_n 0, 1) := by decide +kernel
theorem dX12_bounded_10 : decode cX12_bounded 10 = .ok (.getfield 108, 3) := by decide +kernel
theorem dX12_bounded_13 : decode cX12_bounded 13 = .ok (.if_icmp .le 10, 3) := by decide +kernel
theorem dX12_bounded_16 : decode cX12_bounded 16 = .ok (.aload_n 0, 1) := by decide +kernel
theorem dX12_bounded_17 : decode cX12_bounded 17 = .ok (.getfield 108, 3) := by decide +kernel
theorem dX12_bounded_20 : decode cX12_bounded 20 = .ok (.goto 4, 3) := by decide +kernel
theorem dX12_bounded_23 : decode cX12_bounded 23 = .ok (.iload_n 1, 1) := by decide +kernel
theorem dX12_bounded_24 : decode cX12_bounded 24 = .ok (.ireturn, 1) := by decide +kernel
theorem dX12_goHour_0 : decode cX12_goHour 0 = .ok (.iconst 0, 1) := by decide +kernel
theorem dX12_goHour_1 : decode cX12_goHour 1 = .ok (.istore_n 3, 1) := by decide +kernel
theorem dX12_goHour_2 : decode cX12_goHour 2 = .ok (.iload_n 3, 1) := by decide +kernel
theorem dX12_goHour_3 : decode cX12_goHour 3 = .ok (.aload_n 0, 1) := by decide +kernel
theorem dX12_goHour_4 : decode cX12_goHour 4 = .ok (.getfield 75, 3) := by decide +kernel
theorem dX12_goHour_7 : decode cX12_goHour 7 = .ok (.if_icmp .ge 164, 3) := by decide +kernel
theorem dX12_goHour_10 : decode cX12_goHour 10 = .ok (.iload_n 2, 1) := by decide +kernel
theorem dX12_goHour_11 : decode cX12_goHour 11 = .ok (.ifCond .eq 160, 3) := by decide +kernel
theorem dX12_goHour_14 : decode cX12_goHour 14 = .ok (.aload_n 0, 1) := by decide +kernel
theorem dX12_goHour_15 : decode cX12_goHour 15 = .ok (.iload_n 3, 1) := by decide +kernel
theorem dX12_goHour_16 : decode cX12_goHour 16 = .ok (.invokevirtual 144, 3) := by decide +kernel
theorem dX12_goHour_19 : decode cX12_goHour 19 = .ok (.ifCond .ne 146, 3) := by decide +kernel
theorem dX12_goHour_22 : decode cX12_goHour 22 = .ok (.aload_n 0, 1) := by decide +kernel
theorem dX12_goHour_23 : decode cX12_goHour 23 = .ok (.getfield 29, 3) := by decide +kernel
theorem dX12_goHour_26 : decode cX12_goHour 26 = .ok (.iload_n 3, 1) := by decide +kernel
theorem dX12_goHour_27 : decode cX12_goHour 27 = .ok (.iaload, 1) := by decide +kernel
theorem dX12_goHour_28 : decode cX12_goHour 28 = .ok (.ifCond .ne 7, 3) := by decide +kernel
theorem dX12_goHour_31 : decode cX12_goHour 31 = .ok (.iconst 1, 1) := by decide +kernel
theorem dX12_goHour_32 : decode cX12_goHour 32 = .ok (.goto 4, 3) := by decide +kernel
theorem dX12_goHour_35 : decode cX12_goHour 35 = .ok (.iconst (-1), 1) := by decide +kernel
theorem dX12_goHour_36 : decode cX12_goHour 36 = .ok (.istore 4, 2) := by decide +kernel
theorem dX12_goHour_38 : decode cX12_goHour 38 = .ok (.iload_n 1, 1) := by decide +kernel
theorem dX12_goHour_39 : decode cX12_goHour 39 = .ok (.iload_n 3, 1) := by decide +kernel
theorem dX12_goHour_40 : decode cX12_goHour 40 = .ok (.ishr, 1) := by decide +kernel
theorem dX12_goHour_41 : decode cX12_goHour 41 = .ok (.iconst 1, 1) := by decide +kernel
theorem dX12_goHour_42 : decode cX12_goHour 42 = .ok (.iand, 1) := by decide +kernel
theorem dX12_goHour_43 : decode cX12_goHour 43 = .ok (.iconst 1, 1) := by decide +kernel
theorem dX12_goHour_44 : decode cX12_goHour 44 = .ok (.if_icmp .ne 66, 3) := by decide +kernel
theorem dX12_goHour_47 : decode cX12_goHour 47 = .ok (.aload_n 0, 1) := by decide +kernel
theorem dX12_goHour_48 : decode cX12_goHour 48 = .ok (.getfield 26, 3) := by decide +kernel
theorem dX12_goHour_51 : decode cX12_goHour 51 = .ok (.iload_n 3, 1) := by decide +kernel
theorem dX12_goHour_52 : decode cX12_goHour 52 = .ok (.iaload, 1) := by decide +kernel
theorem dX12_goHour_53 : decode cX12_goHour 53 = .ok (.iconst 1, 1) := by decide +kernel
theorem dX12_goHour_54 : decode cX12_goHour 54 = .ok (.if_icmp .ne 23, 3) := by decide +kernel
theorem dX12_goHour_57 : decode cX12_goHour 57 = .ok (.aload_n 0, 1) := by decide +kernel
theorem dX12_goHour_58 : decode cX12_goHour 58 = .ok (.iload_n 3, 1) := by decide +kernel
theorem dX12_goHour_59 : decode cX12_goHour 59 = .ok (.iload_n 2, 1) := by decide +kernel
theorem dX12_goHour_60 : decode cX12_goHour 60 = .ok (.invokevirtual 147, 3) := by decide +kernel
theorem dX12_goHour_63 : decode cX12_goHour 63 = .ok (.ifCond .ne 14, 3) := by decide +kernel
theorem dX12_goHour_66 : decode cX12_goHour 66 = .ok (.aload_n 0, 1) := by decide +kernel
theorem dX12_goHour_67 : decode cX12_goHour 67 = .ok (.getfield 32, 3) := by decide +kernel
theorem dX12_goHour_70 : decode cX12_goHour 70 = .ok (.iload_n 3, 1) := by decide +kernel
theorem dX12_goHour_71 : decode cX12_goHour 71 = .ok (.iaload, 1) := by decide +kernel
theorem dX12_goHour_72 : decode cX12_goHour 72 = .ok (.iconst 1, 1) := by decide +kernel
theorem dX12_goHour_73 : decode cX12_goHour 73 = .ok (.iadd, 1) := by decide +kernel
theorem dX12_goHour_74 : decode cX12_goHour 74 = .ok (.goto 9, 3) := by decide +kernel
theorem dX12_goHour_77 : decode cX12_goHour 77 = .ok (.aload_n 0, 1) := by decide +kernel
theorem dX12_goHour_78 : decode cX12_goHour 78 = .ok (.getfield 32, 3) := by decide +kernel
theorem dX12_goHour_81 : decode cX12_goHour 81 = .ok (.iload_n 3, 1) := by decide +kernel
theorem dX12_goHour_82 : decode cX12_goHour 82 = .ok (.iaload, 1) := by decide +kernel
theorem dX12_goHour_83 : decode cX12_goHour 83 = .ok (.istore 5, 2) := by decide +kernel
theorem dX12_goHour_85 : decode cX12_goHour 85 = .ok (.aload_n 0, 1) := by decide +kernel
theorem dX12_goHour_86 : decode cX12_goHour 86 = .ok (.getfield 44, 3) := by decide +kernel
theorem dX12_goHour_89 : decode cX12_goHour 89 = .ok (.iload_n 3, 1) := by decide +kernel
theorem dX12_goHour_90 : decode cX12_goHour 90 = .ok (.aload_n 0, 1) := by decide +kernel
theorem dX12_goHour_91 : decode cX12_goHour 91 = .ok (.aload_n 0, 1) := by decide +kernel
theorem dX12_goHour_92 : decode cX12_goHour 92 = .ok (.getfield 44, 3) := by decide +kernel
theorem dX12_goHour_95 : decode cX12_goHour 95 = .ok (.iload_n 3, 1) := by decide +kernel
theorem dX12_goHour_96 : decode cX12_goHour 96 = .ok (.iaload, 1) := by decide +kernel
theorem dX12_goHour_97 : decode cX12_goHour 97 = .ok (.iload 4, 2) := by decide +kernel
theorem dX12_goHour_99 : decode cX12_goHour 99 = .ok (.iload 5, 2) := by decide +kernel
theorem dX12_goHour_101 : decode cX12_goHour 101 = .ok (.imul, 1) := by decide +kernel
theorem dX12_goHour_102 : decode cX12_goHour 102 = .ok (.iadd, 1) := by decide +kernel
theorem dX12_goHour_103 : decode cX12_goHour 103 = .ok (.invokevirtual 150, 3) := by decide +kernel
theorem dX12_goHour_106 : decode cX12_goHour 106 = .ok (.iastore, 1) := by decide +kernel
theorem dX12_goHour_107 : decode cX12_goHour 107 = .ok (.goto 58, 3) := by decide +kernel
theorem dX12_goHour_110 : decode cX12_goHour 110 = .ok (.aload_n 0, 1) := by decide +kernel
theorem dX12_goHour_111 : decode cX12_goHour 111 = .ok (.getfield 44, 3) := by decide +kernel
theorem dX12_goHour_114 : decode cX12_goHour 114 = .ok (.iload_n 3, 1) := by decide +kernel
theorem dX12_goHour_115 : decode cX12_goHour 115 = .ok (.iaload, 1) := by decide +kernel
theorem dX12_goHour_116 : decode cX12_goHour 116 = .ok (.ifCond .le 49, 3) := by decide +kernel
theorem dX12_goHour_119 : decode cX12_goHour 119 = .ok (.aload_n 0, 1) := by decide +kernel
theorem dX12_goHour_120 : decode cX12_goHour 120 = .ok (.getfield 44, 3) := by decide +kernel
theorem dX12_goHour_123 : decode cX12_goHour 123 = .ok (.iload_n 3, 1) := by decide +kernel
theorem dX12_goHour_124 : decode cX12_goHour 124 = .ok (.iaload, 1) := by decide +kernel
theorem dX12_goHour_125 : decode cX12_goHour 125 = .ok (.aload_n 0, 1) := by decide +kernel
theorem dX12_goHour_126 : decode cX12_goHour 126 = .ok (.getfield 108, 3) := by decide +kernel
theorem dX12_goHour_129 : decode cX12_goHour 129 = .ok (.if_icmp .ge 36, 3) := by decide +kernel
theorem dX12_goHour_132 : decode cX12_goHour 132 = .ok (.aload_n 0, 1) := by decide +kernel
theorem dX12_goHour_133 : decode cX12_goHour 133 = .ok (.getfield 19, 3) := by decide +kernel
theorem dX12_goHour_136 : decode cX12_goHour 136 = .ok (.aload_n 0, 1) := by decide +kernel
theorem dX12_goHour_137 : decode cX12_goHour 137 = .ok (.getfield 44, 3) := by decide +kernel
theorem dX12_goHour_140 : decode cX12_goHour 140 = .ok (.iload_n 3, 1) := by decide +kernel
theorem dX12_goHour_141 : decode cX12_goHour 141 = .ok (.iaload, 1) := by decide +kernel
theorem dX12_goHour_142 : decode cX12_goHour 142 = .ok (.baload, 1) := by decide +kernel
theorem dX12_goHour_143 : decode cX12_goHour 143 = .ok (.ifCond .ne 22, 3) := by decide +kernel
theorem dX12_goHour_146 : decode cX12_goHour 146 = .ok (.aload_n 0, 1) := by decide +kernel
theorem dX12_goHour_147 : decode cX12_goHour 147 = .ok (.getfield 44, 3) := by decide +kernel
theorem dX12_goHour_150 : decode cX12_goHour 150 = .ok (.iload_n 3, 1) := by decide +kernel
theorem dX12_goHour_151 : decode cX12_goHour 151 = .ok (.dup2, 1) := by decide +kernel
theorem dX12_goHour_152 : decode cX12_goHour 152 = .ok (.iaload, 1) := by decide +kernel
theorem dX12_goHour_153 : decode cX12_goHour 153 = .ok (.iload_n 2, 1) := by decide +kernel
theorem dX12_goHour_154 : decode cX12_goHour 154 = .ok (.iconst 1, 1) := by decide +kernel
theorem dX12_goHour_155 : decode cX12_goHour 155 = .ok (.if_icmp .ne 7, 3) := by decide +kernel
theorem dX12_goHour_158 : decode cX12_goHour 158 = .ok (.iconst 1, 1) := by decide +kernel
theorem dX12_goHour_159 : decode cX12_goHour 159 = .ok (.goto 4, 3) := by decide +kernel
theorem dX12_goHour_162 : decode cX12_goHour 162 = .ok (.iconst (-1), 1) := by decide +kernel
theorem dX12_goHour_163 : decode cX12_goHour 163 = .ok (.iadd, 1) := by decide +kernel
theorem dX12_goHour_164 : decode cX12_goHour 164 = .ok (.iastore, 1) := by decide +kernel
theorem dX12_goHour_165 : decode cX12_goHour 165 = .ok (.iinc 3 1, 3) := by decide +kernel
theorem dX12_goHour_168 : decode cX12_goHour 168 = .ok (.goto (-166), 3) := by decide +kernel
theorem dX12_goHour_171 : decode cX12_goHour 171 = .ok (.return_, 1) := by decide +kernel
theorem dX12_layPlan_0 : decode cX12_layPlan 0 = .ok (.aload_n 0, 1) := by decide +kernel
theorem dX12_layPlan_1 : decode cX12_layPlan 1 = .ok (.iload_n 1, 1) := by decide +kernel
theorem dX12_layPlan_2 : decode cX12_layPlan 2 = .ok (.iload_n 2, 1) := by decide +kernel
theorem dX12_layPlan_3 : decode cX12_layPlan 3 = .ok (.iload_n 3, 1) := by decide +kernel
theorem dX12_layPlan_4 : decode cX12_layPlan 4 = .ok (.iload 4, 2) := by decide +kernel
theorem dX12_layPlan_6 : decode cX12_layPlan 6 = .ok (.invokevirtual 91, 3) := by decide +kernel
theorem dX12_layPlan_9 : decode cX12_layPlan 9 = .ok (.istore 5, 2) := by decide +kernel
theorem dX12_layPlan_11 : decode cX12_layPlan 11 = .ok (.iload 5, 2) := by decide +kernel
theorem dX12_layPlan_13 : decode cX12_layPlan 13 = .ok (.ifCond .eq 10, 3) := by decide +kernel
theorem dX12_layPlan_16 : decode cX12_layPlan 16 = .ok (.aload_n 0, 1) := by decide +kernel
theorem dX12_layPlan_17 : decode cX12_layPlan 17 = .ok (.iload 5, 2) := by decide +kernel
theorem dX12_layPlan_19 : decode cX12_layPlan 19 = .ok (.invokevirtual 95, 3) := by decide +kernel
theorem dX12_layPlan_22 : decode cX12_layPlan 22 = .ok (.ireturn, 1) := by decide +kernel
theorem dX12_layPlan_23 : decode cX12_layPlan 23 = .ok (.aload_n 0, 1) := by decide +kernel
theorem dX12_layPlan_24 : decode cX12_layPlan 24 = .ok (.getfield 75, 3) := by decide +kernel
theorem dX12_layPlan_27 : decode cX12_layPlan 27 = .ok (.ifCond .ne 6, 3) := by decide +kernel
theorem dX12_layPlan_30 : decode cX12_layPlan 30 = .ok (.bipush (-3), 2) := by decide +kernel
theorem dX12_layPlan_32 : decode cX12_layPlan 32 = .ok (.ireturn, 1) := by decide +kernel
theorem dX12_layPlan_33 : decode cX12_layPlan 33 = .ok (.iload 4, 2) := by decide +kernel
theorem dX12_layPlan_35 : decode cX12_layPlan 35 = .ok (.aload_n 0, 1) := by decide +kernel
theorem dX12_layPlan_36 : decode cX12_layPlan 36 = .ok (.getfield 78, 3) := by decide +kernel
theorem dX12_layPlan_39 : decode cX12_layPlan 39 = .ok (.if_icmp .le 6, 3) := by decide +kernel
theorem dX12_layPlan_42 : decode cX12_layPlan 42 = .ok (.bipush (-2), 2) := by decide +kernel
theorem dX12_layPlan_44 : decode cX12_layPlan 44 = .ok (.ireturn, 1) := by decide +kernel
theorem dX12_layPlan_45 : decode cX12_layPlan 45 = .ok (.iconst 0, 1) := by decide +kernel
theorem dX12_layPlan_46 : decode cX12_layPlan 46 = .ok (.istore 6, 2) := by decide +kernel
theorem dX12_layPlan_48 : decode cX12_layPlan 48 = .ok (.iload 6, 2) := by decide +kernel
theorem dX12_layPlan_50 : decode cX12_layPlan 50 = .ok (.iload 4, 2) := by decide +kernel
theorem dX12_layPlan_52 : decode cX12_layPlan 52 = .ok (.if_icmp .ge 51, 3) := by decide +kernel
theorem dX12_layPlan_55 : decode cX12_layPlan 55 = .ok (.aload_n 0, 1) := by decide +kernel
theorem dX12_layPlan_56 : decode cX12_layPlan 56 = .ok (.getfield 47, 3) := by decide +kernel
theorem dX12_layPlan_59 : decode cX12_layPlan 59 = .ok (.iload 6, 2) := by decide +kernel
theorem dX12_layPlan_61 : decode cX12_layPlan 61 = .ok (.aload_n 0, 1) := by decide +kernel
theorem dX12_layPlan_62 : decode cX12_layPlan 62 = .ok (.getfield 16, 3) := by decide +kernel
theorem dX12_layPlan_65 : decode cX12_layPlan 65 = .ok (.bipush 60, 2) := by decide +kernel
theorem dX12_layPlan_67 : decode cX12_layPlan 67 = .ok (.iload_n 1, 1) := by decide +kernel
theorem dX12_layPlan_68 : decode cX12_layPlan 68 = .ok (.imul, 1) := by decide +kernel
theorem dX12_layPlan_69 : decode cX12_layPlan 69 = .ok (.iload_n 3, 1) := by decide +kernel
theorem dX12_layPlan_70 : decode cX12_layPlan 70 = .ok (.iadd, 1) := by decide +kernel
theorem dX12_layPlan_71 : decode cX12_layPlan 71 = .ok (.iload 6, 2) := by decide +kernel
theorem dX12_layPlan_73 : decode cX12_layPlan 73 = .ok (.iadd, 1) := by decide +kernel
theorem dX12_layPlan_74 : decode cX12_layPlan 74 = .ok (.iaload, 1) := by decide +kernel
theorem dX12_layPlan_75 : decode cX12_layPlan 75 = .ok (.iastore, 1) := by decide +kernel
theorem dX12_layPlan_76 : decode cX12_layPlan 76 = .ok (.aload_n 0, 1) := by decide +kernel
theorem dX12_layPlan_77 : decode cX12_layPlan 77 = .ok (.getfield 47, 3) := by decide +kernel
theorem dX12_layPlan_80 : decode cX12_layPlan 80 = .ok (.iload 6, 2) := by decide +kernel
theorem dX12_layPlan_82 : decode cX12_layPlan 82 = .ok (.iaload, 1) := by decide +kernel
theorem dX12_layPlan_83 : decode cX12_layPlan 83 = .ok (.iconst 0, 1) := by decide +kernel
theorem dX12_layPlan_84 : decode cX12_layPlan 84 = .ok (.aload_n 0, 1) := by decide +kernel
theorem dX12_layPlan_85 : decode cX12_layPlan 85 = .ok (.invokevirtual 153, 3) := by decide +kernel
theorem dX12_layPlan_88 : decode cX12_layPlan 88 = .ok (.invokestatic 71, 3) := by decide +kernel
theorem dX12_layPlan_91 : decode cX12_layPlan 91 = .ok (.ifCond .ne 6, 3) := by decide +kernel
theorem dX12_layPlan_94 : decode cX12_layPlan 94 = .ok (.bipush (-2), 2) := by decide +kernel
theorem dX12_layPlan_96 : decode cX12_layPlan 96 = .ok (.ireturn, 1) := by decide +kernel
theorem dX12_layPlan_97 : decode cX12_layPlan 97 = .ok (.iinc 6 1, 3) := by decide +kernel
theorem dX12_layPlan_100 : decode cX12_layPlan 100 = .ok (.goto (-52), 3) := by decide +kernel
theorem dX12_layPlan_103 : decode cX12_layPlan 103 = .ok (.aload_n 0, 1) := by decide +kernel
theorem dX12_layPlan_104 : decode cX12_layPlan 104 = .ok (.iload 4, 2) := by decide +kernel
theorem dX12_layPlan_106 : decode cX12_layPlan 106 = .ok (.putfield 156, 3) := by decide +kernel
theorem dX12_layPlan_109 : decode cX12_layPlan 109 = .ok (.iconst 0, 1) := by decide +kernel
theorem dX12_layPlan_110 : decode cX12_layPlan 110 = .ok (.ireturn, 1) := by decide +kernel
theorem dX12_isRow_0 : decode cX12_isRow 0 = .ok (.iload_n 0, 1) := by decide +kernel
theorem dX12_isRow_1 : decode cX12_isRow 1 = .ok (.invokestatic 88, 3) := by decide +kernel
theorem dX12_isRow_4 : decode cX12_isRow 4 = .ok (.ifCond .eq 17, 3) := by decide +kernel
theorem dX12_isRow_7 : decode cX12_isRow 7 = .ok (.iload_n 1, 1) := by decide +kernel
theorem dX12_isRow_8 : decode cX12_isRow 8 = .ok (.iconst 0, 1) := by decide +kernel
theorem dX12_isRow_9 : decode cX12_isRow 9 = .ok (.bipush 10, 2) := by decide +kernel
theorem dX12_isRow_11 : decode cX12_isRow 11 = .ok (.invokestatic 71, 3) := by decide +kernel
theorem dX12_isRow_14 : decode cX12_isRow 14 = .ok (.ifCond .eq 7, 3) := by decide +kernel
theorem dX12_isRow_17 : decode cX12_isRow 17 = .ok (.iconst 1, 1) := by decide +kernel
theorem dX12_isRow_18 : decode cX12_isRow 18 = .ok (.goto 4, 3) := by decide +kernel
theorem dX12_isRow_21 : decode cX12_isRow 21 = .ok (.iconst 0, 1) := by decide +kernel
theorem dX12_isRow_22 : decode cX12_isRow 22 = .ok (.ireturn, 1) := by decide +kernel
theorem dX12_goPlan_0 : decode cX12_goPlan 0 = .ok (.aload_n 0, 1) := by decide +kernel
theorem dX12_goPlan_1 : decode cX12_goPlan 1 = .ok (.iconst 0, 1) := by decide +kernel
theorem dX12_goPlan_2 : decode cX12_goPlan 2 = .ok (.invokevirtual 159, 3) := by decide +kernel
theorem dX12_goPlan_5 : decode cX12_goPlan 5 = .ok (.pop, 1) := by decide +kernel
theorem dX12_goPlan_6 : decode cX12_goPlan 6 = .ok (.aload_n 0, 1) := by decide +kernel
theorem dX12_goPlan_7 : decode cX12_goPlan 7 = .ok (.iconst 0, 1) := by decide +kernel
theorem dX12_goPlan_8 : decode cX12_goPlan 8 = .ok (.putfield 163, 3) := by decide +kernel
theorem dX12_goPlan_11 : decode cX12_goPlan 11 = .ok (.aload_n 0, 1) := by decide +kernel
theorem dX12_goPlan_12 : decode cX12_goPlan 12 = .ok (.bipush (-9), 2) := by decide +kernel
theorem dX12_goPlan_14 : decode cX12_goPlan 14 = .ok (.putfield 166, 3) := by decide +kernel
theorem dX12_goPlan_17 : decode cX12_goPlan 17 = .ok (.aload_n 0, 1) := by decide +kernel
theorem dX12_goPlan_18 : decode cX12_goPlan 18 = .ok (.bipush (-9), 2) := by decide +kernel
theorem dX12_goPlan_20 : decode cX12_goPlan 20 = .ok (.putfield 169, 3) := by decide +kernel
theorem dX12_goPlan_23 : decode cX12_goPlan 23 = .ok (.iconst 0, 1) := by decide +kernel
theorem dX12_goPlan_24 : decode cX12_goPlan 24 = .ok (.istore_n 1, 1) := by decide +kernel
theorem dX12_goPlan_25 : decode cX12_goPlan 25 = .ok (.iload_n 1, 1) := by decide +kernel
theorem dX12_goPlan_26 : decode cX12_goPlan 26 = .ok (.aload_n 0, 1) := by decide +kernel
theorem dX12_goPlan_27 : decode cX12_goPlan 27 = .ok (.getfield 156, 3) := by decide +kernel
theorem dX12_goPlan_30 : decode cX12_goPlan 30 = .ok (.if_icmp .ge 109, 3) := by decide +kernel
theorem dX12_goPlan_33 : decode cX12_goPlan 33 = .ok (.aload_n 0, 1) := by decide +kernel
theorem dX12_goPlan_34 : decode cX12_goPlan 34 = .ok (.aload_n 0, 1) := by decide +kernel
theorem dX12_goPlan_35 : decode cX12_goPlan 35 = .ok (.getfield 47, 3) := by decide +kernel
theorem dX12_goPlan_38 : decode cX12_goPlan 38 = .ok (.iload_n 1, 1) := by decide +kernel
theorem dX12_goPlan_39 : decode cX12_goPlan 39 = .ok (.iaload, 1) := by decide +kernel
theorem dX12_goPlan_40 : decode cX12_goPlan 40 = .ok (.aload_n 0, 1) := by decide +kernel
theorem dX12_goPlan_41 : decode cX12_goPlan 41 = .ok (.getfield 23, 3) := by decide +kernel
theorem dX12_goPlan_44 : decode cX12_goPlan 44 = .ok (.iload_n 1, 1) := by decide +kernel
theorem dX12_goPlan_45 : decode cX12_goPlan 45 = .ok (.iaload, 1) := by decide +kernel
theorem dX12_goPlan_46 : decode cX12_goPlan 46 = .ok (.invokevirtual 172, 3) := by decide +kernel
theorem dX12_goPlan_49 : decode cX12_goPlan 49 = .ok (.istore_n 2, 1) := by decide +kernel
theorem dX12_goPlan_50 : decode cX12_goPlan 50 = .ok (.aload_n 0, 1) := by decide +kernel
theorem dX12_goPlan_51 : decode cX12_goPlan 51 = .ok (.dup, 1) := by decide +kernel
theorem dX12_goPlan_52 : decode cX12_goPlan 52 = .ok (.getfield 163, 3) := by decide +kernel
theorem dX12_goPlan_55 : decode cX12_goPlan 55 = .ok (.iload_n 2, 1) := by decide +kernel
theorem dX12_goPlan_56 : decode cX12_goPlan 56 = .ok (.iadd, 1) := by decide +kernel
theorem dX12_goPlan_57 : decode cX12_goPlan 57 = .ok (.putfield 163, 3) := by decide +kernel
theorem dX12_goPlan_60 : decode cX12_goPlan 60 = .ok (.aload_n 0, 1) := by decide +kernel
theorem dX12_goPlan_61 : decode cX12_goPlan 61 = .ok (.aload_n 0, 1) := by decide +kernel
theorem dX12_goPlan_62 : decode cX12_goPlan 62 = .ok (.getfield 166, 3) := by decide +kernel
theorem dX12_goPlan_65 : decode cX12_goPlan 65 = .ok (.bipush (-9), 2) := by decide +kernel
theorem dX12_goPlan_67 : decode cX12_goPlan 67 = .ok (.if_icmp .ne 11, 3) := by decide +kernel
theorem dX12_goPlan_70 : decode cX12_goPlan 70 = .ok (.iload_n 2, 1) := by decide +kernel
theorem dX12_goPlan_71 : decode cX12_goPlan 71 = .ok (.ifCond .le 7, 3) := by decide +kernel
theorem dX12_goPlan_74 : decode cX12_goPlan 74 = .ok (.iload_n 1, 1) := by decide +kernel
theorem dX12_goPlan_75 : decode cX12_goPlan 75 = .ok (.goto 7, 3) := by decide +kernel
theorem dX12_goPlan_78 : decode cX12_goPlan 78 = .ok (.aload_n 0, 1) := by decide +kernel
theorem dX12_goPlan_79 : decode cX12_goPlan 79 = .ok (.getfield 166, 3) := by decide +kernel
theorem dX12_goPlan_82 : decode cX12_goPlan 82 = .ok (.putfield 166, 3) := by decide +kernel
theorem dX12_goPlan_85 : decode cX12_goPlan 85 = .ok (.aload_n 0, 1) := by decide +kernel
theorem dX12_goPlan_86 : decode cX12_goPlan 86 = .ok (.aload_n 0, 1) := by decide +kernel
theorem dX12_goPlan_87 : decode cX12_goPlan 87 = .ok (.getfield 47, 3) := by decide +kernel
theorem dX12_goPlan_90 : decode cX12_goPlan 90 = .ok (.iload_n 1, 1) := by decide +kernel
theorem dX12_goPlan_91 : decode cX12_goPlan 91 = .ok (.iaload, 1) := by decide +kernel
theorem dX12_goPlan_92 : decode cX12_goPlan 92 = .ok (.aload_n 0, 1) := by decide +kernel
theorem dX12_goPlan_93 : decode cX12_goPlan 93 = .ok (.getfield 23, 3) := by decide +kernel
theorem dX12_goPlan_96 : decode cX12_goPlan 96 = .ok (.iload_n 1, 1) := by decide +kernel
theorem dX12_goPlan_97 : decode cX12_goPlan 97 = .ok (.iaload, 1) := by decide +kernel
theorem dX12_goPlan_98 : decode cX12_goPlan 98 = .ok (.invokevirtual 176, 3) := by decide +kernel
theorem dX12_goPlan_101 : decode cX12_goPlan 101 = .ok (.aload_n 0, 1) := by decide +kernel
theorem dX12_goPlan_102 : decode cX12_goPlan 102 = .ok (.aload_n 0, 1) := by decide +kernel
theorem dX12_goPlan_103 : decode cX12_goPlan 103 = .ok (.getfield 169, 3) := by decide +kernel
theorem dX12_goPlan_106 : decode cX12_goPlan 106 = .ok (.bipush (-9), 2) := by decide +kernel
theorem dX12_goPlan_108 : decode cX12_goPlan 108 = .ok (.if_icmp .ne 18, 3) := by decide +kernel
theorem dX12_goPlan_111 : decode cX12_goPlan 111 = .ok (.aload_n 0, 1) := by decide +kernel
theorem dX12_goPlan_112 : decode cX12_goPlan 112 = .ok (.invokevirtual 180, 3) := by decide +kernel
theorem dX12_goPlan_115 : decode cX12_goPlan 115 = .ok (.aload_n 0, 1) := by decide +kernel
theorem dX12_goPlan_116 : decode cX12_goPlan 116 = .ok (.invokevirtual 153, 3) := by decide +kernel
theorem dX12_goPlan_119 : decode cX12_goPlan 119 = .ok (.if_icmp .ne 7, 3) := by decide +kernel
theorem dX12_goPlan_122 : decode cX12_goPlan 122 = .ok (.iload_n 1, 1) := by decide +kernel
theorem dX12_goPlan_123 : decode cX12_goPlan 123 = .ok (.goto 7, 3) := by decide +kernel
theorem dX12_goPlan_126 : decode cX12_goPlan 126 = .ok (.aload_n 0, 1) := by decide +kernel
theorem dX12_goPlan_127 : decode cX12_goPlan 127 = .ok (.getfield 169, 3) := by decide +kernel
theorem dX12_goPlan_130 : decode cX12_goPlan 130 = .ok (.putfield 169, 3) := by decide +kernel
theorem dX12_goPlan_133 : decode cX12_goPlan 133 = .ok (.iinc 1 1, 3) := by decide +kernel
theorem dX12_goPlan_136 : decode cX12_goPlan 136 = .ok (.goto (-111), 3) := by decide +kernel
theorem dX12_goPlan_139 : decode cX12_goPlan 139 = .ok (.return_, 1) := by decide +kernel
theorem dX12_plan_0 : decode cX12_plan 0 = .ok (.aload_n 0, 1) := by decide +kernel
theorem dX12_plan_1 : decode cX12_plan 1 = .ok (.iconst 0, 1) := by decide +kernel
theorem dX12_plan_2 : decode cX12_plan 2 = .ok (.putfield 65, 3) := by decide +kernel
theorem dX12_plan_5 : decode cX12_plan 5 = .ok (.iload_n 1, 1) := by decide +kernel
theorem dX12_plan_6 : decode cX12_plan 6 = .ok (.invokestatic 84, 3) := by decide +kernel
theorem dX12_plan_9 : decode cX12_plan 9 = .ok (.ifCond .ne 5, 3) := by decide +kernel
theorem dX12_plan_12 : decode cX12_plan 12 = .ok (.iconst (-1), 1) := by decide +kernel
theorem dX12_plan_13 : decode cX12_plan 13 = .ok (.ireturn, 1) := by decide +kernel
theorem dX12_plan_14 : decode cX12_plan 14 = .ok (.iload_n 2, 1) := by decide +kernel
theorem dX12_plan_15 : decode cX12_plan 15 = .ok (.iload 4, 2) := by decide +kernel
theorem dX12_plan_17 : decode cX12_plan 17 = .ok (.invokestatic 183, 3) := by decide +kernel
theorem dX12_plan_20 : decode cX12_plan 20 = .ok (.ifCond .eq 25, 3) := by decide +kernel
theorem dX12_plan_23 : decode cX12_plan 23 = .ok (.iload 5, 2) := by decide +kernel
theorem dX12_plan_25 : decode cX12_plan 25 = .ok (.iconst 0, 1) := by decide +kernel
theorem dX12_plan_26 : decode cX12_plan 26 = .ok (.iconst 3, 1) := by decide +kernel
theorem dX12_plan_27 : decode cX12_plan 27 = .ok (.invokestatic 71, 3) := by decide +kernel
theorem dX12_plan_30 : decode cX12_plan 30 = .ok (.ifCond .ne 18, 3) := by decide +kernel
theorem dX12_plan_33 : decode cX12_plan 33 = .ok (.iload 5, 2) := by decide +kernel
theorem dX12_plan_35 : decode cX12_plan 35 = .ok (.bipush 10, 2) := by decide +kernel
theorem dX12_plan_37 : decode cX12_plan 37 = .ok (.bipush 12, 2) := by decide +kernel
theorem dX12_plan_39 : decode cX12_plan 39 = .ok (.invokestatic 71, 3) := by decide +kernel
theorem dX12_plan_42 : decode cX12_plan 42 = .ok (.ifCond .ne 6, 3) := by decide +kernel
theorem dX12_plan_45 : decode cX12_plan 45 = .ok (.bipush (-2), 2) := by decide +kernel
theorem dX12_plan_47 : decode cX12_plan 47 = .ok (.ireturn, 1) := by decide +kernel
theorem dX12_plan_48 : decode cX12_plan 48 = .ok (.aload_n 0, 1) := by decide +kernel
theorem dX12_plan_49 : decode cX12_plan 49 = .ok (.iload_n 1, 1) := by decide +kernel
theorem dX12_plan_50 : decode cX12_plan 50 = .ok (.iload_n 2, 1) := by decide +kernel
theorem dX12_plan_51 : decode cX12_plan 51 = .ok (.iload_n 3, 1) := by decide +kernel
theorem dX12_plan_52 : decode cX12_plan 52 = .ok (.iload 4, 2) := by decide +kernel
theorem dX12_plan_54 : decode cX12_plan 54 = .ok (.invokevirtual 186, 3) := by decide +kernel
theorem dX12_plan_57 : decode cX12_plan 57 = .ok (.istore 6, 2) := by decide +kernel
theorem dX12_plan_59 : decode cX12_plan 59 = .ok (.iload 6, 2) := by decide +kernel
theorem dX12_plan_61 : decode cX12_plan 61 = .ok (.ifCond .eq 6, 3) := by decide +kernel
theorem dX12_plan_64 : decode cX12_plan 64 = .ok (.iload 6, 2) := by decide +kernel
theorem dX12_plan_66 : decode cX12_plan 66 = .ok (.ireturn, 1) := by decide +kernel
theorem dX12_plan_67 : decode cX12_plan 67 = .ok (.aload_n 0, 1) := by decide +kernel
theorem dX12_plan_68 : decode cX12_plan 68 = .ok (.invokevirtual 189, 3) := by decide +kernel
theorem dX12_plan_71 : decode cX12_plan 71 = .ok (.iload 5, 2) := by decide +kernel
theorem dX12_plan_73 : decode cX12_plan 73 = .ok (.tableswitch 51 0 3 #[31, 36, 41, 46], 31) := by decide +kernel
theorem dX12_plan_104 : decode cX12_plan 104 = .ok (.aload_n 0, 1) := by decide +kernel
theorem dX12_plan_105 : decode cX12_plan 105 = .ok (.invokevirtual 180, 3) := by decide +kernel
theorem dX12_plan_108 : decode cX12_plan 108 = .ok (.ireturn, 1) := by decide +kernel
theorem dX12_plan_109 : decode cX12_plan 109 = .ok (.aload_n 0, 1) := by decide +kernel
theorem dX12_plan_110 : decode cX12_plan 110 = .ok (.getfield 163, 3) := by decide +kernel
theorem dX12_plan_113 : decode cX12_plan 113 = .ok (.ireturn, 1) := by decide +kernel
theorem dX12_plan_114 : decode cX12_plan 114 = .ok (.aload_n 0, 1) := by decide +kernel
theorem dX12_plan_115 : decode cX12_plan 115 = .ok (.getfield 166, 3) := by decide +kernel
theorem dX12_plan_118 : decode cX12_plan 118 = .ok (.ireturn, 1) := by decide +kernel
theorem dX12_plan_119 : decode cX12_plan 119 = .ok (.aload_n 0, 1) := by decide +kernel
theorem dX12_plan_120 : decode cX12_plan 120 = .ok (.getfield 169, 3) := by decide +kernel
theorem dX12_plan_123 : decode cX12_plan 123 = .ok (.ireturn, 1) := by decide +kernel
theorem dX12_plan_124 : decode cX12_plan 124 = .ok (.aload_n 0, 1) := by decide +kernel
theorem dX12_plan_125 : decode cX12_plan 125 = .ok (.iload 5, 2) := by decide +kernel
theorem dX12_plan_127 : decode cX12_plan 127 = .ok (.bipush 10, 2) := by decide +kernel
theorem dX12_plan_129 : decode cX12_plan 129 = .ok (.isub, 1) := by decide +kernel
theorem dX12_plan_130 : decode cX12_plan 130 = .ok (.invokevirtual 134, 3) := by decide +kernel
theorem dX12_plan_133 : decode cX12_plan 133 = .ok (.ifCond .eq 16, 3) := by decide +kernel
theorem dX12_plan_136 : decode cX12_plan 136 = .ok (.aload_n 0, 1) := by decide +kernel
theorem dX12_plan_137 : decode cX12_plan 137 = .ok (.getfield 44, 3) := by decide +kernel
theorem dX12_plan_140 : decode cX12_plan 140 = .ok (.iload 5, 2) := by decide +kernel
theorem dX12_plan_142 : decode cX12_plan 142 = .ok (.bipush 10, 2) := by decide +kernel
theorem dX12_plan_144 : decode cX12_plan 144 = .ok (.isub, 1) := by decide +kernel
theorem dX12_plan_145 : decode cX12_plan 145 = .ok (.iaload, 1) := by decide +kernel
theorem dX12_plan_146 : decode cX12_plan 146 = .ok (.goto 5, 3) := by decide +kernel
theorem dX12_plan_149 : decode cX12_plan 149 = .ok (.bipush (-9), 2) := by decide +kernel
theorem dX12_plan_151 : decode cX12_plan 151 = .ok (.ireturn, 1) := by decide +kernel
theorem dX12_isThere_0 : decode cX12_isThere 0 = .ok (.iconst 0, 1) := by decide +kernel
theorem dX12_isThere_1 : decode cX12_isThere 1 = .ok (.istore_n 2, 1) := by decide +kernel
theorem dX12_isThere_2 : decode cX12_isThere 2 = .ok (.iload_n 2, 1) := by decide +kernel
theorem dX12_isThere_3 : decode cX12_isThere 3 = .ok (.bipush 125, 2) := by decide +kernel
theorem dX12_isThere_5 : decode cX12_isThere 5 = .ok (.if_icmp .ge 35, 3) := by decide +kernel
theorem dX12_isThere_8 : decode cX12_isThere 8 = .ok (.aload_n 0, 1) := by decide +kernel
theorem dX12_isThere_9 : decode cX12_isThere 9 = .ok (.getfield 50, 3) := by decide +kernel
theorem dX12_isThere_12 : decode cX12_isThere 12 = .ok (.iload_n 2, 1) := by decide +kernel
theorem dX12_isThere_13 : decode cX12_isThere 13 = .ok (.baload, 1) := by decide +kernel
theorem dX12_isThere_14 : decode cX12_isThere 14 = .ok (.ifCond .eq 20, 3) := by decide +kernel
theorem dX12_isThere_17 : decode cX12_isThere 17 = .ok (.aload_n 0, 1) := by decide +kernel
theorem dX12_isThere_18 : decode cX12_isThere 18 = .ok (.iload_n 2, 1) := by decide +kernel
theorem dX12_isThere_19 : decode cX12_isThere 19 = .ok (.invokevirtual 192, 3) := by decide +kernel
theorem dX12_isThere_22 : decode cX12_isThere 22 = .ok (.aload_n 0, 1) := by decide +kernel
theorem dX12_isThere_23 : decode cX12_isThere 23 = .ok (.invokevirtual 180, 3) := by decide +kernel
theorem dX12_isThere_26 : decode cX12_isThere 26 = .ok (.iload_n 1, 1) := by decide +kernel
theorem dX12_isThere_27 : decode cX12_isThere 27 = .ok (.iand, 1) := by decide +kernel
theorem dX12_isThere_28 : decode cX12_isThere 28 = .ok (.iload_n 1, 1) := by decide +kernel
theorem dX12_isThere_29 : decode cX12_isThere 29 = .ok (.if_icmp .ne 5, 3) := by decide +kernel
theorem dX12_isThere_32 : decode cX12_isThere 32 = .ok (.iconst 1, 1) := by decide +kernel
theorem dX12_isThere_33 : decode cX12_isThere 33 = .ok (.ireturn, 1) := by decide +kernel
theorem dX12_isThere_34 : decode cX12_isThere 34 = .ok (.iinc 2 1, 3) := by decide +kernel
theorem dX12_isThere_37 : decode cX12_isThere 37 = .ok (.goto (-35), 3) := by decide +kernel
theorem dX12_isThere_40 : decode cX12_isThere 40 = .ok (.iconst 0, 1) := by decide +kernel
theorem dX12_isThere_41 : decode cX12_isThere 41 = .ok (.ireturn, 1) := by decide +kernel
theorem dX12_goAll_0 : decode cX12_goAll 0 = .ok (.iconst 0, 1) := by decide +kernel
theorem dX12_goAll_1 : decode cX12_goAll 1 = .ok (.istore_n 2, 1) := by decide +kernel
theorem dX12_goAll_2 : decode cX12_goAll 2 = .ok (.iload_n 2, 1) := by decide +kernel
theorem dX12_goAll_3 : decode cX12_goAll 3 = .ok (.bipush 125, 2) := by decide +kernel
theorem dX12_goAll_5 : decode cX12_goAll 5 = .ok (.if_icmp .ge 16, 3) := by decide +kernel
theorem dX12_goAll_8 : decode cX12_goAll 8 = .ok (.aload_n 0, 1) := by decide +kernel
theorem dX12_goAll_9 : decode cX12_goAll 9 = .ok (.getfield 53, 3) := by decide +kernel
theorem dX12_goAll_12 : decode cX12_goAll 12 = .ok (.iload_n 2, 1) := by decide +kernel
theorem dX12_goAll_13 : decode cX12_goAll 13 = .ok (.iconst 0, 1) := by decide +kernel
theorem dX12_goAll_14 : decode cX12_goAll 14 = .ok (.bastore, 1) := by decide +kernel
theorem dX12_goAll_15 : decode cX12_goAll 15 = .ok (.iinc 2 1, 3) := by decide +kernel
theorem dX12_goAll_18 : decode cX12_goAll 18 = .ok (.goto (-16), 3) := by decide +kernel
theorem dX12_goAll_21 : decode cX12_goAll 21 = .ok (.iconst 0, 1) := by decide +kernel
theorem dX12_goAll_22 : decode cX12_goAll 22 = .ok (.istore_n 2, 1) := by decide +kernel
theorem dX12_goAll_23 : decode cX12_goAll 23 = .ok (.iload_n 2, 1) := by decide +kernel
theorem dX12_goAll_24 : decode cX12_goAll 24 = .ok (.bipush 125, 2) := by decide +kernel
theorem dX12_goAll_26 : decode cX12_goAll 26 = .ok (.if_icmp .ge 64, 3) := by decide +kernel
theorem dX12_goAll_29 : decode cX12_goAll 29 = .ok (.iconst 0, 1) := by decide +kernel
theorem dX12_goAll_30 : decode cX12_goAll 30 = .ok (.istore_n 3, 1) := by decide +kernel
theorem dX12_goAll_31 : decode cX12_goAll 31 = .ok (.iload_n 3, 1) := by decide +kernel
theorem dX12_goAll_32 : decode cX12_goAll 32 = .ok (.aload_n 0, 1) := by decide +kernel
theorem dX12_goAll_33 : decode cX12_goAll 33 = .ok (.invokevirtual 153, 3) := by decide +kernel
theorem dX12_goAll_36 : decode cX12_goAll 36 = .ok (.if_icmp .gt 48, 3) := by decide +kernel
theorem dX12_goAll_39 : decode cX12_goAll 39 = .ok (.aload_n 0, 1) := by decide +kernel
theorem dX12_goAll_40 : decode cX12_goAll 40 = .ok (.getfield 50, 3) := by decide +kernel
theorem dX12_goAll_43 : decode cX12_goAll 43 = .ok (.iload_n 2, 1) := by decide +kernel
theorem dX12_goAll_44 : decode cX12_goAll 44 = .ok (.baload, 1) := by decide +kernel
theorem dX12_goAll_45 : decode cX12_goAll 45 = .ok (.ifCond .eq 39, 3) := by decide +kernel
theorem dX12_goAll_48 : decode cX12_goAll 48 = .ok (.aload_n 0, 1) := by decide +kernel
theorem dX12_goAll_49 : decode cX12_goAll 49 = .ok (.iload_n 2, 1) := by decide +kernel
theorem dX12_goAll_50 : decode cX12_goAll 50 = .ok (.invokevirtual 192, 3) := by decide +kernel
theorem dX12_goAll_53 : decode cX12_goAll 53 = .ok (.aload_n 0, 1) := by decide +kernel
theorem dX12_goAll_54 : decode cX12_goAll 54 = .ok (.iload_n 3, 1) := by decide +kernel
theorem dX12_goAll_55 : decode cX12_goAll 55 = .ok (.iload_n 1, 1) := by decide +kernel
theorem dX12_goAll_56 : decode cX12_goAll 56 = .ok (.invokevirtual 172, 3) := by decide +kernel
theorem dX12_goAll_59 : decode cX12_goAll 59 = .ok (.ifCond .ne 19, 3) := by decide +kernel
theorem dX12_goAll_62 : decode cX12_goAll 62 = .ok (.aload_n 0, 1) := by decide +kernel
theorem dX12_goAll_63 : decode cX12_goAll 63 = .ok (.iload_n 3, 1) := by decide +kernel
theorem dX12_goAll_64 : decode cX12_goAll 64 = .ok (.iload_n 1, 1) := by decide +kernel
theorem dX12_goAll_65 : decode cX12_goAll 65 = .ok (.invokevirtual 176, 3) := by decide +kernel
theorem dX12_goAll_68 : decode cX12_goAll 68 = .ok (.aload_n 0, 1) := by decide +kernel
theorem dX12_goAll_69 : decode cX12_goAll 69 = .ok (.getfield 53, 3) := by decide +kernel
theorem dX12_goAll_72 : decode cX12_goAll 72 = .ok (.aload_n 0, 1) := by decide +kernel
theorem dX12_goAll_73 : decode cX12_goAll 73 = .ok (.invokevirtual 140, 3) := by decide +kernel
theorem dX12_goAll_76 : decode cX12_goAll 76 = .ok (.iconst 1, 1) := by decide +kernel
theorem dX12_goAll_77 : decode cX12_goAll 77 = .ok (.bastore, 1) := by decide +kernel
theorem dX12_goAll_78 : decode cX12_goAll 78 = .ok (.iinc 3 1, 3) := by decide +kernel
theorem dX12_goAll_81 : decode cX12_goAll 81 = .ok (.goto (-50), 3) := by decide +kernel
theorem dX12_goAll_84 : decode cX12_goAll 84 = .ok (.iinc 2 1, 3) := by decide +kernel
theorem dX12_goAll_87 : decode cX12_goAll 87 = .ok (.goto (-64), 3) := by decide +kernel
theorem dX12_goAll_90 : decode cX12_goAll 90 = .ok (.iconst 0, 1) := by decide +kernel
theorem dX12_goAll_91 : decode cX12_goAll 91 = .ok (.istore_n 2, 1) := by decide +kernel
theorem dX12_goAll_92 : decode cX12_goAll 92 = .ok (.iload_n 2, 1) := by decide +kernel
theorem dX12_goAll_93 : decode cX12_goAll 93 = .ok (.bipush 125, 2) := by decide +kernel
theorem dX12_goAll_95 : decode cX12_goAll 95 = .ok (.if_icmp .ge 21, 3) := by decide +kernel
theorem dX12_goAll_98 : decode cX12_goAll 98 = .ok (.aload_n 0, 1) := by decide +kernel
theorem dX12_goAll_99 : decode cX12_goAll 99 = .ok (.getfield 50, 3) := by decide +kernel
theorem dX12_goAll_102 : decode cX12_goAll 102 = .ok (.iload_n 2, 1) := by decide +kernel
theorem dX12_goAll_103 : decode cX12_goAll 103 = .ok (.aload_n 0, 1) := by decide +kernel
theorem dX12_goAll_104 : decode cX12_goAll 104 = .ok (.getfield 53, 3) := by decide +kernel
theorem dX12_goAll_107 : decode cX12_goAll 107 = .ok (.iload_n 2, 1) := by decide +kernel
theorem dX12_goAll_108 : decode cX12_goAll 108 = .ok (.baload, 1) := by decide +kernel
theorem dX12_goAll_109 : decode cX12_goAll 109 = .ok (.bastore, 1) := by decide +kernel
theorem dX12_goAll_110 : decode cX12_goAll 110 = .ok (.iinc 2 1, 3) := by decide +kernel
theorem dX12_goAll_113 : decode cX12_goAll 113 = .ok (.goto (-21), 3) := by decide +kernel
theorem dX12_goAll_116 : decode cX12_goAll 116 = .ok (.return_, 1) := by decide +kernel
theorem dX12_soonestOf_0 : decode cX12_soonestOf 0 = .ok (.aload_n 0, 1) := by decide +kernel
theorem dX12_soonestOf_1 : decode cX12_soonestOf 1 = .ok (.iconst 1, 1) := by decide +kernel
theorem dX12_soonestOf_2 : decode cX12_soonestOf 2 = .ok (.invokevirtual 159, 3) := by decide +kernel
theorem dX12_soonestOf_5 : decode cX12_soonestOf 5 = .ok (.istore_n 2, 1) := by decide +kernel
theorem dX12_soonestOf_6 : decode cX12_soonestOf 6 = .ok (.iconst 0, 1) := by decide +kernel
theorem dX12_soonestOf_7 : decode cX12_soonestOf 7 = .ok (.istore_n 3, 1) := by decide +kernel
theorem dX12_soonestOf_8 : decode cX12_soonestOf 8 = .ok (.iload_n 3, 1) := by decide +kernel
theorem dX12_soonestOf_9 : decode cX12_soonestOf 9 = .ok (.bipush 125, 2) := by decide +kernel
theorem dX12_soonestOf_11 : decode cX12_soonestOf 11 = .ok (.if_icmp .ge 25, 3) := by decide +kernel
theorem dX12_soonestOf_14 : decode cX12_soonestOf 14 = .ok (.aload_n 0, 1) := by decide +kernel
theorem dX12_soonestOf_15 : decode cX12_soonestOf 15 = .ok (.getfield 50, 3) := by decide +kernel
theorem dX12_soonestOf_18 : decode cX12_soonestOf 18 = .ok (.iload_n 3, 1) := by decide +kernel
theorem dX12_soonestOf_19 : decode cX12_soonestOf 19 = .ok (.iload_n 3, 1) := by decide +kernel
theorem dX12_soonestOf_20 : decode cX12_soonestOf 20 = .ok (.iload_n 2, 1) := by decide +kernel
theorem dX12_soonestOf_21 : decode cX12_soonestOf 21 = .ok (.if_icmp .ne 7, 3) := by decide +kernel
theorem dX12_soonestOf_24 : decode cX12_soonestOf 24 = .ok (.iconst 1, 1) := by decide +kernel
theorem dX12_soonestOf_25 : decode cX12_soonestOf 25 = .ok (.goto 4, 3) := by decide +kernel
theorem dX12_soonestOf_28 : decode cX12_soonestOf 28 = .ok (.iconst 0, 1) := by decide +kernel
theorem dX12_soonestOf_29 : decode cX12_soonestOf 29 = .ok (.bastore, 1) := by decide +kernel
theorem dX12_soonestOf_30 : decode cX12_soonestOf 30 = .ok (.iinc 3 1, 3) := by decide +kernel
theorem dX12_soonestOf_33 : decode cX12_soonestOf 33 = .ok (.goto (-25), 3) := by decide +kernel
theorem dX12_soonestOf_36 : decode cX12_soonestOf 36 = .ok (.iconst 0, 1) := by decide +kernel
theorem dX12_soonestOf_37 : decode cX12_soonestOf 37 = .ok (.istore_n 3, 1) := by decide +kernel
theorem dX12_soonestOf_38 : decode cX12_soonestOf 38 = .ok (.iload_n 3, 1) := by decide +kernel
theorem dX12_soonestOf_39 : decode cX12_soonestOf 39 = .ok (.aload_n 0, 1) := by decide +kernel
theorem dX12_soonestOf_40 : decode cX12_soonestOf 40 = .ok (.getfield 78, 3) := by decide +kernel
theorem dX12_soonestOf_43 : decode cX12_soonestOf 43 = .ok (.if_icmp .gt 37, 3) := by decide +kernel
theorem dX12_soonestOf_46 : decode cX12_soonestOf 46 = .ok (.aload_n 0, 1) := by decide +kernel
theorem dX12_soonestOf_47 : decode cX12_soonestOf 47 = .ok (.iload_n 1, 1) := by decide +kernel
theorem dX12_soonestOf_48 : decode cX12_soonestOf 48 = .ok (.invokevirtual 196, 3) := by decide +kernel
theorem dX12_soonestOf_51 : decode cX12_soonestOf 51 = .ok (.ifCond .eq 5, 3) := by decide +kernel
theorem dX12_soonestOf_54 : decode cX12_soonestOf 54 = .ok (.iload_n 3, 1) := by decide +kernel
theorem dX12_soonestOf_55 : decode cX12_soonestOf 55 = .ok (.ireturn, 1) := by decide +kernel
theorem dX12_soonestOf_56 : decode cX12_soonestOf 56 = .ok (.iload_n 3, 1) := by decide +kernel
theorem dX12_soonestOf_57 : decode cX12_soonestOf 57 = .ok (.aload_n 0, 1) := by decide +kernel
theorem dX12_soonestOf_58 : decode cX12_soonestOf 58 = .ok (.getfield 78, 3) := by decide +kernel
theorem dX12_soonestOf_61 : decode cX12_soonestOf 61 = .ok (.if_icmp .ge 13, 3) := by decide +kernel
theorem dX12_soonestOf_64 : decode cX12_soonestOf 64 = .ok (.aload_n 0, 1) := by decide +kernel
theorem dX12_soonestOf_65 : decode cX12_soonestOf 65 = .ok (.aload_n 0, 1) := by decide +kernel
theorem dX12_soonestOf_66 : decode cX12_soonestOf 66 = .ok (.getfield 23, 3) := by decide +kernel
theorem dX12_soonestOf_69 : decode cX12_soonestOf 69 = .ok (.iload_n 3, 1) := by decide +kernel
theorem dX12_soonestOf_70 : decode cX12_soonestOf 70 = .ok (.iaload, 1) := by decide +kernel
theorem dX12_soonestOf_71 : decode cX12_soonestOf 71 = .ok (.invokevirtual 199, 3) := by decide +kernel
theorem dX12_soonestOf_74 : decode cX12_soonestOf 74 = .ok (.iinc 3 1, 3) := by decide +kernel
theorem dX12_soonestOf_77 : decode cX12_soonestOf 77 = .ok (.goto (-39), 3) := by decide +kernel
theorem dX12_soonestOf_80 : decode cX12_soonestOf 80 = .ok (.bipush (-9), 2) := by decide +kernel
theorem dX12_soonestOf_82 : decode cX12_soonestOf 82 = .ok (.ireturn, 1) := by decide +kernel
theorem dX12_soonest_0 : decode cX12_soonest 0 = .ok (.aload_n 0, 1) := by decide +kernel
theorem dX12_soonest_1 : decode cX12_soonest 1 = .ok (.getfield 75, 3) := by decide +kernel
theorem dX12_soonest_4 : decode cX12_soonest 4 = .ok (.ifCond .ne 6, 3) := by decide +kernel
theorem dX12_soonest_7 : decode cX12_soonest 7 = .ok (.bipush (-3), 2) := by decide +kernel
theorem dX12_soonest_9 : decode cX12_soonest 9 = .ok (.ireturn, 1) := by decide +kernel
theorem dX12_soonest_10 : decode cX12_soonest 10 = .ok (.iload_n 1, 1) := by decide +kernel
theorem dX12_soonest_11 : decode cX12_soonest 11 = .ok (.iconst 0, 1) := by decide +kernel
theorem dX12_soonest_12 : decode cX12_soonest 12 = .ok (.aload_n 0, 1) := by decide +kernel
theorem dX12_soonest_13 : decode cX12_soonest 13 = .ok (.invokevirtual 153, 3) := by decide +kernel
theorem dX12_soonest_16 : decode cX12_soonest 16 = .ok (.invokestatic 71, 3) := by decide +kernel
theorem dX12_soonest_19 : decode cX12_soonest 19 = .ok (.ifCond .eq 11, 3) := by decide +kernel
theorem dX12_soonest_22 : decode cX12_soonest 22 = .ok (.aload_n 0, 1) := by decide +kernel
theorem dX12_soonest_23 : decode cX12_soonest 23 = .ok (.iload_n 1, 1) := by decide +kernel
theorem dX12_soonest_24 : decode cX12_soonest 24 = .ok (.invokevirtual 202, 3) := by decide +kernel
theorem dX12_soonest_27 : decode cX12_soonest 27 = .ok (.goto 5, 3) := by decide +kernel
theorem dX12_soonest_30 : decode cX12_soonest 30 = .ok (.bipush (-2), 2) := by decide +kernel
theorem dX12_soonest_32 : decode cX12_soonest 32 = .ok (.ireturn, 1) := by decide +kernel
theorem dX12_isInTime_0 : decode cX12_isInTime 0 = .ok (.aload_n 0, 1) := by decide +kernel
theorem dX12_isInTime_1 : decode cX12_isInTime 1 = .ok (.iload_n 1, 1) := by decide +kernel
theorem dX12_isInTime_2 : decode cX12_isInTime 2 = .ok (.invokevirtual 202, 3) := by decide +kernel
theorem dX12_isInTime_5 : decode cX12_isInTime 5 = .ok (.istore_n 3, 1) := by decide +kernel
theorem dX12_isInTime_6 : decode cX12_isInTime 6 = .ok (.iload_n 3, 1) := by decide +kernel
theorem dX12_isInTime_7 : decode cX12_isInTime 7 = .ok (.bipush (-9), 2) := by decide +kernel
theorem dX12_isInTime_9 : decode cX12_isInTime 9 = .ok (.if_icmp .eq 12, 3) := by decide +kernel
theorem dX12_isInTime_12 : decode cX12_isInTime 12 = .ok (.iload_n 3, 1) := by decide +kernel
theorem dX12_isInTime_13 : decode cX12_isInTime 13 = .ok (.iload_n 2, 1) := by decide +kernel
theorem dX12_isInTime_14 : decode cX12_isInTime 14 = .ok (.if_icmp .gt 7, 3) := by decide +kernel
theorem dX12_isInTime_17 : decode cX12_isInTime 17 = .ok (.iconst 1, 1) := by decide +kernel
theorem dX12_isInTime_18 : decode cX12_isInTime 18 = .ok (.goto 4, 3) := by decide +kernel
theorem dX12_isInTime_21 : decode cX12_isInTime 21 = .ok (.iconst 0, 1) := by decide +kernel
theorem dX12_isInTime_22 : decode cX12_isInTime 22 = .ok (.ireturn, 1) := by decide +kernel
theorem dX12_isByTwo_0 : decode cX12_isByTwo 0 = .ok (.aload_n 0, 1) := by decide +kernel
theorem dX12_isByTwo_1 : decode cX12_isByTwo 1 = .ok (.getfield 23, 3) := by decide +kernel
theorem dX12_isByTwo_4 : decode cX12_isByTwo 4 = .ok (.iload_n 1, 1) := by decide +kernel
theorem dX12_isByTwo_5 : decode cX12_isByTwo 5 = .ok (.iaload, 1) := by decide +kernel
theorem dX12_isByTwo_6 : decode cX12_isByTwo 6 = .ok (.istore 5, 2) := by decide +kernel
theorem dX12_isByTwo_8 : decode cX12_isByTwo 8 = .ok (.aload_n 0, 1) := by decide +kernel
theorem dX12_isByTwo_9 : decode cX12_isByTwo 9 = .ok (.getfield 23, 3) := by decide +kernel
theorem dX12_isByTwo_12 : decode cX12_isByTwo 12 = .ok (.iload_n 2, 1) := by decide +kernel
theorem dX12_isByTwo_13 : decode cX12_isByTwo 13 = .ok (.iaload, 1) := by decide +kernel
theorem dX12_isByTwo_14 : decode cX12_isByTwo 14 = .ok (.istore 6, 2) := by decide +kernel
theorem dX12_isByTwo_16 : decode cX12_isByTwo 16 = .ok (.iconst 0, 1) := by decide +kernel
theorem dX12_isByTwo_17 : decode cX12_isByTwo 17 = .ok (.istore 7, 2) := by decide +kernel
theorem dX12_isByTwo_19 : decode cX12_isByTwo 19 = .ok (.iconst 0, 1) := by decide +kernel
theorem dX12_isByTwo_20 : decode cX12_isByTwo 20 = .ok (.istore 8, 2) := by decide +kernel
theorem dX12_isByTwo_22 : decode cX12_isByTwo 22 = .ok (.iload 8, 2) := by decide +kernel
theorem dX12_isByTwo_24 : decode cX12_isByTwo 24 = .ok (.bipush 9, 2) := by decide +kernel
theorem dX12_isByTwo_26 : decode cX12_isByTwo 26 = .ok (.if_icmp .ge 43, 3) := by decide +kernel
theorem dX12_isByTwo_29 : decode cX12_isByTwo 29 = .ok (.iload 7, 2) := by decide +kernel
theorem dX12_isByTwo_31 : decode cX12_isByTwo 31 = .ok (.ifCond .ne 38, 3) := by decide +kernel
theorem dX12_isByTwo_34 : decode cX12_isByTwo 34 = .ok (.aload_n 0, 1) := by decide +kernel
theorem dX12_isByTwo_35 : decode cX12_isByTwo 35 = .ok (.getfield 23, 3) := by decide +kernel
theorem dX12_isByTwo_38 : decode cX12_isByTwo 38 = .ok (.iload_n 1, 1) := by decide +kernel
theorem dX12_isByTwo_39 : decode cX12_isByTwo 39 = .ok (.iload 8, 2) := by decide +kernel
theorem dX12_isByTwo_41 : decode cX12_isByTwo 41 = .ok (.iconst 3, 1) := by decide +kernel
theorem dX12_isByTwo_42 : decode cX12_isByTwo 42 = .ok (.idiv, 1) := by decide +kernel
theorem dX12_isByTwo_43 : decode cX12_isByTwo 43 = .ok (.iastore, 1) := by decide +kernel
theorem dX12_isByTwo_44 : decode cX12_isByTwo 44 = .ok (.aload_n 0, 1) := by decide +kernel
theorem dX12_isByTwo_45 : decode cX12_isByTwo 45 = .ok (.getfield 23, 3) := by decide +kernel
theorem dX12_isByTwo_48 : decode cX12_isByTwo 48 = .ok (.iload_n 2, 1) := by decide +kernel
theorem dX12_isByTwo_49 : decode cX12_isByTwo 49 = .ok (.iload 8, 2) := by decide +kernel
theorem dX12_isByTwo_51 : decode cX12_isByTwo 51 = .ok (.iconst 3, 1) := by decide +kernel
theorem dX12_isByTwo_52 : decode cX12_isByTwo 52 = .ok (.irem, 1) := by decide +kernel
theorem dX12_isByTwo_53 : decode cX12_isByTwo 53 = .ok (.iastore, 1) := by decide +kernel
theorem dX12_isByTwo_54 : decode cX12_isByTwo 54 = .ok (.aload_n 0, 1) := by decide +kernel
theorem dX12_isByTwo_55 : decode cX12_isByTwo 55 = .ok (.iload_n 3, 1) := by decide +kernel
theorem dX12_isByTwo_56 : decode cX12_isByTwo 56 = .ok (.iload 4, 2) := by decide +kernel
theorem dX12_isByTwo_58 : decode cX12_isByTwo 58 = .ok (.invokevirtual 205, 3) := by decide +kernel
theorem dX12_isByTwo_61 : decode cX12_isByTwo 61 = .ok (.istore 7, 2) := by decide +kernel
theorem dX12_isByTwo_63 : decode cX12_isByTwo 63 = .ok (.iinc 8 1, 3) := by decide +kernel
theorem dX12_isByTwo_66 : decode cX12_isByTwo 66 = .ok (.goto (-44), 3) := by decide +kernel
theorem dX12_isByTwo_69 : decode cX12_isByTwo 69 = .ok (.aload_n 0, 1) := by decide +kernel
theorem dX12_isByTwo_70 : decode cX12_isByTwo 70 = .ok (.getfield 23, 3) := by decide +kernel
theorem dX12_isByTwo_73 : decode cX12_isByTwo 73 = .ok (.iload_n 1, 1) := by decide +kernel
theorem dX12_isByTwo_74 : decode cX12_isByTwo 74 = .ok (.iload 5, 2) := by decide +kernel
theorem dX12_isByTwo_76 : decode cX12_isByTwo 76 = .ok (.iastore, 1) := by decide +kernel
theorem dX12_isByTwo_77 : decode cX12_isByTwo 77 = .ok (.aload_n 0, 1) := by decide +kernel
theorem dX12_isByTwo_78 : decode cX12_isByTwo 78 = .ok (.getfield 23, 3) := by decide +kernel
theorem dX12_isByTwo_81 : decode cX12_isByTwo 81 = .ok (.iload_n 2, 1) := by decide +kernel
theorem dX12_isByTwo_82 : decode cX12_isByTwo 82 = .ok (.iload 6, 2) := by decide +kernel
theorem dX12_isByTwo_84 : decode cX12_isByTwo 84 = .ok (.iastore, 1) := by decide +kernel
theorem dX12_isByTwo_85 : decode cX12_isByTwo 85 = .ok (.iload 7, 2) := by decide +kernel
theorem dX12_isByTwo_87 : decode cX12_isByTwo 87 = .ok (.ireturn, 1) := by decide +kernel
theorem dX12_isByOne_0 : decode cX12_isByOne 0 = .ok (.aload_n 0, 1) := by decide +kernel
theorem dX12_isByOne_1 : decode cX12_isByOne 1 = .ok (.getfield 23, 3) := by decide +kernel
theorem dX12_isByOne_4 : decode cX12_isByOne 4 = .ok (.iload_n 1, 1) := by decide +kernel
theorem dX12_isByOne_5 : decode cX12_isByOne 5 = .ok (.iaload, 1) := by decide +kernel
theorem dX12_isByOne_6 : decode cX12_isByOne 6 = .ok (.istore 4, 2) := by decide +kernel
theorem dX12_isByOne_8 : decode cX12_isByOne 8 = .ok (.iconst 0, 1) := by decide +kernel
theorem dX12_isByOne_9 : decode cX12_isByOne 9 = .ok (.istore 5, 2) := by decide +kernel
theorem dX12_isByOne_11 : decode cX12_isByOne 11 = .ok (.iconst 0, 1) := by decide +kernel
theorem dX12_isByOne_12 : decode cX12_isByOne 12 = .ok (.istore 6, 2) := by decide +kernel
theorem dX12_isByOne_14 : decode cX12_isByOne 14 = .ok (.iload 6, 2) := by decide +kernel
theorem dX12_isByOne_16 : decode cX12_isByOne 16 = .ok (.iconst 3, 1) := by decide +kernel
theorem dX12_isByOne_17 : decode cX12_isByOne 17 = .ok (.if_icmp .ge 30, 3) := by decide +kernel
theorem dX12_isByOne_20 : decode cX12_isByOne 20 = .ok (.iload 5, 2) := by decide +kernel
theorem dX12_isByOne_22 : decode cX12_isByOne 22 = .ok (.ifCond .ne 25, 3) := by decide +kernel
theorem dX12_isByOne_25 : decode cX12_isByOne 25 = .ok (.aload_n 0, 1) := by decide +kernel
theorem dX12_isByOne_26 : decode cX12_isByOne 26 = .ok (.getfield 23, 3) := by decide +kernel
theorem dX12_isByOne_29 : decode cX12_isByOne 29 = .ok (.iload_n 1, 1) := by decide +kernel
theorem dX12_isByOne_30 : decode cX12_isByOne 30 = .ok (.iload 6, 2) := by decide +kernel
theorem dX12_isByOne_32 : decode cX12_isByOne 32 = .ok (.iastore, 1) := by decide +kernel
theorem dX12_isByOne_33 : decode cX12_isByOne 33 = .ok (.aload_n 0, 1) := by decide +kernel
theorem dX12_isByOne_34 : decode cX12_isByOne 34 = .ok (.iload_n 2, 1) := by decide +kernel
theorem dX12_isByOne_35 : decode cX12_isByOne 35 = .ok (.iload_n 3, 1) := by decide +kernel
theorem dX12_isByOne_36 : decode cX12_isByOne 36 = .ok (.invokevirtual 205, 3) := by decide +kernel
theorem dX12_isByOne_39 : decode cX12_isByOne 39 = .ok (.istore 5, 2) := by decide +kernel
theorem dX12_isByOne_41 : decode cX12_isByOne 41 = .ok (.iinc 6 1, 3) := by decide +kernel
theorem dX12_isByOne_44 : decode cX12_isByOne 44 = .ok (.goto (-30), 3) := by decide +kernel
theorem dX12_isByOne_47 : decode cX12_isByOne 47 = .ok (.aload_n 0, 1) := by decide +kernel
theorem dX12_isByOne_48 : decode cX12_isByOne 48 = .ok (.getfield 23, 3) := by decide +kernel
theorem dX12_isByOne_51 : decode cX12_isByOne 51 = .ok (.iload_n 1, 1) := by decide +kernel
theorem dX12_isByOne_52 : decode cX12_isByOne 52 = .ok (.iload 4, 2) := by decide +kernel
theorem dX12_isByOne_54 : decode cX12_isByOne 54 = .ok (.iastore, 1) := by decide +kernel
theorem dX12_isByOne_55 : decode cX12_isByOne 55 = .ok (.iload 5, 2) := by decide +kernel
theorem dX12_isByOne_57 : decode cX12_isByOne 57 = .ok (.ireturn, 1) := by decide +kernel
theorem dX12_hats_0 : decode cX12_hats 0 = .ok (.aload_n 0, 1) := by decide +kernel
theorem dX12_hats_1 : decode cX12_hats 1 = .ok (.getfield 75, 3) := by decide +kernel
theorem dX12_hats_4 : decode cX12_hats 4 = .ok (.ifCond .ne 6, 3) := by decide +kernel
theorem dX12_hats_7 : decode cX12_hats 7 = .ok (.bipush (-3), 2) := by decide +kernel
theorem dX12_hats_9 : decode cX12_hats 9 = .ok (.ireturn, 1) := by decide +kernel
theorem dX12_hats_10 : decode cX12_hats 10 = .ok (.iload_n 1, 1) := by decide +kernel
theorem dX12_hats_11 : decode cX12_hats 11 = .ok (.iconst 0, 1) := by decide +kernel
theorem dX12_hats_12 : decode cX12_hats 12 = .ok (.aload_n 0, 1) := by decide +kernel
theorem dX12_hats_13 : decode cX12_hats 13 = .ok (.invokevirtual 153, 3) := by decide +kernel
theorem dX12_hats_16 : decode cX12_hats 16 = .ok (.invokestatic 71, 3) := by decide +kernel
theorem dX12_hats_19 : decode cX12_hats 19 = .ok (.ifCond .eq 13, 3) := by decide +kernel
theorem dX12_hats_22 : decode cX12_hats 22 = .ok (.iload_n 2, 1) := by decide +kernel
theorem dX12_hats_23 : decode cX12_hats 23 = .ok (.iconst 0, 1) := by decide +kernel
theorem dX12_hats_24 : decode cX12_hats 24 = .ok (.bipush 10, 2) := by decide +kernel
theorem dX12_hats_26 : decode cX12_hats 26 = .ok (.invokestatic 71, 3) := by decide +kernel
theorem dX12_hats_29 : decode cX12_hats 29 = .ok (.ifCond .ne 6, 3) := by decide +kernel
theorem dX12_hats_32 : decode cX12_hats 32 = .ok (.bipush (-2), 2) := by decide +kernel
theorem dX12_hats_34 : decode cX12_hats 34 = .ok (.ireturn, 1) := by decide +kernel
theorem dX12_hats_35 : decode cX12_hats 35 = .ok (.aload_n 0, 1) := by decide +kernel
theorem dX12_hats_36 : decode cX12_hats 36 = .ok (.iload_n 1, 1) := by decide +kernel
theorem dX12_hats_37 : decode cX12_hats 37 = .ok (.iload_n 2, 1) := by decide +kernel
theorem dX12_hats_38 : decode cX12_hats 38 = .ok (.invokevirtual 205, 3) := by decide +kernel
theorem dX12_hats_41 : decode cX12_hats 41 = .ok (.ifCond .eq 5, 3) := by decide +kernel
theorem dX12_hats_44 : decode cX12_hats 44 = .ok (.iconst 0, 1) := by decide +kernel
theorem dX12_hats_45 : decode cX12_hats 45 = .ok (.ireturn, 1) := by decide +kernel
theorem dX12_hats_46 : decode cX12_hats 46 = .ok (.iconst 0, 1) := by decide +kernel
theorem dX12_hats_47 : decode cX12_hats 47 = .ok (.istore_n 3, 1) := by decide +kernel
theorem dX12_hats_48 : decode cX12_hats 48 = .ok (.iload_n 3, 1) := by decide +kernel
theorem dX12_hats_49 : decode cX12_hats 49 = .ok (.aload_n 0, 1) := by decide +kernel
theorem dX12_hats_50 : decode cX12_hats 50 = .ok (.getfield 78, 3) := by decide +kernel
theorem dX12_hats_53 : decode cX12_hats 53 = .ok (.if_icmp .ge 23, 3) := by decide +kernel
theorem dX12_hats_56 : decode cX12_hats 56 = .ok (.aload_n 0, 1) := by decide +kernel
theorem dX12_hats_57 : decode cX12_hats 57 = .ok (.iload_n 3, 1) := by decide +kernel
theorem dX12_hats_58 : decode cX12_hats 58 = .ok (.iload_n 1, 1) := by decide +kernel
theorem dX12_hats_59 : decode cX12_hats 59 = .ok (.iload_n 2, 1) := by decide +kernel
theorem dX12_hats_60 : decode cX12_hats 60 = .ok (.invokevirtual 208, 3) := by decide +kernel
theorem dX12_hats_63 : decode cX12_hats 63 = .ok (.ifCond .eq 7, 3) := by decide +kernel
theorem dX12_hats_66 : decode cX12_hats 66 = .ok (.iconst 1, 1) := by decide +kernel
theorem dX12_hats_67 : decode cX12_hats 67 = .ok (.iload_n 3, 1) := by decide +kernel
theorem dX12_hats_68 : decode cX12_hats 68 = .ok (.ishl, 1) := by decide +kernel
theorem dX12_hats_69 : decode cX12_hats 69 = .ok (.ireturn, 1) := by decide +kernel
theorem dX12_hats_70 : decode cX12_hats 70 = .ok (.iinc 3 1, 3) := by decide +kernel
theorem dX12_hats_73 : decode cX12_hats 73 = .ok (.goto (-25), 3) := by decide +kernel
theorem dX12_hats_76 : decode cX12_hats 76 = .ok (.bipush (-9), 2) := by decide +kernel
theorem dX12_hats_78 : decode cX12_hats 78 = .ok (.istore_n 3, 1) := by decide +kernel
theorem dX12_hats_79 : decode cX12_hats 79 = .ok (.iconst 0, 1) := by decide +kernel
theorem dX12_hats_80 : decode cX12_hats 80 = .ok (.istore 4, 2) := by decide +kernel
theorem dX12_hats_82 : decode cX12_hats 82 = .ok (.iload 4, 2) := by decide +kernel
theorem dX12_hats_84 : decode cX12_hats 84 = .ok (.aload_n 0, 1) := by decide +kernel
theorem dX12_hats_85 : decode cX12_hats 85 = .ok (.getfield 78, 3) := by decide +kernel
theorem dX12_hats_88 : decode cX12_hats 88 = .ok (.if_icmp .ge 69, 3) := by decide +kernel
theorem dX12_hats_91 : decode cX12_hats 91 = .ok (.iload 4, 2) := by decide +kernel
theorem dX12_hats_93 : decode cX12_hats 93 = .ok (.iconst 1, 1) := by decide +kernel
theorem dX12_hats_94 : decode cX12_hats 94 = .ok (.iadd, 1) := by decide +kernel
theorem dX12_hats_95 : decode cX12_hats 95 = .ok (.istore 5, 2) := by decide +kernel
theorem dX12_hats_97 : decode cX12_hats 97 = .ok (.iload 5, 2) := by decide +kernel
theorem dX12_hats_99 : decode cX12_hats 99 = .ok (.aload_n 0, 1) := by decide +kernel
theorem dX12_hats_100 : decode cX12_hats 100 = .ok (.getfield 78, 3) := by decide +kernel
theorem dX12_hats_103 : decode cX12_hats 103 = .ok (.if_icmp .ge 48, 3) := by decide +kernel
theorem dX12_hats_106 : decode cX12_hats 106 = .ok (.iconst 1, 1) := by decide +kernel
theorem dX12_hats_107 : decode cX12_hats 107 = .ok (.iload 4, 2) := by decide +kernel
theorem dX12_hats_109 : decode cX12_hats 109 = .ok (.ishl, 1) := by decide +kernel
theorem dX12_hats_110 : decode cX12_hats 110 = .ok (.iconst 1, 1) := by decide +kernel
theorem dX12_hats_111 : decode cX12_hats 111 = .ok (.iload 5, 2) := by decide +kernel
theorem dX12_hats_113 : decode cX12_hats 113 = .ok (.ishl, 1) := by decide +kernel
theorem dX12_hats_114 : decode cX12_hats 114 = .ok (.ior, 1) := by decide +kernel
theorem dX12_hats_115 : decode cX12_hats 115 = .ok (.istore 6, 2) := by decide +kernel
theorem dX12_hats_117 : decode cX12_hats 117 = .ok (.iload_n 3, 1) := by decide +kernel
theorem dX12_hats_118 : decode cX12_hats 118 = .ok (.bipush (-9), 2) := by decide +kernel
theorem dX12_hats_120 : decode cX12_hats 120 = .ok (.if_icmp .eq 9, 3) := by decide +kernel
theorem dX12_hats_123 : decode cX12_hats 123 = .ok (.iload 6, 2) := by decide +kernel
theorem dX12_hats_125 : decode cX12_hats 125 = .ok (.iload_n 3, 1) := by decide +kernel
theorem dX12_hats_126 : decode cX12_hats 126 = .ok (.if_icmp .ge 19, 3) := by decide +kernel
theorem dX12_hats_129 : decode cX12_hats 129 = .ok (.aload_n 0, 1) := by decide +kernel
theorem dX12_hats_130 : decode cX12_hats 130 = .ok (.iload 4, 2) := by decide +kernel
theorem dX12_hats_132 : decode cX12_hats 132 = .ok (.iload 5, 2) := by decide +kernel
theorem dX12_hats_134 : decode cX12_hats 134 = .ok (.iload_n 1, 1) := by decide +kernel
theorem dX12_hats_135 : decode cX12_hats 135 = .ok (.iload_n 2, 1) := by decide +kernel
theorem dX12_hats_136 : decode cX12_hats 136 = .ok (.invokevirtual 211, 3) := by decide +kernel
theorem dX12_hats_139 : decode cX12_hats 139 = .ok (.ifCond .eq 6, 3) := by decide +kernel
theorem dX12_hats_142 : decode cX12_hats 142 = .ok (.iload 6, 2) := by decide +kernel
theorem dX12_hats_144 : decode cX12_hats 144 = .ok (.istore_n 3, 1) := by decide +kernel
theorem dX12_hats_145 : decode cX12_hats 145 = .ok (.iinc 5 1, 3) := by decide +kernel
theorem dX12_hats_148 : decode cX12_hats 148 = .ok (.goto (-51), 3) := by decide +kernel
theorem dX12_hats_151 : decode cX12_hats 151 = .ok (.iinc 4 1, 3) := by decide +kernel
theorem dX12_hats_154 : decode cX12_hats 154 = .ok (.goto (-72), 3) := by decide +kernel
theorem dX12_hats_157 : decode cX12_hats 157 = .ok (.iload_n 3, 1) := by decide +kernel
theorem dX12_hats_158 : decode cX12_hats 158 = .ok (.ireturn, 1) := by decide +kernel
theorem dX12_rid_0 : decode cX12_rid 0 = .ok (.aload_n 0, 1) := by decide +kernel
theorem dX12_rid_1 : decode cX12_rid 1 = .ok (.iload_n 1, 1) := by decide +kernel
theorem dX12_rid_2 : decode cX12_rid 2 = .ok (.invokevirtual 134, 3) := by decide +kernel
theorem dX12_rid_5 : decode cX12_rid 5 = .ok (.ifCond .ne 5, 3) := by decide +kernel
theorem dX12_rid_8 : decode cX12_rid 8 = .ok (.iconst (-1), 1) := by decide +kernel
theorem dX12_rid_9 : decode cX12_rid 9 = .ok (.ireturn, 1) := by decide +kernel
theorem dX12_rid_10 : decode cX12_rid 10 = .ok (.aload_n 0, 1) := by decide +kernel
theorem dX12_rid_11 : decode cX12_rid 11 = .ok (.aload_n 0, 1) := by decide +kernel
theorem dX12_rid_12 : decode cX12_rid 12 = .ok (.invokevirtual 153, 3) := by decide +kernel
theorem dX12_rid_15 : decode cX12_rid 15 = .ok (.invokevirtual 202, 3) := by decide +kernel
theorem dX12_rid_18 : decode cX12_rid 18 = .ok (.istore_n 2, 1) := by decide +kernel
theorem dX12_rid_19 : decode cX12_rid 19 = .ok (.iload_n 2, 1) := by decide +kernel
theorem dX12_rid_20 : decode cX12_rid 20 = .ok (.bipush (-9), 2) := by decide +kernel
theorem dX12_rid_22 : decode cX12_rid 22 = .ok (.if_icmp .ne 8, 3) := by decide +kernel
theorem dX12_rid_25 : decode cX12_rid 25 = .ok (.bipush (-9), 2) := by decide +kernel
theorem dX12_rid_27 : decode cX12_rid 27 = .ok (.goto 19, 3) := by decide +kernel
theorem dX12_rid_30 : decode cX12_rid 30 = .ok (.iload_n 2, 1) := by decide +kernel
theorem dX12_rid_31 : decode cX12_rid 31 = .ok (.aload_n 0, 1) := by decide +kernel
theorem dX12_rid_32 : decode cX12_rid 32 = .ok (.aload_n 0, 1) := by decide +kernel
theorem dX12_rid_33 : decode cX12_rid 33 = .ok (.invokevirtual 153, 3) := by decide +kernel
theorem dX12_rid_36 : decode cX12_rid 36 = .ok (.iconst 1, 1) := by decide +kernel
theorem dX12_rid_37 : decode cX12_rid 37 = .ok (.iload_n 1, 1) := by decide +kernel
theorem dX12_rid_38 : decode cX12_rid 38 = .ok (.ishl, 1) := by decide +kernel
theorem dX12_rid_39 : decode cX12_rid 39 = .ok (.iconst (-1), 1) := by decide +kernel
theorem dX12_rid_40 : decode cX12_rid 40 = .ok (.ixor, 1) := by decide +kernel
theorem dX12_rid_41 : decode cX12_rid 41 = .ok (.iand, 1) := by decide +kernel
theorem dX12_rid_42 : decode cX12_rid 42 = .ok (.invokevirtual 202, 3) := by decide +kernel
theorem dX12_rid_45 : decode cX12_rid 45 = .ok (.isub, 1) := by decide +kernel
theorem dX12_rid_46 : decode cX12_rid 46 = .ok (.ireturn, 1) := by decide +kernel
theorem dX12_reading_0 : decode cX12_reading 0 = .ok (.aload_n 0, 1) := by decide +kernel
theorem dX12_reading_1 : decode cX12_reading 1 = .ok (.iload_n 1, 1) := by decide +kernel
theorem dX12_reading_2 : decode cX12_reading 2 = .ok (.invokevirtual 134, 3) := by decide +kernel
theorem dX12_reading_5 : decode cX12_reading 5 = .ok (.ifCond .ne 5, 3) := by decide +kernel
theorem dX12_reading_8 : decode cX12_reading 8 = .ok (.iconst (-1), 1) := by decide +kernel
theorem dX12_reading_9 : decode cX12_reading 9 = .ok (.ireturn, 1) := by decide +kernel
theorem dX12_reading_10 : decode cX12_reading 10 = .ok (.iload_n 2, 1) := by decide +kernel
theorem dX12_reading_11 : decode cX12_reading 11 = .ok (.iconst 0, 1) := by decide +kernel
theorem dX12_reading_12 : decode cX12_reading 12 = .ok (.bipush 9, 2) := by decide +kernel
theorem dX12_reading_14 : decode cX12_reading 14 = .ok (.invokestatic 71, 3) := by decide +kernel
theorem dX12_reading_17 : decode cX12_reading 17 = .ok (.ifCond .eq 15, 3) := by decide +kernel
theorem dX12_reading_20 : decode cX12_reading 20 = .ok (.iload_n 3, 1) := by decide +kernel
theorem dX12_reading_21 : decode cX12_reading 21 = .ok (.iconst 0, 1) := by decide +kernel
theorem dX12_reading_22 : decode cX12_reading 22 = .ok (.aload_n 0, 1) := by decide +kernel
theorem dX12_reading_23 : decode cX12_reading 23 = .ok (.getfield 108, 3) := by decide +kernel
theorem dX12_reading_26 : decode cX12_reading 26 = .ok (.invokestatic 71, 3) := by decide +kernel
theorem dX12_reading_29 : decode cX12_reading 29 = .ok (.ifCond .ne 6, 3) := by decide +kernel
theorem dX12_reading_32 : decode cX12_reading 32 = .ok (.bipush (-2), 2) := by decide +kernel
theorem dX12_reading_34 : decode cX12_reading 34 = .ok (.ireturn, 1) := by decide +kernel
theorem dX12_reading_35 : decode cX12_reading 35 = .ok (.aload_n 0, 1) := by decide +kernel
theorem dX12_reading_36 : decode cX12_reading 36 = .ok (.getfield 117, 3) := by decide +kernel
theorem dX12_reading_39 : decode cX12_reading 39 = .ok (.bipush 8, 2) := by decide +kernel
theorem dX12_reading_41 : decode cX12_reading 41 = .ok (.if_icmp .ne 6, 3) := by decide +kernel
theorem dX12_reading_44 : decode cX12_reading 44 = .ok (.bipush (-4), 2) := by decide +kernel
theorem dX12_reading_46 : decode cX12_reading 46 = .ok (.ireturn, 1) := by decide +kernel
theorem dX12_reading_47 : decode cX12_reading 47 = .ok (.aload_n 0, 1) := by decide +kernel
theorem dX12_reading_48 : decode cX12_reading 48 = .ok (.getfield 56, 3) := by decide +kernel
theorem dX12_reading_51 : decode cX12_reading 51 = .ok (.aload_n 0, 1) := by decide +kernel
theorem dX12_reading_52 : decode cX12_reading 52 = .ok (.getfield 117, 3) := by decide +kernel
theorem dX12_reading_55 : decode cX12_reading 55 = .ok (.iload_n 1, 1) := by decide +kernel
theorem dX12_reading_56 : decode cX12_reading 56 = .ok (.iastore, 1) := by decide +kernel
theorem dX12_reading_57 : decode cX12_reading 57 = .ok (.aload_n 0, 1) := by decide +kernel
theorem dX12_reading_58 : decode cX12_reading 58 = .ok (.getfield 59, 3) := by decide +kernel
theorem dX12_reading_61 : decode cX12_reading 61 = .ok (.aload_n 0, 1) := by decide +kernel
theorem dX12_reading_62 : decode cX12_reading 62 = .ok (.getfield 117, 3) := by decide +kernel
theorem dX12_reading_65 : decode cX12_reading 65 = .ok (.iload_n 2, 1) := by decide +kernel
theorem dX12_reading_66 : decode cX12_reading 66 = .ok (.iastore, 1) := by decide +kernel
theorem dX12_reading_67 : decode cX12_reading 67 = .ok (.aload_n 0, 1) := by decide +kernel
theorem dX12_reading_68 : decode cX12_reading 68 = .ok (.getfield 62, 3) := by decide +kernel
theorem dX12_reading_71 : decode cX12_reading 71 = .ok (.aload_n 0, 1) := by decide +kernel
theorem dX12_reading_72 : decode cX12_reading 72 = .ok (.getfield 117, 3) := by decide +kernel
theorem dX12_reading_75 : decode cX12_reading 75 = .ok (.iload_n 3, 1) := by decide +kernel
theorem dX12_reading_76 : decode cX12_reading 76 = .ok (.iastore, 1) := by decide +kernel
theorem dX12_reading_77 : decode cX12_reading 77 = .ok (.aload_n 0, 1) := by decide +kernel
theorem dX12_reading_78 : decode cX12_reading 78 = .ok (.dup, 1) := by decide +kernel
theorem dX12_reading_79 : decode cX12_reading 79 = .ok (.getfield 117, 3) := by decide +kernel
theorem dX12_reading_82 : decode cX12_reading 82 = .ok (.iconst 1, 1) := by decide +kernel
theorem dX12_reading_83 : decode cX12_reading 83 = .ok (.iadd, 1) := by decide +kernel
theorem dX12_reading_84 : decode cX12_reading 84 = .ok (.putfield 117, 3) := by decide +kernel
theorem dX12_reading_87 : decode cX12_reading 87 = .ok (.aload_n 0, 1) := by decide +kernel
theorem dX12_reading_88 : decode cX12_reading 88 = .ok (.getfield 117, 3) := by decide +kernel
theorem dX12_reading_91 : decode cX12_reading 91 = .ok (.iconst 1, 1) := by decide +kernel
theorem dX12_reading_92 : decode cX12_reading 92 = .ok (.isub, 1) := by decide +kernel
theorem dX12_reading_93 : decode cX12_reading 93 = .ok (.ireturn, 1) := by decide +kernel
theorem dX12_back_0 : decode cX12_back 0 = .ok (.iload_n 1, 1) := by decide +kernel
theorem dX12_back_1 : decode cX12_back 1 = .ok (.iconst 0, 1) := by decide +kernel
theorem dX12_back_2 : decode cX12_back 2 = .ok (.aload_n 0, 1) := by decide +kernel
theorem dX12_back_3 : decode cX12_back 3 = .ok (.getfield 117, 3) := by decide +kernel
theorem dX12_back_6 : decode cX12_back 6 = .ok (.invokestatic 71, 3) := by decide +kernel
theorem dX12_back_9 : decode cX12_back 9 = .ok (.ifCond .ne 6, 3) := by decide +kernel
theorem dX12_back_12 : decode cX12_back 12 = .ok (.bipush (-2), 2) := by decide +kernel
theorem dX12_back_14 : decode cX12_back 14 = .ok (.ireturn, 1) := by decide +kernel
theorem dX12_back_15 : decode cX12_back 15 = .ok (.aload_n 0, 1) := by decide +kernel
theorem dX12_back_16 : decode cX12_back 16 = .ok (.dup, 1) := by decide +kernel
theorem dX12_back_17 : decode cX12_back 17 = .ok (.getfield 117, 3) := by decide +kernel
theorem dX12_back_20 : decode cX12_back 20 = .ok (.iload_n 1, 1) := by decide +kernel
theorem dX12_back_21 : decode cX12_back 21 = .ok (.isub, 1) := by decide +kernel
theorem dX12_back_22 : decode cX12_back 22 = .ok (.putfield 117, 3) := by decide +kernel
theorem dX12_back_25 : decode cX12_back 25 = .ok (.aload_n 0, 1) := by decide +kernel
theorem dX12_back_26 : decode cX12_back 26 = .ok (.getfield 117, 3) := by decide +kernel
theorem dX12_back_29 : decode cX12_back 29 = .ok (.ireturn, 1) := by decide +kernel
theorem dX12_areSo_0 : decode cX12_areSo 0 = .ok (.iconst 0, 1) := by decide +kernel
theorem dX12_areSo_1 : decode cX12_areSo 1 = .ok (.istore_n 1, 1) := by decide +kernel
theorem dX12_areSo_2 : decode cX12_areSo 2 = .ok (.aload_n 0, 1) := by decide +kernel
theorem dX12_areSo_3 : decode cX12_areSo 3 = .ok (.iconst 0, 1) := by decide +kernel
theorem dX12_areSo_4 : decode cX12_areSo 4 = .ok (.invokevirtual 159, 3) := by decide +kernel
theorem dX12_areSo_7 : decode cX12_areSo 7 = .ok (.pop, 1) := by decide +kernel
theorem dX12_areSo_8 : decode cX12_areSo 8 = .ok (.iconst 0, 1) := by decide +kernel
theorem dX12_areSo_9 : decode cX12_areSo 9 = .ok (.istore_n 2, 1) := by decide +kernel
theorem dX12_areSo_10 : decode cX12_areSo 10 = .ok (.iload_n 2, 1) := by decide +kernel
theorem dX12_areSo_11 : decode cX12_areSo 11 = .ok (.aload_n 0, 1) := by decide +kernel
theorem dX12_areSo_12 : decode cX12_areSo 12 = .ok (.getfield 156, 3) := by decide +kernel
theorem dX12_areSo_15 : decode cX12_areSo 15 = .ok (.if_icmp .ge 76, 3) := by decide +kernel
theorem dX12_areSo_18 : decode cX12_areSo 18 = .ok (.aload_n 0, 1) := by decide +kernel
theorem dX12_areSo_19 : decode cX12_areSo 19 = .ok (.aload_n 0, 1) := by decide +kernel
theorem dX12_areSo_20 : decode cX12_areSo 20 = .ok (.getfield 47, 3) := by decide +kernel
theorem dX12_areSo_23 : decode cX12_areSo 23 = .ok (.iload_n 2, 1) := by decide +kernel
theorem dX12_areSo_24 : decode cX12_areSo 24 = .ok (.iaload, 1) := by decide +kernel
theorem dX12_areSo_25 : decode cX12_areSo 25 = .ok (.aload_n 0, 1) := by decide +kernel
theorem dX12_areSo_26 : decode cX12_areSo 26 = .ok (.getfield 23, 3) := by decide +kernel
theorem dX12_areSo_29 : decode cX12_areSo 29 = .ok (.iload_n 2, 1) := by decide +kernel
theorem dX12_areSo_30 : decode cX12_areSo 30 = .ok (.iaload, 1) := by decide +kernel
theorem dX12_areSo_31 : decode cX12_areSo 31 = .ok (.invokevirtual 176, 3) := by decide +kernel
theorem dX12_areSo_34 : decode cX12_areSo 34 = .ok (.iconst 0, 1) := by decide +kernel
theorem dX12_areSo_35 : decode cX12_areSo 35 = .ok (.istore_n 3, 1) := by decide +kernel
theorem dX12_areSo_36 : decode cX12_areSo 36 = .ok (.iload_n 3, 1) := by decide +kernel
theorem dX12_areSo_37 : decode cX12_areSo 37 = .ok (.aload_n 0, 1) := by decide +kernel
theorem dX12_areSo_38 : decode cX12_areSo 38 = .ok (.getfield 117, 3) := by decide +kernel
theorem dX12_areSo_41 : decode cX12_areSo 41 = .ok (.if_icmp .ge 44, 3) := by decide +kernel
theorem dX12_areSo_44 : decode cX12_areSo 44 = .ok (.aload_n 0, 1) := by decide +kernel
theorem dX12_areSo_45 : decode cX12_areSo 45 = .ok (.getfield 59, 3) := by decide +kernel
theorem dX12_areSo_48 : decode cX12_areSo 48 = .ok (.iload_n 3, 1) := by decide +kernel
theorem dX12_areSo_49 : decode cX12_areSo 49 = .ok (.iaload, 1) := by decide +kernel
theorem dX12_areSo_50 : decode cX12_areSo 50 = .ok (.iload_n 2, 1) := by decide +kernel
theorem dX12_areSo_51 : decode cX12_areSo 51 = .ok (.if_icmp .ne 28, 3) := by decide +kernel
theorem dX12_areSo_54 : decode cX12_areSo 54 = .ok (.iinc 1 1, 3) := by decide +kernel
theorem dX12_areSo_57 : decode cX12_areSo 57 = .ok (.aload_n 0, 1) := by decide +kernel
theorem dX12_areSo_58 : decode cX12_areSo 58 = .ok (.getfield 44, 3) := by decide +kernel
theorem dX12_areSo_61 : decode cX12_areSo 61 = .ok (.aload_n 0, 1) := by decide +kernel
theorem dX12_areSo_62 : decode cX12_areSo 62 = .ok (.getfield 56, 3) := by decide +kernel
theorem dX12_areSo_65 : decode cX12_areSo 65 = .ok (.iload_n 3, 1) := by decide +kernel
theorem dX12_areSo_66 : decode cX12_areSo 66 = .ok (.iaload, 1) := by decide +kernel
theorem dX12_areSo_67 : decode cX12_areSo 67 = .ok (.iaload, 1) := by decide +kernel
theorem dX12_areSo_68 : decode cX12_areSo 68 = .ok (.aload_n 0, 1) := by decide +kernel
theorem dX12_areSo_69 : decode cX12_areSo 69 = .ok (.getfield 62, 3) := by decide +kernel
theorem dX12_areSo_72 : decode cX12_areSo 72 = .ok (.iload_n 3, 1) := by decide +kernel
theorem dX12_areSo_73 : decode cX12_areSo 73 = .ok (.iaload, 1) := by decide +kernel
theorem dX12_areSo_74 : decode cX12_areSo 74 = .ok (.if_icmp .eq 5, 3) := by decide +kernel
theorem dX12_areSo_77 : decode cX12_areSo 77 = .ok (.iconst 0, 1) := by decide +kernel
theorem dX12_areSo_78 : decode cX12_areSo 78 = .ok (.ireturn, 1) := by decide +kernel
theorem dX12_areSo_79 : decode cX12_areSo 79 = .ok (.iinc 3 1, 3) := by decide +kernel
theorem dX12_areSo_82 : decode cX12_areSo 82 = .ok (.goto (-46), 3) := by decide +kernel
theorem dX12_areSo_85 : decode cX12_areSo 85 = .ok (.iinc 2 1, 3) := by decide +kernel
theorem dX12_areSo_88 : decode cX12_areSo 88 = .ok (.goto (-78), 3) := by decide +kernel
theorem dX12_areSo_91 : decode cX12_areSo 91 = .ok (.iload_n 1, 1) := by decide +kernel
theorem dX12_areSo_92 : decode cX12_areSo 92 = .ok (.aload_n 0, 1) := by decide +kernel
theorem dX12_areSo_93 : decode cX12_areSo 93 = .ok (.getfield 117, 3) := by decide +kernel
theorem dX12_areSo_96 : decode cX12_areSo 96 = .ok (.if_icmp .ne 7, 3) := by decide +kernel
theorem dX12_areSo_99 : decode cX12_areSo 99 = .ok (.iconst 1, 1) := by decide +kernel
theorem dX12_areSo_100 : decode cX12_areSo 100 = .ok (.goto 4, 3) := by decide +kernel
theorem dX12_areSo_103 : decode cX12_areSo 103 = .ok (.iconst 0, 1) := by decide +kernel
theorem dX12_areSo_104 : decode cX12_areSo 104 = .ok (.ireturn, 1) := by decide +kernel
theorem dX12_lay_0 : decode cX12_lay 0 = .ok (.aload_n 0, 1) := by decide +kernel
theorem dX12_lay_1 : decode cX12_lay 1 = .ok (.iconst 0, 1) := by decide +kernel
theorem dX12_lay_2 : decode cX12_lay 2 = .ok (.putfield 65, 3) := by decide +kernel
theorem dX12_lay_5 : decode cX12_lay 5 = .ok (.iload_n 1, 1) := by decide +kernel
theorem dX12_lay_6 : decode cX12_lay 6 = .ok (.ifCond .eq 5, 3) := by decide +kernel
theorem dX12_lay_9 : decode cX12_lay 9 = .ok (.iload_n 1, 1) := by decide +kernel
theorem dX12_lay_10 : decode cX12_lay 10 = .ok (.ireturn, 1) := by decide +kernel
end
section
theorem dX12_lay_11 : decode cX12_lay 11 = .ok (.iload_n 2, 1) := by decide +kernel
theorem dX12_lay_12 : decode cX12_lay 12 = .ok (.invokestatic 84, 3) := by decide +kernel
theorem dX12_lay_15 : decode cX12_lay 15 = .ok (.ifCond .ne 5, 3) := by decide +kernel
theorem dX12_lay_18 : decode cX12_lay 18 = .ok (.iconst (-1), 1) := by decide +kernel
theorem dX12_lay_19 : decode cX12_lay 19 = .ok (.ireturn, 1) := by decide +kernel
theorem dX12_lay_20 : decode cX12_lay 20 = .ok (.iload_n 3, 1) := by decide +kernel
theorem dX12_lay_21 : decode cX12_lay 21 = .ok (.iload 5, 2) := by decide +kernel
theorem dX12_lay_23 : decode cX12_lay 23 = .ok (.invokestatic 183, 3) := by decide +kernel
theorem dX12_lay_26 : decode cX12_lay 26 = .ok (.ifCond .eq 16, 3) := by decide +kernel
theorem dX12_lay_29 : decode cX12_lay 29 = .ok (.aload_n 0, 1) := by decide +kernel
theorem dX12_lay_30 : decode cX12_lay 30 = .ok (.iload_n 2, 1) := by decide +kernel
theorem dX12_lay_31 : decode cX12_lay 31 = .ok (.iload_n 3, 1) := by decide +kernel
theorem dX12_lay_32 : decode cX12_lay 32 = .ok (.iload 4, 2) := by decide +kernel
theorem dX12_lay_34 : decode cX12_lay 34 = .ok (.iload 5, 2) := by decide +kernel
theorem dX12_lay_36 : decode cX12_lay 36 = .ok (.invokevirtual 186, 3) := by decide +kernel
theorem dX12_lay_39 : decode cX12_lay 39 = .ok (.goto 5, 3) := by decide +kernel
theorem dX12_lay_42 : decode cX12_lay 42 = .ok (.bipush (-2), 2) := by decide +kernel
theorem dX12_lay_44 : decode cX12_lay 44 = .ok (.ireturn, 1) := by decide +kernel
theorem dX12_winds_0 : decode cX12_winds 0 = .ok (.aload_n 0, 1) := by decide +kernel
theorem dX12_winds_1 : decode cX12_winds 1 = .ok (.aload_n 0, 1) := by decide +kernel
theorem dX12_winds_2 : decode cX12_winds 2 = .ok (.iload_n 1, 1) := by decide +kernel
theorem dX12_winds_3 : decode cX12_winds 3 = .ok (.invokevirtual 137, 3) := by decide +kernel
theorem dX12_winds_6 : decode cX12_winds 6 = .ok (.ifCond .eq 7, 3) := by decide +kernel
theorem dX12_winds_9 : decode cX12_winds 9 = .ok (.iconst 0, 1) := by decide +kernel
theorem dX12_winds_10 : decode cX12_winds 10 = .ok (.goto 5, 3) := by decide +kernel
theorem dX12_winds_13 : decode cX12_winds 13 = .ok (.bipush (-2), 2) := by decide +kernel
theorem dX12_winds_15 : decode cX12_winds 15 = .ok (.iload_n 2, 1) := by decide +kernel
theorem dX12_winds_16 : decode cX12_winds 16 = .ok (.iload_n 3, 1) := by decide +kernel
theorem dX12_winds_17 : decode cX12_winds 17 = .ok (.iload 4, 2) := by decide +kernel
theorem dX12_winds_19 : decode cX12_winds 19 = .ok (.iload 5, 2) := by decide +kernel
theorem dX12_winds_21 : decode cX12_winds 21 = .ok (.invokevirtual 215, 3) := by decide +kernel
theorem dX12_winds_24 : decode cX12_winds 24 = .ok (.istore 6, 2) := by decide +kernel
theorem dX12_winds_26 : decode cX12_winds 26 = .ok (.iload 6, 2) := by decide +kernel
theorem dX12_winds_28 : decode cX12_winds 28 = .ok (.ifCond .eq 6, 3) := by decide +kernel
theorem dX12_winds_31 : decode cX12_winds 31 = .ok (.iload 6, 2) := by decide +kernel
theorem dX12_winds_33 : decode cX12_winds 33 = .ok (.ireturn, 1) := by decide +kernel
theorem dX12_winds_34 : decode cX12_winds 34 = .ok (.aload_n 0, 1) := by decide +kernel
theorem dX12_winds_35 : decode cX12_winds 35 = .ok (.getfield 23, 3) := by decide +kernel
theorem dX12_winds_38 : decode cX12_winds 38 = .ok (.iload_n 1, 1) := by decide +kernel
theorem dX12_winds_39 : decode cX12_winds 39 = .ok (.iaload, 1) := by decide +kernel
theorem dX12_winds_40 : decode cX12_winds 40 = .ok (.istore 7, 2) := by decide +kernel
theorem dX12_winds_42 : decode cX12_winds 42 = .ok (.iconst 0, 1) := by decide +kernel
theorem dX12_winds_43 : decode cX12_winds 43 = .ok (.istore 8, 2) := by decide +kernel
theorem dX12_winds_45 : decode cX12_winds 45 = .ok (.iconst 0, 1) := by decide +kernel
theorem dX12_winds_46 : decode cX12_winds 46 = .ok (.istore 9, 2) := by decide +kernel
theorem dX12_winds_48 : decode cX12_winds 48 = .ok (.iload 9, 2) := by decide +kernel
theorem dX12_winds_50 : decode cX12_winds 50 = .ok (.iconst 3, 1) := by decide +kernel
theorem dX12_winds_51 : decode cX12_winds 51 = .ok (.if_icmp .ge 37, 3) := by decide +kernel
theorem dX12_winds_54 : decode cX12_winds 54 = .ok (.aload_n 0, 1) := by decide +kernel
theorem dX12_winds_55 : decode cX12_winds 55 = .ok (.getfield 23, 3) := by decide +kernel
theorem dX12_winds_58 : decode cX12_winds 58 = .ok (.iload_n 1, 1) := by decide +kernel
theorem dX12_winds_59 : decode cX12_winds 59 = .ok (.iload 9, 2) := by decide +kernel
theorem dX12_winds_61 : decode cX12_winds 61 = .ok (.iastore, 1) := by decide +kernel
theorem dX12_winds_62 : decode cX12_winds 62 = .ok (.iload 8, 2) := by decide +kernel
theorem dX12_winds_64 : decode cX12_winds 64 = .ok (.aload_n 0, 1) := by decide +kernel
theorem dX12_winds_65 : decode cX12_winds 65 = .ok (.invokevirtual 219, 3) := by decide +kernel
theorem dX12_winds_68 : decode cX12_winds 68 = .ok (.ifCond .eq 10, 3) := by decide +kernel
theorem dX12_winds_71 : decode cX12_winds 71 = .ok (.iconst 1, 1) := by decide +kernel
theorem dX12_winds_72 : decode cX12_winds 72 = .ok (.iload 9, 2) := by decide +kernel
theorem dX12_winds_74 : decode cX12_winds 74 = .ok (.ishl, 1) := by decide +kernel
theorem dX12_winds_75 : decode cX12_winds 75 = .ok (.goto 4, 3) := by decide +kernel
theorem dX12_winds_78 : decode cX12_winds 78 = .ok (.iconst 0, 1) := by decide +kernel
theorem dX12_winds_79 : decode cX12_winds 79 = .ok (.ior, 1) := by decide +kernel
theorem dX12_winds_80 : decode cX12_winds 80 = .ok (.istore 8, 2) := by decide +kernel
theorem dX12_winds_82 : decode cX12_winds 82 = .ok (.iinc 9 1, 3) := by decide +kernel
theorem dX12_winds_85 : decode cX12_winds 85 = .ok (.goto (-37), 3) := by decide +kernel
theorem dX12_winds_88 : decode cX12_winds 88 = .ok (.aload_n 0, 1) := by decide +kernel
theorem dX12_winds_89 : decode cX12_winds 89 = .ok (.getfield 23, 3) := by decide +kernel
theorem dX12_winds_92 : decode cX12_winds 92 = .ok (.iload_n 1, 1) := by decide +kernel
theorem dX12_winds_93 : decode cX12_winds 93 = .ok (.iload 7, 2) := by decide +kernel
theorem dX12_winds_95 : decode cX12_winds 95 = .ok (.iastore, 1) := by decide +kernel
theorem dX12_winds_96 : decode cX12_winds 96 = .ok (.iload 8, 2) := by decide +kernel
theorem dX12_winds_98 : decode cX12_winds 98 = .ok (.ireturn, 1) := by decide +kernel
theorem dX12_kinds_0 : decode cX12_kinds 0 = .ok (.aload_n 0, 1) := by decide +kernel
theorem dX12_kinds_1 : decode cX12_kinds 1 = .ok (.aload_n 0, 1) := by decide +kernel
theorem dX12_kinds_2 : decode cX12_kinds 2 = .ok (.iload_n 1, 1) := by decide +kernel
theorem dX12_kinds_3 : decode cX12_kinds 3 = .ok (.invokevirtual 134, 3) := by decide +kernel
theorem dX12_kinds_6 : decode cX12_kinds 6 = .ok (.ifCond .eq 7, 3) := by decide +kernel
theorem dX12_kinds_9 : decode cX12_kinds 9 = .ok (.iconst 0, 1) := by decide +kernel
theorem dX12_kinds_10 : decode cX12_kinds 10 = .ok (.goto 4, 3) := by decide +kernel
theorem dX12_kinds_13 : decode cX12_kinds 13 = .ok (.iconst (-1), 1) := by decide +kernel
theorem dX12_kinds_14 : decode cX12_kinds 14 = .ok (.iload_n 2, 1) := by decide +kernel
theorem dX12_kinds_15 : decode cX12_kinds 15 = .ok (.iload_n 3, 1) := by decide +kernel
theorem dX12_kinds_16 : decode cX12_kinds 16 = .ok (.iload 4, 2) := by decide +kernel
theorem dX12_kinds_18 : decode cX12_kinds 18 = .ok (.iload 5, 2) := by decide +kernel
theorem dX12_kinds_20 : decode cX12_kinds 20 = .ok (.invokevirtual 215, 3) := by decide +kernel
theorem dX12_kinds_23 : decode cX12_kinds 23 = .ok (.istore 6, 2) := by decide +kernel
theorem dX12_kinds_25 : decode cX12_kinds 25 = .ok (.iload 6, 2) := by decide +kernel
theorem dX12_kinds_27 : decode cX12_kinds 27 = .ok (.ifCond .eq 6, 3) := by decide +kernel
theorem dX12_kinds_30 : decode cX12_kinds 30 = .ok (.iload 6, 2) := by decide +kernel
theorem dX12_kinds_32 : decode cX12_kinds 32 = .ok (.ireturn, 1) := by decide +kernel
theorem dX12_kinds_33 : decode cX12_kinds 33 = .ok (.aload_n 0, 1) := by decide +kernel
theorem dX12_kinds_34 : decode cX12_kinds 34 = .ok (.getfield 26, 3) := by decide +kernel
theorem dX12_kinds_37 : decode cX12_kinds 37 = .ok (.iload_n 1, 1) := by decide +kernel
theorem dX12_kinds_38 : decode cX12_kinds 38 = .ok (.iaload, 1) := by decide +kernel
theorem dX12_kinds_39 : decode cX12_kinds 39 = .ok (.istore 7, 2) := by decide +kernel
theorem dX12_kinds_41 : decode cX12_kinds 41 = .ok (.iconst 0, 1) := by decide +kernel
theorem dX12_kinds_42 : decode cX12_kinds 42 = .ok (.istore 8, 2) := by decide +kernel
theorem dX12_kinds_44 : decode cX12_kinds 44 = .ok (.iconst 0, 1) := by decide +kernel
theorem dX12_kinds_45 : decode cX12_kinds 45 = .ok (.istore 9, 2) := by decide +kernel
theorem dX12_kinds_47 : decode cX12_kinds 47 = .ok (.iload 9, 2) := by decide +kernel
theorem dX12_kinds_49 : decode cX12_kinds 49 = .ok (.iconst 3, 1) := by decide +kernel
theorem dX12_kinds_50 : decode cX12_kinds 50 = .ok (.if_icmp .ge 37, 3) := by decide +kernel
theorem dX12_kinds_53 : decode cX12_kinds 53 = .ok (.aload_n 0, 1) := by decide +kernel
theorem dX12_kinds_54 : decode cX12_kinds 54 = .ok (.getfield 26, 3) := by decide +kernel
theorem dX12_kinds_57 : decode cX12_kinds 57 = .ok (.iload_n 1, 1) := by decide +kernel
theorem dX12_kinds_58 : decode cX12_kinds 58 = .ok (.iload 9, 2) := by decide +kernel
theorem dX12_kinds_60 : decode cX12_kinds 60 = .ok (.iastore, 1) := by decide +kernel
theorem dX12_kinds_61 : decode cX12_kinds 61 = .ok (.iload 8, 2) := by decide +kernel
theorem dX12_kinds_63 : decode cX12_kinds 63 = .ok (.aload_n 0, 1) := by decide +kernel
theorem dX12_kinds_64 : decode cX12_kinds 64 = .ok (.invokevirtual 219, 3) := by decide +kernel
theorem dX12_kinds_67 : decode cX12_kinds 67 = .ok (.ifCond .eq 10, 3) := by decide +kernel
theorem dX12_kinds_70 : decode cX12_kinds 70 = .ok (.iconst 1, 1) := by decide +kernel
theorem dX12_kinds_71 : decode cX12_kinds 71 = .ok (.iload 9, 2) := by decide +kernel
theorem dX12_kinds_73 : decode cX12_kinds 73 = .ok (.ishl, 1) := by decide +kernel
theorem dX12_kinds_74 : decode cX12_kinds 74 = .ok (.goto 4, 3) := by decide +kernel
theorem dX12_kinds_77 : decode cX12_kinds 77 = .ok (.iconst 0, 1) := by decide +kernel
theorem dX12_kinds_78 : decode cX12_kinds 78 = .ok (.ior, 1) := by decide +kernel
theorem dX12_kinds_79 : decode cX12_kinds 79 = .ok (.istore 8, 2) := by decide +kernel
theorem dX12_kinds_81 : decode cX12_kinds 81 = .ok (.iinc 9 1, 3) := by decide +kernel
theorem dX12_kinds_84 : decode cX12_kinds 84 = .ok (.goto (-37), 3) := by decide +kernel
theorem dX12_kinds_87 : decode cX12_kinds 87 = .ok (.aload_n 0, 1) := by decide +kernel
theorem dX12_kinds_88 : decode cX12_kinds 88 = .ok (.getfield 26, 3) := by decide +kernel
theorem dX12_kinds_91 : decode cX12_kinds 91 = .ok (.iload_n 1, 1) := by decide +kernel
theorem dX12_kinds_92 : decode cX12_kinds 92 = .ok (.iload 7, 2) := by decide +kernel
theorem dX12_kinds_94 : decode cX12_kinds 94 = .ok (.iastore, 1) := by decide +kernel
theorem dX12_kinds_95 : decode cX12_kinds 95 = .ok (.iload 8, 2) := by decide +kernel
theorem dX12_kinds_97 : decode cX12_kinds 97 = .ok (.ireturn, 1) := by decide +kernel
theorem dX12_speeds_0 : decode cX12_speeds 0 = .ok (.aload_n 0, 1) := by decide +kernel
theorem dX12_speeds_1 : decode cX12_speeds 1 = .ok (.aload_n 0, 1) := by decide +kernel
theorem dX12_speeds_2 : decode cX12_speeds 2 = .ok (.iload_n 1, 1) := by decide +kernel
theorem dX12_speeds_3 : decode cX12_speeds 3 = .ok (.invokevirtual 134, 3) := by decide +kernel
theorem dX12_speeds_6 : decode cX12_speeds 6 = .ok (.ifCond .eq 7, 3) := by decide +kernel
theorem dX12_speeds_9 : decode cX12_speeds 9 = .ok (.iconst 0, 1) := by decide +kernel
theorem dX12_speeds_10 : decode cX12_speeds 10 = .ok (.goto 4, 3) := by decide +kernel
theorem dX12_speeds_13 : decode cX12_speeds 13 = .ok (.iconst (-1), 1) := by decide +kernel
theorem dX12_speeds_14 : decode cX12_speeds 14 = .ok (.iload_n 2, 1) := by decide +kernel
theorem dX12_speeds_15 : decode cX12_speeds 15 = .ok (.iload_n 3, 1) := by decide +kernel
theorem dX12_speeds_16 : decode cX12_speeds 16 = .ok (.iload 4, 2) := by decide +kernel
theorem dX12_speeds_18 : decode cX12_speeds 18 = .ok (.iload 5, 2) := by decide +kernel
theorem dX12_speeds_20 : decode cX12_speeds 20 = .ok (.invokevirtual 215, 3) := by decide +kernel
theorem dX12_speeds_23 : decode cX12_speeds 23 = .ok (.istore 6, 2) := by decide +kernel
theorem dX12_speeds_25 : decode cX12_speeds 25 = .ok (.iload 6, 2) := by decide +kernel
theorem dX12_speeds_27 : decode cX12_speeds 27 = .ok (.ifCond .eq 6, 3) := by decide +kernel
theorem dX12_speeds_30 : decode cX12_speeds 30 = .ok (.iload 6, 2) := by decide +kernel
theorem dX12_speeds_32 : decode cX12_speeds 32 = .ok (.ireturn, 1) := by decide +kernel
theorem dX12_speeds_33 : decode cX12_speeds 33 = .ok (.aload_n 0, 1) := by decide +kernel
theorem dX12_speeds_34 : decode cX12_speeds 34 = .ok (.getfield 32, 3) := by decide +kernel
theorem dX12_speeds_37 : decode cX12_speeds 37 = .ok (.iload_n 1, 1) := by decide +kernel
theorem dX12_speeds_38 : decode cX12_speeds 38 = .ok (.iaload, 1) := by decide +kernel
theorem dX12_speeds_39 : decode cX12_speeds 39 = .ok (.istore 7, 2) := by decide +kernel
theorem dX12_speeds_41 : decode cX12_speeds 41 = .ok (.iconst 0, 1) := by decide +kernel
theorem dX12_speeds_42 : decode cX12_speeds 42 = .ok (.istore 8, 2) := by decide +kernel
theorem dX12_speeds_44 : decode cX12_speeds 44 = .ok (.iconst 1, 1) := by decide +kernel
theorem dX12_speeds_45 : decode cX12_speeds 45 = .ok (.istore 9, 2) := by decide +kernel
theorem dX12_speeds_47 : decode cX12_speeds 47 = .ok (.iload 9, 2) := by decide +kernel
theorem dX12_speeds_49 : decode cX12_speeds 49 = .ok (.iconst 3, 1) := by decide +kernel
theorem dX12_speeds_50 : decode cX12_speeds 50 = .ok (.if_icmp .gt 37, 3) := by decide +kernel
theorem dX12_speeds_53 : decode cX12_speeds 53 = .ok (.aload_n 0, 1) := by decide +kernel
theorem dX12_speeds_54 : decode cX12_speeds 54 = .ok (.getfield 32, 3) := by decide +kernel
theorem dX12_speeds_57 : decode cX12_speeds 57 = .ok (.iload_n 1, 1) := by decide +kernel
theorem dX12_speeds_58 : decode cX12_speeds 58 = .ok (.iload 9, 2) := by decide +kernel
theorem dX12_speeds_60 : decode cX12_speeds 60 = .ok (.iastore, 1) := by decide +kernel
theorem dX12_speeds_61 : decode cX12_speeds 61 = .ok (.iload 8, 2) := by decide +kernel
theorem dX12_speeds_63 : decode cX12_speeds 63 = .ok (.aload_n 0, 1) := by decide +kernel
theorem dX12_speeds_64 : decode cX12_speeds 64 = .ok (.invokevirtual 219, 3) := by decide +kernel
theorem dX12_speeds_67 : decode cX12_speeds 67 = .ok (.ifCond .eq 10, 3) := by decide +kernel
theorem dX12_speeds_70 : decode cX12_speeds 70 = .ok (.iconst 1, 1) := by decide +kernel
theorem dX12_speeds_71 : decode cX12_speeds 71 = .ok (.iload 9, 2) := by decide +kernel
theorem dX12_speeds_73 : decode cX12_speeds 73 = .ok (.ishl, 1) := by decide +kernel
theorem dX12_speeds_74 : decode cX12_speeds 74 = .ok (.goto 4, 3) := by decide +kernel
theorem dX12_speeds_77 : decode cX12_speeds 77 = .ok (.iconst 0, 1) := by decide +kernel
theorem dX12_speeds_78 : decode cX12_speeds 78 = .ok (.ior, 1) := by decide +kernel
theorem dX12_speeds_79 : decode cX12_speeds 79 = .ok (.istore 8, 2) := by decide +kernel
theorem dX12_speeds_81 : decode cX12_speeds 81 = .ok (.iinc 9 1, 3) := by decide +kernel
theorem dX12_speeds_84 : decode cX12_speeds 84 = .ok (.goto (-37), 3) := by decide +kernel
theorem dX12_speeds_87 : decode cX12_speeds 87 = .ok (.aload_n 0, 1) := by decide +kernel
theorem dX12_speeds_88 : decode cX12_speeds 88 = .ok (.getfield 32, 3) := by decide +kernel
theorem dX12_speeds_91 : decode cX12_speeds 91 = .ok (.iload_n 1, 1) := by decide +kernel
theorem dX12_speeds_92 : decode cX12_speeds 92 = .ok (.iload 7, 2) := by decide +kernel
theorem dX12_speeds_94 : decode cX12_speeds 94 = .ok (.iastore, 1) := by decide +kernel
theorem dX12_speeds_95 : decode cX12_speeds 95 = .ok (.iload 8, 2) := by decide +kernel
theorem dX12_speeds_97 : decode cX12_speeds 97 = .ok (.ireturn, 1) := by decide +kernel
theorem dX12_inLeastTerms_0 : decode cX12_inLeastTerms 0 = .ok (.lload_n 0, 1) := by decide +kernel
theorem dX12_inLeastTerms_1 : decode cX12_inLeastTerms 1 = .ok (.lstore 5, 2) := by decide +kernel
theorem dX12_inLeastTerms_3 : decode cX12_inLeastTerms 3 = .ok (.lload_n 2, 1) := by decide +kernel
theorem dX12_inLeastTerms_4 : decode cX12_inLeastTerms 4 = .ok (.lstore 7, 2) := by decide +kernel
theorem dX12_inLeastTerms_6 : decode cX12_inLeastTerms 6 = .ok (.lload 7, 2) := by decide +kernel
theorem dX12_inLeastTerms_8 : decode cX12_inLeastTerms 8 = .ok (.lconst 0, 1) := by decide +kernel
theorem dX12_inLeastTerms_9 : decode cX12_inLeastTerms 9 = .ok (.lcmp, 1) := by decide +kernel
theorem dX12_inLeastTerms_10 : decode cX12_inLeastTerms 10 = .ok (.ifCond .eq 21, 3) := by decide +kernel
theorem dX12_inLeastTerms_13 : decode cX12_inLeastTerms 13 = .ok (.lload 5, 2) := by decide +kernel
theorem dX12_inLeastTerms_15 : decode cX12_inLeastTerms 15 = .ok (.lload 7, 2) := by decide +kernel
theorem dX12_inLeastTerms_17 : decode cX12_inLeastTerms 17 = .ok (.lrem, 1) := by decide +kernel
theorem dX12_inLeastTerms_18 : decode cX12_inLeastTerms 18 = .ok (.lstore 9, 2) := by decide +kernel
theorem dX12_inLeastTerms_20 : decode cX12_inLeastTerms 20 = .ok (.lload 7, 2) := by decide +kernel
theorem dX12_inLeastTerms_22 : decode cX12_inLeastTerms 22 = .ok (.lstore 5, 2) := by decide +kernel
theorem dX12_inLeastTerms_24 : decode cX12_inLeastTerms 24 = .ok (.lload 9, 2) := by decide +kernel
theorem dX12_inLeastTerms_26 : decode cX12_inLeastTerms 26 = .ok (.lstore 7, 2) := by decide +kernel
theorem dX12_inLeastTerms_28 : decode cX12_inLeastTerms 28 = .ok (.goto (-22), 3) := by decide +kernel
theorem dX12_inLeastTerms_31 : decode cX12_inLeastTerms 31 = .ok (.iload 4, 2) := by decide +kernel
theorem dX12_inLeastTerms_33 : decode cX12_inLeastTerms 33 = .ok (.ifCond .ne 10, 3) := by decide +kernel
theorem dX12_inLeastTerms_36 : decode cX12_inLeastTerms 36 = .ok (.lload_n 0, 1) := by decide +kernel
theorem dX12_inLeastTerms_37 : decode cX12_inLeastTerms 37 = .ok (.lload 5, 2) := by decide +kernel
theorem dX12_inLeastTerms_39 : decode cX12_inLeastTerms 39 = .ok (.ldiv, 1) := by decide +kernel
theorem dX12_inLeastTerms_40 : decode cX12_inLeastTerms 40 = .ok (.goto 7, 3) := by decide +kernel
theorem dX12_inLeastTerms_43 : decode cX12_inLeastTerms 43 = .ok (.lload_n 2, 1) := by decide +kernel
theorem dX12_inLeastTerms_44 : decode cX12_inLeastTerms 44 = .ok (.lload 5, 2) := by decide +kernel
theorem dX12_inLeastTerms_46 : decode cX12_inLeastTerms 46 = .ok (.ldiv, 1) := by decide +kernel
theorem dX12_inLeastTerms_47 : decode cX12_inLeastTerms 47 = .ok (.lreturn, 1) := by decide +kernel
theorem dX12_isFree_0 : decode cX12_isFree 0 = .ok (.aload_n 0, 1) := by decide +kernel
theorem dX12_isFree_1 : decode cX12_isFree 1 = .ok (.iconst 0, 1) := by decide +kernel
theorem dX12_isFree_2 : decode cX12_isFree 2 = .ok (.invokevirtual 159, 3) := by decide +kernel
theorem dX12_isFree_5 : decode cX12_isFree 5 = .ok (.pop, 1) := by decide +kernel
theorem dX12_isFree_6 : decode cX12_isFree 6 = .ok (.iconst 0, 1) := by decide +kernel
theorem dX12_isFree_7 : decode cX12_isFree 7 = .ok (.istore_n 2, 1) := by decide +kernel
theorem dX12_isFree_8 : decode cX12_isFree 8 = .ok (.iload_n 2, 1) := by decide +kernel
theorem dX12_isFree_9 : decode cX12_isFree 9 = .ok (.aload_n 0, 1) := by decide +kernel
theorem dX12_isFree_10 : decode cX12_isFree 10 = .ok (.getfield 156, 3) := by decide +kernel
theorem dX12_isFree_13 : decode cX12_isFree 13 = .ok (.if_icmp .ge 44, 3) := by decide +kernel
theorem dX12_isFree_16 : decode cX12_isFree 16 = .ok (.iconst 1, 1) := by decide +kernel
theorem dX12_isFree_17 : decode cX12_isFree 17 = .ok (.iload_n 1, 1) := by decide +kernel
theorem dX12_isFree_18 : decode cX12_isFree 18 = .ok (.iload_n 2, 1) := by decide +kernel
theorem dX12_isFree_19 : decode cX12_isFree 19 = .ok (.ishr, 1) := by decide +kernel
theorem dX12_isFree_20 : decode cX12_isFree 20 = .ok (.iconst 1, 1) := by decide +kernel
theorem dX12_isFree_21 : decode cX12_isFree 21 = .ok (.iand, 1) := by decide +kernel
theorem dX12_isFree_22 : decode cX12_isFree 22 = .ok (.iadd, 1) := by decide +kernel
theorem dX12_isFree_23 : decode cX12_isFree 23 = .ok (.istore_n 3, 1) := by decide +kernel
theorem dX12_isFree_24 : decode cX12_isFree 24 = .ok (.aload_n 0, 1) := by decide +kernel
theorem dX12_isFree_25 : decode cX12_isFree 25 = .ok (.aload_n 0, 1) := by decide +kernel
theorem dX12_isFree_26 : decode cX12_isFree 26 = .ok (.getfield 47, 3) := by decide +kernel
theorem dX12_isFree_29 : decode cX12_isFree 29 = .ok (.iload_n 2, 1) := by decide +kernel
theorem dX12_isFree_30 : decode cX12_isFree 30 = .ok (.iaload, 1) := by decide +kernel
theorem dX12_isFree_31 : decode cX12_isFree 31 = .ok (.iload_n 3, 1) := by decide +kernel
theorem dX12_isFree_32 : decode cX12_isFree 32 = .ok (.invokevirtual 172, 3) := by decide +kernel
theorem dX12_isFree_35 : decode cX12_isFree 35 = .ok (.ifCond .le 5, 3) := by decide +kernel
theorem dX12_isFree_38 : decode cX12_isFree 38 = .ok (.iconst 0, 1) := by decide +kernel
theorem dX12_isFree_39 : decode cX12_isFree 39 = .ok (.ireturn, 1) := by decide +kernel
theorem dX12_isFree_40 : decode cX12_isFree 40 = .ok (.aload_n 0, 1) := by decide +kernel
theorem dX12_isFree_41 : decode cX12_isFree 41 = .ok (.aload_n 0, 1) := by decide +kernel
theorem dX12_isFree_42 : decode cX12_isFree 42 = .ok (.getfield 47, 3) := by decide +kernel
theorem dX12_isFree_45 : decode cX12_isFree 45 = .ok (.iload_n 2, 1) := by decide +kernel
theorem dX12_isFree_46 : decode cX12_isFree 46 = .ok (.iaload, 1) := by decide +kernel
theorem dX12_isFree_47 : decode cX12_isFree 47 = .ok (.iload_n 3, 1) := by decide +kernel
theorem dX12_isFree_48 : decode cX12_isFree 48 = .ok (.invokevirtual 176, 3) := by decide +kernel
theorem dX12_isFree_51 : decode cX12_isFree 51 = .ok (.iinc 2 1, 3) := by decide +kernel
theorem dX12_isFree_54 : decode cX12_isFree 54 = .ok (.goto (-46), 3) := by decide +kernel
theorem dX12_isFree_57 : decode cX12_isFree 57 = .ok (.iconst 1, 1) := by decide +kernel
theorem dX12_isFree_58 : decode cX12_isFree 58 = .ok (.ireturn, 1) := by decide +kernel
theorem dX12_odds_0 : decode cX12_odds 0 = .ok (.aload_n 0, 1) := by decide +kernel
theorem dX12_odds_1 : decode cX12_odds 1 = .ok (.iconst 0, 1) := by decide +kernel
theorem dX12_odds_2 : decode cX12_odds 2 = .ok (.putfield 65, 3) := by decide +kernel
theorem dX12_odds_5 : decode cX12_odds 5 = .ok (.iload_n 1, 1) := by decide +kernel
theorem dX12_odds_6 : decode cX12_odds 6 = .ok (.invokestatic 84, 3) := by decide +kernel
theorem dX12_odds_9 : decode cX12_odds 9 = .ok (.ifCond .eq 22, 3) := by decide +kernel
theorem dX12_odds_12 : decode cX12_odds 12 = .ok (.iload_n 2, 1) := by decide +kernel
theorem dX12_odds_13 : decode cX12_odds 13 = .ok (.iload 4, 2) := by decide +kernel
theorem dX12_odds_15 : decode cX12_odds 15 = .ok (.invokestatic 183, 3) := by decide +kernel
theorem dX12_odds_18 : decode cX12_odds 18 = .ok (.ifCond .eq 13, 3) := by decide +kernel
theorem dX12_odds_21 : decode cX12_odds 21 = .ok (.iload 5, 2) := by decide +kernel
theorem dX12_odds_23 : decode cX12_odds 23 = .ok (.iconst 0, 1) := by decide +kernel
theorem dX12_odds_24 : decode cX12_odds 24 = .ok (.iconst 1, 1) := by decide +kernel
theorem dX12_odds_25 : decode cX12_odds 25 = .ok (.invokestatic 71, 3) := by decide +kernel
theorem dX12_odds_28 : decode cX12_odds 28 = .ok (.ifCond .ne 7, 3) := by decide +kernel
theorem dX12_odds_31 : decode cX12_odds 31 = .ok (.ldc2_w 69, 3) := by decide +kernel
theorem dX12_odds_34 : decode cX12_odds 34 = .ok (.lreturn, 1) := by decide +kernel
theorem dX12_odds_35 : decode cX12_odds 35 = .ok (.aload_n 0, 1) := by decide +kernel
theorem dX12_odds_36 : decode cX12_odds 36 = .ok (.iload_n 1, 1) := by decide +kernel
theorem dX12_odds_37 : decode cX12_odds 37 = .ok (.iload_n 2, 1) := by decide +kernel
theorem dX12_odds_38 : decode cX12_odds 38 = .ok (.iload_n 3, 1) := by decide +kernel
theorem dX12_odds_39 : decode cX12_odds 39 = .ok (.iload 4, 2) := by decide +kernel
theorem dX12_odds_41 : decode cX12_odds 41 = .ok (.invokevirtual 186, 3) := by decide +kernel
theorem dX12_odds_44 : decode cX12_odds 44 = .ok (.ifCond .eq 7, 3) := by decide +kernel
theorem dX12_odds_47 : decode cX12_odds 47 = .ok (.ldc2_w 69, 3) := by decide +kernel
theorem dX12_odds_50 : decode cX12_odds 50 = .ok (.lreturn, 1) := by decide +kernel
theorem dX12_odds_51 : decode cX12_odds 51 = .ok (.iconst 0, 1) := by decide +kernel
theorem dX12_odds_52 : decode cX12_odds 52 = .ok (.istore 6, 2) := by decide +kernel
theorem dX12_odds_54 : decode cX12_odds 54 = .ok (.iconst 0, 1) := by decide +kernel
theorem dX12_odds_55 : decode cX12_odds 55 = .ok (.istore 7, 2) := by decide +kernel
theorem dX12_odds_57 : decode cX12_odds 57 = .ok (.iload 7, 2) := by decide +kernel
theorem dX12_odds_59 : decode cX12_odds 59 = .ok (.iconst 1, 1) := by decide +kernel
theorem dX12_odds_60 : decode cX12_odds 60 = .ok (.iload 4, 2) := by decide +kernel
theorem dX12_odds_62 : decode cX12_odds 62 = .ok (.ishl, 1) := by decide +kernel
theorem dX12_odds_63 : decode cX12_odds 63 = .ok (.if_icmp .ge 28, 3) := by decide +kernel
theorem dX12_odds_66 : decode cX12_odds 66 = .ok (.iload 6, 2) := by decide +kernel
theorem dX12_odds_68 : decode cX12_odds 68 = .ok (.aload_n 0, 1) := by decide +kernel
theorem dX12_odds_69 : decode cX12_odds 69 = .ok (.iload 7, 2) := by decide +kernel
theorem dX12_odds_71 : decode cX12_odds 71 = .ok (.invokevirtual 223, 3) := by decide +kernel
theorem dX12_odds_74 : decode cX12_odds 74 = .ok (.ifCond .eq 7, 3) := by decide +kernel
theorem dX12_odds_77 : decode cX12_odds 77 = .ok (.iconst 1, 1) := by decide +kernel
theorem dX12_odds_78 : decode cX12_odds 78 = .ok (.goto 4, 3) := by decide +kernel
theorem dX12_odds_81 : decode cX12_odds 81 = .ok (.iconst 0, 1) := by decide +kernel
theorem dX12_odds_82 : decode cX12_odds 82 = .ok (.iadd, 1) := by decide +kernel
theorem dX12_odds_83 : decode cX12_odds 83 = .ok (.istore 6, 2) := by decide +kernel
theorem dX12_odds_85 : decode cX12_odds 85 = .ok (.iinc 7 1, 3) := by decide +kernel
theorem dX12_odds_88 : decode cX12_odds 88 = .ok (.goto (-31), 3) := by decide +kernel
theorem dX12_odds_91 : decode cX12_odds 91 = .ok (.iload 6, 2) := by decide +kernel
theorem dX12_odds_93 : decode cX12_odds 93 = .ok (.i2l, 1) := by decide +kernel
theorem dX12_odds_94 : decode cX12_odds 94 = .ok (.lconst 1, 1) := by decide +kernel
theorem dX12_odds_95 : decode cX12_odds 95 = .ok (.iload 4, 2) := by decide +kernel
theorem dX12_odds_97 : decode cX12_odds 97 = .ok (.lshl, 1) := by decide +kernel
theorem dX12_odds_98 : decode cX12_odds 98 = .ok (.iload 5, 2) := by decide +kernel
theorem dX12_odds_100 : decode cX12_odds 100 = .ok (.invokestatic 226, 3) := by decide +kernel
theorem dX12_odds_103 : decode cX12_odds 103 = .ok (.lreturn, 1) := by decide +kernel
theorem dX12_sheet_0 : decode cX12_sheet 0 = .ok (.aload_n 0, 1) := by decide +kernel
theorem dX12_sheet_1 : decode cX12_sheet 1 = .ok (.iconst 0, 1) := by decide +kernel
theorem dX12_sheet_2 : decode cX12_sheet 2 = .ok (.putfield 65, 3) := by decide +kernel
theorem dX12_sheet_5 : decode cX12_sheet 5 = .ok (.iload_n 1, 1) := by decide +kernel
theorem dX12_sheet_6 : decode cX12_sheet 6 = .ok (.invokestatic 84, 3) := by decide +kernel
theorem dX12_sheet_9 : decode cX12_sheet 9 = .ok (.ifCond .ne 5, 3) := by decide +kernel
theorem dX12_sheet_12 : decode cX12_sheet 12 = .ok (.iconst (-1), 1) := by decide +kernel
theorem dX12_sheet_13 : decode cX12_sheet 13 = .ok (.ireturn, 1) := by decide +kernel
theorem dX12_sheet_14 : decode cX12_sheet 14 = .ok (.iload_n 2, 1) := by decide +kernel
theorem dX12_sheet_15 : decode cX12_sheet 15 = .ok (.invokestatic 88, 3) := by decide +kernel
theorem dX12_sheet_18 : decode cX12_sheet 18 = .ok (.ifCond .eq 9, 3) := by decide +kernel
theorem dX12_sheet_21 : decode cX12_sheet 21 = .ok (.iload_n 3, 1) := by decide +kernel
theorem dX12_sheet_22 : decode cX12_sheet 22 = .ok (.bipush 60, 2) := by decide +kernel
theorem dX12_sheet_24 : decode cX12_sheet 24 = .ok (.if_icmp .le 6, 3) := by decide +kernel
theorem dX12_sheet_27 : decode cX12_sheet 27 = .ok (.bipush (-2), 2) := by decide +kernel
theorem dX12_sheet_29 : decode cX12_sheet 29 = .ok (.ireturn, 1) := by decide +kernel
theorem dX12_sheet_30 : decode cX12_sheet 30 = .ok (.iload_n 3, 1) := by decide +kernel
theorem dX12_sheet_31 : decode cX12_sheet 31 = .ok (.ifCond .ge 9, 3) := by decide +kernel
theorem dX12_sheet_34 : decode cX12_sheet 34 = .ok (.aload_n 0, 1) := by decide +kernel
theorem dX12_sheet_35 : decode cX12_sheet 35 = .ok (.iconst 4, 1) := by decide +kernel
theorem dX12_sheet_36 : decode cX12_sheet 36 = .ok (.invokevirtual 95, 3) := by decide +kernel
theorem dX12_sheet_39 : decode cX12_sheet 39 = .ok (.ireturn, 1) := by decide +kernel
theorem dX12_sheet_40 : decode cX12_sheet 40 = .ok (.aload_n 0, 1) := by decide +kernel
theorem dX12_sheet_41 : decode cX12_sheet 41 = .ok (.getfield 9, 3) := by decide +kernel
theorem dX12_sheet_44 : decode cX12_sheet 44 = .ok (.iload_n 1, 1) := by decide +kernel
theorem dX12_sheet_45 : decode cX12_sheet 45 = .ok (.iload_n 2, 1) := by decide +kernel
theorem dX12_sheet_46 : decode cX12_sheet 46 = .ok (.iastore, 1) := by decide +kernel
theorem dX12_sheet_47 : decode cX12_sheet 47 = .ok (.aload_n 0, 1) := by decide +kernel
theorem dX12_sheet_48 : decode cX12_sheet 48 = .ok (.getfield 13, 3) := by decide +kernel
theorem dX12_sheet_51 : decode cX12_sheet 51 = .ok (.iload_n 1, 1) := by decide +kernel
theorem dX12_sheet_52 : decode cX12_sheet 52 = .ok (.iload_n 3, 1) := by decide +kernel
theorem dX12_sheet_53 : decode cX12_sheet 53 = .ok (.iastore, 1) := by decide +kernel
theorem dX12_sheet_54 : decode cX12_sheet 54 = .ok (.iconst 0, 1) := by decide +kernel
theorem dX12_sheet_55 : decode cX12_sheet 55 = .ok (.istore 4, 2) := by decide +kernel
theorem dX12_sheet_57 : decode cX12_sheet 57 = .ok (.iload 4, 2) := by decide +kernel
theorem dX12_sheet_59 : decode cX12_sheet 59 = .ok (.bipush 60, 2) := by decide +kernel
theorem dX12_sheet_61 : decode cX12_sheet 61 = .ok (.if_icmp .ge 22, 3) := by decide +kernel
theorem dX12_sheet_64 : decode cX12_sheet 64 = .ok (.aload_n 0, 1) := by decide +kernel
theorem dX12_sheet_65 : decode cX12_sheet 65 = .ok (.getfield 16, 3) := by decide +kernel
theorem dX12_sheet_68 : decode cX12_sheet 68 = .ok (.bipush 60, 2) := by decide +kernel
theorem dX12_sheet_70 : decode cX12_sheet 70 = .ok (.iload_n 1, 1) := by decide +kernel
theorem dX12_sheet_71 : decode cX12_sheet 71 = .ok (.imul, 1) := by decide +kernel
theorem dX12_sheet_72 : decode cX12_sheet 72 = .ok (.iload 4, 2) := by decide +kernel
theorem dX12_sheet_74 : decode cX12_sheet 74 = .ok (.iadd, 1) := by decide +kernel
theorem dX12_sheet_75 : decode cX12_sheet 75 = .ok (.iconst 0, 1) := by decide +kernel
theorem dX12_sheet_76 : decode cX12_sheet 76 = .ok (.iastore, 1) := by decide +kernel
theorem dX12_sheet_77 : decode cX12_sheet 77 = .ok (.iinc 4 1, 3) := by decide +kernel
theorem dX12_sheet_80 : decode cX12_sheet 80 = .ok (.goto (-23), 3) := by decide +kernel
theorem dX12_sheet_83 : decode cX12_sheet 83 = .ok (.iconst 1, 1) := by decide +kernel
theorem dX12_sheet_84 : decode cX12_sheet 84 = .ok (.ireturn, 1) := by decide +kernel
theorem dX12_lose_0 : decode cX12_lose 0 = .ok (.iload_n 1, 1) := by decide +kernel
theorem dX12_lose_1 : decode cX12_lose 1 = .ok (.invokestatic 84, 3) := by decide +kernel
theorem dX12_lose_4 : decode cX12_lose 4 = .ok (.ifCond .ne 5, 3) := by decide +kernel
theorem dX12_lose_7 : decode cX12_lose 7 = .ok (.iconst (-1), 1) := by decide +kernel
theorem dX12_lose_8 : decode cX12_lose 8 = .ok (.ireturn, 1) := by decide +kernel
theorem dX12_lose_9 : decode cX12_lose 9 = .ok (.aload_n 0, 1) := by decide +kernel
theorem dX12_lose_10 : decode cX12_lose 10 = .ok (.getfield 9, 3) := by decide +kernel
theorem dX12_lose_13 : decode cX12_lose 13 = .ok (.iload_n 1, 1) := by decide +kernel
theorem dX12_lose_14 : decode cX12_lose 14 = .ok (.iaload, 1) := by decide +kernel
theorem dX12_lose_15 : decode cX12_lose 15 = .ok (.bipush (-9), 2) := by decide +kernel
theorem dX12_lose_17 : decode cX12_lose 17 = .ok (.if_icmp .ne 7, 3) := by decide +kernel
theorem dX12_lose_20 : decode cX12_lose 20 = .ok (.iconst 0, 1) := by decide +kernel
theorem dX12_lose_21 : decode cX12_lose 21 = .ok (.goto 4, 3) := by decide +kernel
theorem dX12_lose_24 : decode cX12_lose 24 = .ok (.iconst 1, 1) := by decide +kernel
theorem dX12_lose_25 : decode cX12_lose 25 = .ok (.istore_n 2, 1) := by decide +kernel
theorem dX12_lose_26 : decode cX12_lose 26 = .ok (.aload_n 0, 1) := by decide +kernel
theorem dX12_lose_27 : decode cX12_lose 27 = .ok (.getfield 9, 3) := by decide +kernel
theorem dX12_lose_30 : decode cX12_lose 30 = .ok (.iload_n 1, 1) := by decide +kernel
theorem dX12_lose_31 : decode cX12_lose 31 = .ok (.bipush (-9), 2) := by decide +kernel
theorem dX12_lose_33 : decode cX12_lose 33 = .ok (.iastore, 1) := by decide +kernel
theorem dX12_lose_34 : decode cX12_lose 34 = .ok (.iload_n 2, 1) := by decide +kernel
theorem dX12_lose_35 : decode cX12_lose 35 = .ok (.ireturn, 1) := by decide +kernel
theorem dX12_put_0 : decode cX12_put 0 = .ok (.aload_n 0, 1) := by decide +kernel
theorem dX12_put_1 : decode cX12_put 1 = .ok (.iconst 0, 1) := by decide +kernel
theorem dX12_put_2 : decode cX12_put 2 = .ok (.putfield 65, 3) := by decide +kernel
theorem dX12_put_5 : decode cX12_put 5 = .ok (.iload_n 1, 1) := by decide +kernel
theorem dX12_put_6 : decode cX12_put 6 = .ok (.invokestatic 84, 3) := by decide +kernel
theorem dX12_put_9 : decode cX12_put 9 = .ok (.ifCond .ne 5, 3) := by decide +kernel
theorem dX12_put_12 : decode cX12_put 12 = .ok (.iconst (-1), 1) := by decide +kernel
theorem dX12_put_13 : decode cX12_put 13 = .ok (.ireturn, 1) := by decide +kernel
theorem dX12_put_14 : decode cX12_put 14 = .ok (.aload_n 0, 1) := by decide +kernel
theorem dX12_put_15 : decode cX12_put 15 = .ok (.getfield 9, 3) := by decide +kernel
theorem dX12_put_18 : decode cX12_put 18 = .ok (.iload_n 1, 1) := by decide +kernel
theorem dX12_put_19 : decode cX12_put 19 = .ok (.iaload, 1) := by decide +kernel
theorem dX12_put_20 : decode cX12_put 20 = .ok (.bipush (-9), 2) := by decide +kernel
theorem dX12_put_22 : decode cX12_put 22 = .ok (.if_icmp .ne 9, 3) := by decide +kernel
theorem dX12_put_25 : decode cX12_put 25 = .ok (.aload_n 0, 1) := by decide +kernel
theorem dX12_put_26 : decode cX12_put 26 = .ok (.iconst 1, 1) := by decide +kernel
theorem dX12_put_27 : decode cX12_put 27 = .ok (.invokevirtual 95, 3) := by decide +kernel
theorem dX12_put_30 : decode cX12_put 30 = .ok (.ireturn, 1) := by decide +kernel
theorem dX12_put_31 : decode cX12_put 31 = .ok (.iload_n 2, 1) := by decide +kernel
theorem dX12_put_32 : decode cX12_put 32 = .ok (.iconst 0, 1) := by decide +kernel
theorem dX12_put_33 : decode cX12_put 33 = .ok (.aload_n 0, 1) := by decide +kernel
theorem dX12_put_34 : decode cX12_put 34 = .ok (.getfield 13, 3) := by decide +kernel
theorem dX12_put_37 : decode cX12_put 37 = .ok (.iload_n 1, 1) := by decide +kernel
theorem dX12_put_38 : decode cX12_put 38 = .ok (.iaload, 1) := by decide +kernel
theorem dX12_put_39 : decode cX12_put 39 = .ok (.iconst 1, 1) := by decide +kernel
theorem dX12_put_40 : decode cX12_put 40 = .ok (.isub, 1) := by decide +kernel
theorem dX12_put_41 : decode cX12_put 41 = .ok (.invokestatic 71, 3) := by decide +kernel
theorem dX12_put_44 : decode cX12_put 44 = .ok (.ifCond .ne 9, 3) := by decide +kernel
theorem dX12_put_47 : decode cX12_put 47 = .ok (.aload_n 0, 1) := by decide +kernel
theorem dX12_put_48 : decode cX12_put 48 = .ok (.iconst 3, 1) := by decide +kernel
theorem dX12_put_49 : decode cX12_put 49 = .ok (.invokevirtual 95, 3) := by decide +kernel
theorem dX12_put_52 : decode cX12_put 52 = .ok (.ireturn, 1) := by decide +kernel
theorem dX12_put_53 : decode cX12_put 53 = .ok (.aload_n 0, 1) := by decide +kernel
theorem dX12_put_54 : decode cX12_put 54 = .ok (.getfield 16, 3) := by decide +kernel
theorem dX12_put_57 : decode cX12_put 57 = .ok (.bipush 60, 2) := by decide +kernel
theorem dX12_put_59 : decode cX12_put 59 = .ok (.iload_n 1, 1) := by decide +kernel
theorem dX12_put_60 : decode cX12_put 60 = .ok (.imul, 1) := by decide +kernel
theorem dX12_put_61 : decode cX12_put 61 = .ok (.iload_n 2, 1) := by decide +kernel
theorem dX12_put_62 : decode cX12_put 62 = .ok (.iadd, 1) := by decide +kernel
theorem dX12_put_63 : decode cX12_put 63 = .ok (.aload_n 0, 1) := by decide +kernel
theorem dX12_put_64 : decode cX12_put 64 = .ok (.getfield 9, 3) := by decide +kernel
theorem dX12_put_67 : decode cX12_put 67 = .ok (.iload_n 1, 1) := by decide +kernel
theorem dX12_put_68 : decode cX12_put 68 = .ok (.iaload, 1) := by decide +kernel
theorem dX12_put_69 : decode cX12_put 69 = .ok (.ifCond .ne 8, 3) := by decide +kernel
theorem dX12_put_72 : decode cX12_put 72 = .ok (.iload_n 3, 1) := by decide +kernel
theorem dX12_put_73 : decode cX12_put 73 = .ok (.i2b, 1) := by decide +kernel
theorem dX12_put_74 : decode cX12_put 74 = .ok (.goto 19, 3) := by decide +kernel
theorem dX12_put_77 : decode cX12_put 77 = .ok (.aload_n 0, 1) := by decide +kernel
theorem dX12_put_78 : decode cX12_put 78 = .ok (.getfield 9, 3) := by decide +kernel
theorem dX12_put_81 : decode cX12_put 81 = .ok (.iload_n 1, 1) := by decide +kernel
theorem dX12_put_82 : decode cX12_put 82 = .ok (.iaload, 1) := by decide +kernel
theorem dX12_put_83 : decode cX12_put 83 = .ok (.iconst 1, 1) := by decide +kernel
theorem dX12_put_84 : decode cX12_put 84 = .ok (.if_icmp .ne 8, 3) := by decide +kernel
theorem dX12_put_87 : decode cX12_put 87 = .ok (.iload_n 3, 1) := by decide +kernel
theorem dX12_put_88 : decode cX12_put 88 = .ok (.i2s, 1) := by decide +kernel
theorem dX12_put_89 : decode cX12_put 89 = .ok (.goto 4, 3) := by decide +kernel
theorem dX12_put_92 : decode cX12_put 92 = .ok (.iload_n 3, 1) := by decide +kernel
theorem dX12_put_93 : decode cX12_put 93 = .ok (.iastore, 1) := by decide +kernel
theorem dX12_put_94 : decode cX12_put 94 = .ok (.iconst 1, 1) := by decide +kernel
theorem dX12_put_95 : decode cX12_put 95 = .ok (.ireturn, 1) := by decide +kernel
theorem dX12_cell_0 : decode cX12_cell 0 = .ok (.aload_n 0, 1) := by decide +kernel
theorem dX12_cell_1 : decode cX12_cell 1 = .ok (.iconst 0, 1) := by decide +kernel
theorem dX12_cell_2 : decode cX12_cell 2 = .ok (.putfield 65, 3) := by decide +kernel
theorem dX12_cell_5 : decode cX12_cell 5 = .ok (.iload_n 1, 1) := by decide +kernel
theorem dX12_cell_6 : decode cX12_cell 6 = .ok (.invokestatic 84, 3) := by decide +kernel
theorem dX12_cell_9 : decode cX12_cell 9 = .ok (.ifCond .eq 10, 3) := by decide +kernel
theorem dX12_cell_12 : decode cX12_cell 12 = .ok (.iload_n 3, 1) := by decide +kernel
theorem dX12_cell_13 : decode cX12_cell 13 = .ok (.invokestatic 88, 3) := by decide +kernel
theorem dX12_cell_16 : decode cX12_cell 16 = .ok (.ifCond .ne 7, 3) := by decide +kernel
theorem dX12_cell_19 : decode cX12_cell 19 = .ok (.ldc2_w 69, 3) := by decide +kernel
theorem dX12_cell_22 : decode cX12_cell 22 = .ok (.lreturn, 1) := by decide +kernel
theorem dX12_cell_23 : decode cX12_cell 23 = .ok (.aload_n 0, 1) := by decide +kernel
theorem dX12_cell_24 : decode cX12_cell 24 = .ok (.getfield 9, 3) := by decide +kernel
theorem dX12_cell_27 : decode cX12_cell 27 = .ok (.iload_n 1, 1) := by decide +kernel
theorem dX12_cell_28 : decode cX12_cell 28 = .ok (.iaload, 1) := by decide +kernel
theorem dX12_cell_29 : decode cX12_cell 29 = .ok (.bipush (-9), 2) := by decide +kernel
theorem dX12_cell_31 : decode cX12_cell 31 = .ok (.if_icmp .eq 19, 3) := by decide +kernel
theorem dX12_cell_34 : decode cX12_cell 34 = .ok (.aload_n 0, 1) := by decide +kernel
theorem dX12_cell_35 : decode cX12_cell 35 = .ok (.getfield 9, 3) := by decide +kernel
theorem dX12_cell_38 : decode cX12_cell 38 = .ok (.iload_n 1, 1) := by decide +kernel
theorem dX12_cell_39 : decode cX12_cell 39 = .ok (.iaload, 1) := by decide +kernel
theorem dX12_cell_40 : decode cX12_cell 40 = .ok (.iload_n 3, 1) := by decide +kernel
theorem dX12_cell_41 : decode cX12_cell 41 = .ok (.if_icmp .eq 9, 3) := by decide +kernel
theorem dX12_cell_44 : decode cX12_cell 44 = .ok (.aload_n 0, 1) := by decide +kernel
theorem dX12_cell_45 : decode cX12_cell 45 = .ok (.iconst 2, 1) := by decide +kernel
theorem dX12_cell_46 : decode cX12_cell 46 = .ok (.invokevirtual 230, 3) := by decide +kernel
theorem dX12_cell_49 : decode cX12_cell 49 = .ok (.lreturn, 1) := by decide +kernel
theorem dX12_cell_50 : decode cX12_cell 50 = .ok (.aload_n 0, 1) := by decide +kernel
theorem dX12_cell_51 : decode cX12_cell 51 = .ok (.getfield 9, 3) := by decide +kernel
theorem dX12_cell_54 : decode cX12_cell 54 = .ok (.iload_n 1, 1) := by decide +kernel
theorem dX12_cell_55 : decode cX12_cell 55 = .ok (.iaload, 1) := by decide +kernel
theorem dX12_cell_56 : decode cX12_cell 56 = .ok (.bipush (-9), 2) := by decide +kernel
theorem dX12_cell_58 : decode cX12_cell 58 = .ok (.if_icmp .ne 9, 3) := by decide +kernel
theorem dX12_cell_61 : decode cX12_cell 61 = .ok (.aload_n 0, 1) := by decide +kernel
theorem dX12_cell_62 : decode cX12_cell 62 = .ok (.iconst 1, 1) := by decide +kernel
theorem dX12_cell_63 : decode cX12_cell 63 = .ok (.invokevirtual 230, 3) := by decide +kernel
theorem dX12_cell_66 : decode cX12_cell 66 = .ok (.lreturn, 1) := by decide +kernel
theorem dX12_cell_67 : decode cX12_cell 67 = .ok (.iload_n 2, 1) := by decide +kernel
theorem dX12_cell_68 : decode cX12_cell 68 = .ok (.iconst 0, 1) := by decide +kernel
theorem dX12_cell_69 : decode cX12_cell 69 = .ok (.aload_n 0, 1) := by decide +kernel
theorem dX12_cell_70 : decode cX12_cell 70 = .ok (.getfield 13, 3) := by decide +kernel
theorem dX12_cell_73 : decode cX12_cell 73 = .ok (.iload_n 1, 1) := by decide +kernel
theorem dX12_cell_74 : decode cX12_cell 74 = .ok (.iaload, 1) := by decide +kernel
theorem dX12_cell_75 : decode cX12_cell 75 = .ok (.iconst 1, 1) := by decide +kernel
theorem dX12_cell_76 : decode cX12_cell 76 = .ok (.isub, 1) := by decide +kernel
theorem dX12_cell_77 : decode cX12_cell 77 = .ok (.invokestatic 71, 3) := by decide +kernel
theorem dX12_cell_80 : decode cX12_cell 80 = .ok (.ifCond .ne 9, 3) := by decide +kernel
theorem dX12_cell_83 : decode cX12_cell 83 = .ok (.aload_n 0, 1) := by decide +kernel
theorem dX12_cell_84 : decode cX12_cell 84 = .ok (.iconst 3, 1) := by decide +kernel
theorem dX12_cell_85 : decode cX12_cell 85 = .ok (.invokevirtual 230, 3) := by decide +kernel
theorem dX12_cell_88 : decode cX12_cell 88 = .ok (.lreturn, 1) := by decide +kernel
theorem dX12_cell_89 : decode cX12_cell 89 = .ok (.aload_n 0, 1) := by decide +kernel
theorem dX12_cell_90 : decode cX12_cell 90 = .ok (.getfield 16, 3) := by decide +kernel
theorem dX12_cell_93 : decode cX12_cell 93 = .ok (.bipush 60, 2) := by decide +kernel
theorem dX12_cell_95 : decode cX12_cell 95 = .ok (.iload_n 1, 1) := by decide +kernel
theorem dX12_cell_96 : decode cX12_cell 96 = .ok (.imul, 1) := by decide +kernel
theorem dX12_cell_97 : decode cX12_cell 97 = .ok (.iload_n 2, 1) := by decide +kernel
theorem dX12_cell_98 : decode cX12_cell 98 = .ok (.iadd, 1) := by decide +kernel
theorem dX12_cell_99 : decode cX12_cell 99 = .ok (.iaload, 1) := by decide +kernel
theorem dX12_cell_100 : decode cX12_cell 100 = .ok (.i2l, 1) := by decide +kernel
theorem dX12_cell_101 : decode cX12_cell 101 = .ok (.lreturn, 1) := by decide +kernel
theorem dX12_copy_0 : decode cX12_copy 0 = .ok (.aload_n 0, 1) := by decide +kernel
theorem dX12_copy_1 : decode cX12_copy 1 = .ok (.iconst 0, 1) := by decide +kernel
theorem dX12_copy_2 : decode cX12_copy 2 = .ok (.putfield 65, 3) := by decide +kernel
theorem dX12_copy_5 : decode cX12_copy 5 = .ok (.iload_n 1, 1) := by decide +kernel
theorem dX12_copy_6 : decode cX12_copy 6 = .ok (.invokestatic 84, 3) := by decide +kernel
theorem dX12_copy_9 : decode cX12_copy 9 = .ok (.ifCond .eq 10, 3) := by decide +kernel
theorem dX12_copy_12 : decode cX12_copy 12 = .ok (.iload_n 3, 1) := by decide +kernel
theorem dX12_copy_13 : decode cX12_copy 13 = .ok (.invokestatic 84, 3) := by decide +kernel
theorem dX12_copy_16 : decode cX12_copy 16 = .ok (.ifCond .ne 5, 3) := by decide +kernel
theorem dX12_copy_19 : decode cX12_copy 19 = .ok (.iconst (-1), 1) := by decide +kernel
theorem dX12_copy_20 : decode cX12_copy 20 = .ok (.ireturn, 1) := by decide +kernel
theorem dX12_copy_21 : decode cX12_copy 21 = .ok (.aload_n 0, 1) := by decide +kernel
theorem dX12_copy_22 : decode cX12_copy 22 = .ok (.getfield 9, 3) := by decide +kernel
theorem dX12_copy_25 : decode cX12_copy 25 = .ok (.iload_n 1, 1) := by decide +kernel
theorem dX12_copy_26 : decode cX12_copy 26 = .ok (.iaload, 1) := by decide +kernel
theorem dX12_copy_27 : decode cX12_copy 27 = .ok (.bipush (-9), 2) := by decide +kernel
theorem dX12_copy_29 : decode cX12_copy 29 = .ok (.if_icmp .eq 14, 3) := by decide +kernel
theorem dX12_copy_32 : decode cX12_copy 32 = .ok (.aload_n 0, 1) := by decide +kernel
theorem dX12_copy_33 : decode cX12_copy 33 = .ok (.getfield 9, 3) := by decide +kernel
theorem dX12_copy_36 : decode cX12_copy 36 = .ok (.iload_n 3, 1) := by decide +kernel
theorem dX12_copy_37 : decode cX12_copy 37 = .ok (.iaload, 1) := by decide +kernel
theorem dX12_copy_38 : decode cX12_copy 38 = .ok (.bipush (-9), 2) := by decide +kernel
theorem dX12_copy_40 : decode cX12_copy 40 = .ok (.if_icmp .ne 9, 3) := by decide +kernel
theorem dX12_copy_43 : decode cX12_copy 43 = .ok (.aload_n 0, 1) := by decide +kernel
theorem dX12_copy_44 : decode cX12_copy 44 = .ok (.iconst 1, 1) := by decide +kernel
theorem dX12_copy_45 : decode cX12_copy 45 = .ok (.invokevirtual 95, 3) := by decide +kernel
theorem dX12_copy_48 : decode cX12_copy 48 = .ok (.ireturn, 1) := by decide +kernel
theorem dX12_copy_49 : decode cX12_copy 49 = .ok (.aload_n 0, 1) := by decide +kernel
theorem dX12_copy_50 : decode cX12_copy 50 = .ok (.getfield 9, 3) := by decide +kernel
theorem dX12_copy_53 : decode cX12_copy 53 = .ok (.iload_n 1, 1) := by decide +kernel
theorem dX12_copy_54 : decode cX12_copy 54 = .ok (.iaload, 1) := by decide +kernel
theorem dX12_copy_55 : decode cX12_copy 55 = .ok (.aload_n 0, 1) := by decide +kernel
theorem dX12_copy_56 : decode cX12_copy 56 = .ok (.getfield 9, 3) := by decide +kernel
theorem dX12_copy_59 : decode cX12_copy 59 = .ok (.iload_n 3, 1) := by decide +kernel
theorem dX12_copy_60 : decode cX12_copy 60 = .ok (.iaload, 1) := by decide +kernel
theorem dX12_copy_61 : decode cX12_copy 61 = .ok (.if_icmp .eq 9, 3) := by decide +kernel
theorem dX12_copy_64 : decode cX12_copy 64 = .ok (.aload_n 0, 1) := by decide +kernel
theorem dX12_copy_65 : decode cX12_copy 65 = .ok (.iconst 2, 1) := by decide +kernel
theorem dX12_copy_66 : decode cX12_copy 66 = .ok (.invokevirtual 95, 3) := by decide +kernel
theorem dX12_copy_69 : decode cX12_copy 69 = .ok (.ireturn, 1) := by decide +kernel
theorem dX12_copy_70 : decode cX12_copy 70 = .ok (.iload_n 2, 1) := by decide +kernel
theorem dX12_copy_71 : decode cX12_copy 71 = .ok (.ifCond .lt 38, 3) := by decide +kernel
theorem dX12_copy_74 : decode cX12_copy 74 = .ok (.iload 4, 2) := by decide +kernel
theorem dX12_copy_76 : decode cX12_copy 76 = .ok (.ifCond .lt 33, 3) := by decide +kernel
theorem dX12_copy_79 : decode cX12_copy 79 = .ok (.iload 5, 2) := by decide +kernel
theorem dX12_copy_81 : decode cX12_copy 81 = .ok (.ifCond .lt 28, 3) := by decide +kernel
theorem dX12_copy_84 : decode cX12_copy 84 = .ok (.iload_n 2, 1) := by decide +kernel
theorem dX12_copy_85 : decode cX12_copy 85 = .ok (.aload_n 0, 1) := by decide +kernel
theorem dX12_copy_86 : decode cX12_copy 86 = .ok (.getfield 13, 3) := by decide +kernel
theorem dX12_copy_89 : decode cX12_copy 89 = .ok (.iload_n 1, 1) := by decide +kernel
theorem dX12_copy_90 : decode cX12_copy 90 = .ok (.iaload, 1) := by decide +kernel
theorem dX12_copy_91 : decode cX12_copy 91 = .ok (.if_icmp .gt 18, 3) := by decide +kernel
theorem dX12_copy_94 : decode cX12_copy 94 = .ok (.iload 4, 2) := by decide +kernel
theorem dX12_copy_96 : decode cX12_copy 96 = .ok (.aload_n 0, 1) := by decide +kernel
theorem dX12_copy_97 : decode cX12_copy 97 = .ok (.getfield 13, 3) := by decide +kernel
theorem dX12_copy_100 : decode cX12_copy 100 = .ok (.iload_n 3, 1) := by decide +kernel
theorem dX12_copy_101 : decode cX12_copy 101 = .ok (.iaload, 1) := by decide +kernel
theorem dX12_copy_102 : decode cX12_copy 102 = .ok (.if_icmp .gt 7, 3) := by decide +kernel
theorem dX12_copy_105 : decode cX12_copy 105 = .ok (.iconst 1, 1) := by decide +kernel
theorem dX12_copy_106 : decode cX12_copy 106 = .ok (.goto 4, 3) := by decide +kernel
theorem dX12_copy_109 : decode cX12_copy 109 = .ok (.iconst 0, 1) := by decide +kernel
theorem dX12_copy_110 : decode cX12_copy 110 = .ok (.istore 6, 2) := by decide +kernel
theorem dX12_copy_112 : decode cX12_copy 112 = .ok (.iload 6, 2) := by decide +kernel
theorem dX12_copy_114 : decode cX12_copy 114 = .ok (.ifCond .eq 30, 3) := by decide +kernel
theorem dX12_copy_117 : decode cX12_copy 117 = .ok (.iload 5, 2) := by decide +kernel
theorem dX12_copy_119 : decode cX12_copy 119 = .ok (.aload_n 0, 1) := by decide +kernel
theorem dX12_copy_120 : decode cX12_copy 120 = .ok (.getfield 13, 3) := by decide +kernel
theorem dX12_copy_123 : decode cX12_copy 123 = .ok (.iload_n 1, 1) := by decide +kernel
theorem dX12_copy_124 : decode cX12_copy 124 = .ok (.iaload, 1) := by decide +kernel
theorem dX12_copy_125 : decode cX12_copy 125 = .ok (.iload_n 2, 1) := by decide +kernel
theorem dX12_copy_126 : decode cX12_copy 126 = .ok (.isub, 1) := by decide +kernel
theorem dX12_copy_127 : decode cX12_copy 127 = .ok (.if_icmp .gt 17, 3) := by decide +kernel
theorem dX12_copy_130 : decode cX12_copy 130 = .ok (.iload 5, 2) := by decide +kernel
theorem dX12_copy_132 : decode cX12_copy 132 = .ok (.aload_n 0, 1) := by decide +kernel
theorem dX12_copy_133 : decode cX12_copy 133 = .ok (.getfield 13, 3) := by decide +kernel
theorem dX12_copy_136 : decode cX12_copy 136 = .ok (.iload_n 3, 1) := by decide +kernel
theorem dX12_copy_137 : decode cX12_copy 137 = .ok (.iaload, 1) := by decide +kernel
theorem dX12_copy_138 : decode cX12_copy 138 = .ok (.iload 4, 2) := by decide +kernel
theorem dX12_copy_140 : decode cX12_copy 140 = .ok (.isub, 1) := by decide +kernel
theorem dX12_copy_141 : decode cX12_copy 141 = .ok (.if_icmp .le 9, 3) := by decide +kernel
theorem dX12_copy_144 : decode cX12_copy 144 = .ok (.aload_n 0, 1) := by decide +kernel
theorem dX12_copy_145 : decode cX12_copy 145 = .ok (.iconst 3, 1) := by decide +kernel
theorem dX12_copy_146 : decode cX12_copy 146 = .ok (.invokevirtual 95, 3) := by decide +kernel
theorem dX12_copy_149 : decode cX12_copy 149 = .ok (.ireturn, 1) := by decide +kernel
theorem dX12_copy_150 : decode cX12_copy 150 = .ok (.iload_n 2, 1) := by decide +kernel
theorem dX12_copy_151 : decode cX12_copy 151 = .ok (.iload 4, 2) := by decide +kernel
theorem dX12_copy_153 : decode cX12_copy 153 = .ok (.if_icmp .ge 7, 3) := by decide +kernel
theorem dX12_copy_156 : decode cX12_copy 156 = .ok (.iconst 1, 1) := by decide +kernel
theorem dX12_copy_157 : decode cX12_copy 157 = .ok (.goto 4, 3) := by decide +kernel
theorem dX12_copy_160 : decode cX12_copy 160 = .ok (.iconst 0, 1) := by decide +kernel
theorem dX12_copy_161 : decode cX12_copy 161 = .ok (.istore 7, 2) := by decide +kernel
theorem dX12_copy_163 : decode cX12_copy 163 = .ok (.iconst 0, 1) := by decide +kernel
theorem dX12_copy_164 : decode cX12_copy 164 = .ok (.istore 8, 2) := by decide +kernel
theorem dX12_copy_166 : decode cX12_copy 166 = .ok (.iload 8, 2) := by decide +kernel
theorem dX12_copy_168 : decode cX12_copy 168 = .ok (.iload 5, 2) := by decide +kernel
theorem dX12_copy_170 : decode cX12_copy 170 = .ok (.if_icmp .ge 57, 3) := by decide +kernel
theorem dX12_copy_173 : decode cX12_copy 173 = .ok (.iload 7, 2) := by decide +kernel
theorem dX12_copy_175 : decode cX12_copy 175 = .ok (.ifCond .eq 13, 3) := by decide +kernel
theorem dX12_copy_178 : decode cX12_copy 178 = .ok (.iload 5, 2) := by decide +kernel
theorem dX12_copy_180 : decode cX12_copy 180 = .ok (.iconst 1, 1) := by decide +kernel
theorem dX12_copy_181 : decode cX12_copy 181 = .ok (.isub, 1) := by decide +kernel
theorem dX12_copy_182 : decode cX12_copy 182 = .ok (.iload 8, 2) := by decide +kernel
theorem dX12_copy_184 : decode cX12_copy 184 = .ok (.isub, 1) := by decide +kernel
theorem dX12_copy_185 : decode cX12_copy 185 = .ok (.goto 5, 3) := by decide +kernel
theorem dX12_copy_188 : decode cX12_copy 188 = .ok (.iload 8, 2) := by decide +kernel
theorem dX12_copy_190 : decode cX12_copy 190 = .ok (.istore 9, 2) := by decide +kernel
theorem dX12_copy_192 : decode cX12_copy 192 = .ok (.aload_n 0, 1) := by decide +kernel
theorem dX12_copy_193 : decode cX12_copy 193 = .ok (.getfield 16, 3) := by decide +kernel
theorem dX12_copy_196 : decode cX12_copy 196 = .ok (.bipush 60, 2) := by decide +kernel
theorem dX12_copy_198 : decode cX12_copy 198 = .ok (.iload_n 3, 1) := by decide +kernel
theorem dX12_copy_199 : decode cX12_copy 199 = .ok (.imul, 1) := by decide +kernel
theorem dX12_copy_200 : decode cX12_copy 200 = .ok (.iload 4, 2) := by decide +kernel
theorem dX12_copy_202 : decode cX12_copy 202 = .ok (.iadd, 1) := by decide +kernel
theorem dX12_copy_203 : decode cX12_copy 203 = .ok (.iload 9, 2) := by decide +kernel
theorem dX12_copy_205 : decode cX12_copy 205 = .ok (.iadd, 1) := by decide +kernel
theorem dX12_copy_206 : decode cX12_copy 206 = .ok (.aload_n 0, 1) := by decide +kernel
theorem dX12_copy_207 : decode cX12_copy 207 = .ok (.getfield 16, 3) := by decide +kernel
theorem dX12_copy_210 : decode cX12_copy 210 = .ok (.bipush 60, 2) := by decide +kernel
theorem dX12_copy_212 : decode cX12_copy 212 = .ok (.iload_n 1, 1) := by decide +kernel
theorem dX12_copy_213 : decode cX12_copy 213 = .ok (.imul, 1) := by decide +kernel
theorem dX12_copy_214 : decode cX12_copy 214 = .ok (.iload_n 2, 1) := by decide +kernel
theorem dX12_copy_215 : decode cX12_copy 215 = .ok (.iadd, 1) := by decide +kernel
theorem dX12_copy_216 : decode cX12_copy 216 = .ok (.iload 9, 2) := by decide +kernel
theorem dX12_copy_218 : decode cX12_copy 218 = .ok (.iadd, 1) := by decide +kernel
theorem dX12_copy_219 : decode cX12_copy 219 = .ok (.iaload, 1) := by decide +kernel
theorem dX12_copy_220 : decode cX12_copy 220 = .ok (.iastore, 1) := by decide +kernel
theorem dX12_copy_221 : decode cX12_copy 221 = .ok (.iinc 8 1, 3) := by decide +kernel
theorem dX12_copy_224 : decode cX12_copy 224 = .ok (.goto (-58), 3) := by decide +kernel
theorem dX12_copy_227 : decode cX12_copy 227 = .ok (.iload 5, 2) := by decide +kernel
theorem dX12_copy_229 : decode cX12_copy 229 = .ok (.ireturn, 1) := by decide +kernel
theorem dX12_leaves_0 : decode cX12_leaves 0 = .ok (.aload_n 0, 1) := by decide +kernel
theorem dX12_leaves_1 : decode cX12_leaves 1 = .ok (.bipush 31, 2) := by decide +kernel
theorem dX12_leaves_3 : decode cX12_leaves 3 = .ok (.aload_n 0, 1) := by decide +kernel
theorem dX12_leaves_4 : decode cX12_leaves 4 = .ok (.getfield 234, 3) := by decide +kernel
theorem dX12_leaves_7 : decode cX12_leaves 7 = .ok (.imul, 1) := by decide +kernel
theorem dX12_leaves_8 : decode cX12_leaves 8 = .ok (.iload_n 1, 1) := by decide +kernel
theorem dX12_leaves_9 : decode cX12_leaves 9 = .ok (.iadd, 1) := by decide +kernel
theorem dX12_leaves_10 : decode cX12_leaves 10 = .ok (.putfield 234, 3) := by decide +kernel
theorem dX12_leaves_13 : decode cX12_leaves 13 = .ok (.return_, 1) := by decide +kernel
theorem dX12_tell_0 : decode cX12_tell 0 = .ok (.aload_n 0, 1) := by decide +kernel
theorem dX12_tell_1 : decode cX12_tell 1 = .ok (.iload_n 1, 1) := by decide +kernel
theorem dX12_tell_2 : decode cX12_tell 2 = .ok (.invokevirtual 134, 3) := by decide +kernel
theorem dX12_tell_5 : decode cX12_tell 5 = .ok (.ifCond .ne 5, 3) := by decide +kernel
theorem dX12_tell_8 : decode cX12_tell 8 = .ok (.iconst (-1), 1) := by decide +kernel
theorem dX12_tell_9 : decode cX12_tell 9 = .ok (.ireturn, 1) := by decide +kernel
theorem dX12_tell_10 : decode cX12_tell 10 = .ok (.aload_n 0, 1) := by decide +kernel
theorem dX12_tell_11 : decode cX12_tell 11 = .ok (.getfield 32, 3) := by decide +kernel
theorem dX12_tell_14 : decode cX12_tell 14 = .ok (.iload_n 1, 1) := by decide +kernel
theorem dX12_tell_15 : decode cX12_tell 15 = .ok (.iaload, 1) := by decide +kernel
theorem dX12_tell_16 : decode cX12_tell 16 = .ok (.istore_n 2, 1) := by decide +kernel
theorem dX12_tell_17 : decode cX12_tell 17 = .ok (.aload_n 0, 1) := by decide +kernel
theorem dX12_tell_18 : decode cX12_tell 18 = .ok (.getfield 26, 3) := by decide +kernel
theorem dX12_tell_21 : decode cX12_tell 21 = .ok (.iload_n 1, 1) := by decide +kernel
theorem dX12_tell_22 : decode cX12_tell 22 = .ok (.iaload, 1) := by decide +kernel
theorem dX12_tell_23 : decode cX12_tell 23 = .ok (.lookupswitch 67 #[(1, 25), (2, 40)], 25) := by decide +kernel
theorem dX12_tell_48 : decode cX12_tell 48 = .ok (.aload_n 0, 1) := by decide +kernel
theorem dX12_tell_49 : decode cX12_tell 49 = .ok (.iconst 2, 1) := by decide +kernel
theorem dX12_tell_50 : decode cX12_tell 50 = .ok (.invokevirtual 237, 3) := by decide +kernel
theorem dX12_tell_53 : decode cX12_tell 53 = .ok (.aload_n 0, 1) := by decide +kernel
theorem dX12_tell_54 : decode cX12_tell 54 = .ok (.iconst 1, 1) := by decide +kernel
theorem dX12_tell_55 : decode cX12_tell 55 = .ok (.invokevirtual 237, 3) := by decide +kernel
theorem dX12_tell_58 : decode cX12_tell 58 = .ok (.iload_n 2, 1) := by decide +kernel
theorem dX12_tell_59 : decode cX12_tell 59 = .ok (.bipush 100, 2) := by decide +kernel
theorem dX12_tell_61 : decode cX12_tell 61 = .ok (.iadd, 1) := by decide +kernel
theorem dX12_tell_62 : decode cX12_tell 62 = .ok (.ireturn, 1) := by decide +kernel
theorem dX12_tell_63 : decode cX12_tell 63 = .ok (.aload_n 0, 1) := by decide +kernel
theorem dX12_tell_64 : decode cX12_tell 64 = .ok (.iconst 3, 1) := by decide +kernel
theorem dX12_tell_65 : decode cX12_tell 65 = .ok (.invokevirtual 237, 3) := by decide +kernel
theorem dX12_tell_68 : decode cX12_tell 68 = .ok (.aload_n 0, 1) := by decide +kernel
theorem dX12_tell_69 : decode cX12_tell 69 = .ok (.iconst 2, 1) := by decide +kernel
theorem dX12_tell_70 : decode cX12_tell 70 = .ok (.invokevirtual 237, 3) := by decide +kernel
theorem dX12_tell_73 : decode cX12_tell 73 = .ok (.aload_n 0, 1) := by decide +kernel
theorem dX12_tell_74 : decode cX12_tell 74 = .ok (.iconst 1, 1) := by decide +kernel
theorem dX12_tell_75 : decode cX12_tell 75 = .ok (.invokevirtual 237, 3) := by decide +kernel
theorem dX12_tell_78 : decode cX12_tell 78 = .ok (.aload_n 0, 1) := by decide +kernel
theorem dX12_tell_79 : decode cX12_tell 79 = .ok (.iconst 1, 1) := by decide +kernel
theorem dX12_tell_80 : decode cX12_tell 80 = .ok (.invokevirtual 237, 3) := by decide +kernel
theorem dX12_tell_83 : decode cX12_tell 83 = .ok (.iconst 2, 1) := by decide +kernel
theorem dX12_tell_84 : decode cX12_tell 84 = .ok (.iload_n 2, 1) := by decide +kernel
theorem dX12_tell_85 : decode cX12_tell 85 = .ok (.imul, 1) := by decide +kernel
theorem dX12_tell_86 : decode cX12_tell 86 = .ok (.bipush 100, 2) := by decide +kernel
theorem dX12_tell_88 : decode cX12_tell 88 = .ok (.iadd, 1) := by decide +kernel
theorem dX12_tell_89 : decode cX12_tell 89 = .ok (.ireturn, 1) := by decide +kernel
theorem dX12_tell_90 : decode cX12_tell 90 = .ok (.aload_n 0, 1) := by decide +kernel
theorem dX12_tell_91 : decode cX12_tell 91 = .ok (.iconst 1, 1) := by decide +kernel
theorem dX12_tell_92 : decode cX12_tell 92 = .ok (.invokevirtual 237, 3) := by decide +kernel
theorem dX12_tell_95 : decode cX12_tell 95 = .ok (.iload_n 2, 1) := by decide +kernel
theorem dX12_tell_96 : decode cX12_tell 96 = .ok (.ireturn, 1) := by decide +kernel
theorem dX12_hail_0 : decode cX12_hail 0 = .ok (.aload_n 0, 1) := by decide +kernel
theorem dX12_hail_1 : decode cX12_hail 1 = .ok (.iload_n 1, 1) := by decide +kernel
theorem dX12_hail_2 : decode cX12_hail 2 = .ok (.invokevirtual 134, 3) := by decide +kernel
theorem dX12_hail_5 : decode cX12_hail 5 = .ok (.ifCond .ne 5, 3) := by decide +kernel
theorem dX12_hail_8 : decode cX12_hail 8 = .ok (.iconst (-1), 1) := by decide +kernel
theorem dX12_hail_9 : decode cX12_hail 9 = .ok (.ireturn, 1) := by decide +kernel
theorem dX12_hail_10 : decode cX12_hail 10 = .ok (.aload_n 0, 1) := by decide +kernel
theorem dX12_hail_11 : decode cX12_hail 11 = .ok (.aload_n 0, 1) := by decide +kernel
theorem dX12_hail_12 : decode cX12_hail 12 = .ok (.getfield 26, 3) := by decide +kernel
theorem dX12_hail_15 : decode cX12_hail 15 = .ok (.iload_n 1, 1) := by decide +kernel
theorem dX12_hail_16 : decode cX12_hail 16 = .ok (.iaload, 1) := by decide +kernel
theorem dX12_hail_17 : decode cX12_hail 17 = .ok (.iconst 2, 1) := by decide +kernel
theorem dX12_hail_18 : decode cX12_hail 18 = .ok (.if_icmp .ne 7, 3) := by decide +kernel
theorem dX12_hail_21 : decode cX12_hail 21 = .ok (.iconst 5, 1) := by decide +kernel
theorem dX12_hail_22 : decode cX12_hail 22 = .ok (.goto 4, 3) := by decide +kernel
theorem dX12_hail_25 : decode cX12_hail 25 = .ok (.iconst 4, 1) := by decide +kernel
theorem dX12_hail_26 : decode cX12_hail 26 = .ok (.invokevirtual 237, 3) := by decide +kernel
theorem dX12_hail_29 : decode cX12_hail 29 = .ok (.aload_n 0, 1) := by decide +kernel
theorem dX12_hail_30 : decode cX12_hail 30 = .ok (.getfield 26, 3) := by decide +kernel
theorem dX12_hail_33 : decode cX12_hail 33 = .ok (.iload_n 1, 1) := by decide +kernel
theorem dX12_hail_34 : decode cX12_hail 34 = .ok (.iaload, 1) := by decide +kernel
theorem dX12_hail_35 : decode cX12_hail 35 = .ok (.iconst 2, 1) := by decide +kernel
theorem dX12_hail_36 : decode cX12_hail 36 = .ok (.if_icmp .ne 8, 3) := by decide +kernel
theorem dX12_hail_39 : decode cX12_hail 39 = .ok (.bipush 70, 2) := by decide +kernel
theorem dX12_hail_41 : decode cX12_hail 41 = .ok (.goto 4, 3) := by decide +kernel
theorem dX12_hail_44 : decode cX12_hail 44 = .ok (.iload_n 1, 1) := by decide +kernel
theorem dX12_hail_45 : decode cX12_hail 45 = .ok (.ireturn, 1) := by decide +kernel
theorem dX12_as_0 : decode cX12_as 0 = .ok (.aload_n 0, 1) := by decide +kernel
theorem dX12_as_1 : decode cX12_as 1 = .ok (.iconst 0, 1) := by decide +kernel
theorem dX12_as_2 : decode cX12_as 2 = .ok (.putfield 65, 3) := by decide +kernel
theorem dX12_as_5 : decode cX12_as 5 = .ok (.aload_n 0, 1) := by decide +kernel
theorem dX12_as_6 : decode cX12_as 6 = .ok (.iload_n 1, 1) := by decide +kernel
theorem dX12_as_7 : decode cX12_as 7 = .ok (.invokevirtual 134, 3) := by decide +kernel
theorem dX12_as_10 : decode cX12_as 10 = .ok (.ifCond .ne 5, 3) := by decide +kernel
theorem dX12_as_13 : decode cX12_as 13 = .ok (.iconst (-1), 1) := by decide +kernel
theorem dX12_as_14 : decode cX12_as 14 = .ok (.ireturn, 1) := by decide +kernel
theorem dX12_as_15 : decode cX12_as 15 = .ok (.iload_n 2, 1) := by decide +kernel
theorem dX12_as_16 : decode cX12_as 16 = .ok (.iconst 0, 1) := by decide +kernel
theorem dX12_as_17 : decode cX12_as 17 = .ok (.iconst 2, 1) := by decide +kernel
theorem dX12_as_18 : decode cX12_as 18 = .ok (.invokestatic 71, 3) := by decide +kernel
theorem dX12_as_21 : decode cX12_as 21 = .ok (.ifCond .ne 6, 3) := by decide +kernel
theorem dX12_as_24 : decode cX12_as 24 = .ok (.bipush (-2), 2) := by decide +kernel
theorem dX12_as_26 : decode cX12_as 26 = .ok (.ireturn, 1) := by decide +kernel
theorem dX12_as_27 : decode cX12_as 27 = .ok (.aload_n 0, 1) := by decide +kernel
theorem dX12_as_28 : decode cX12_as 28 = .ok (.getfield 26, 3) := by decide +kernel
theorem dX12_as_31 : decode cX12_as 31 = .ok (.iload_n 1, 1) := by decide +kernel
theorem dX12_as_32 : decode cX12_as 32 = .ok (.iaload, 1) := by decide +kernel
theorem dX12_as_33 : decode cX12_as 33 = .ok (.iload_n 2, 1) := by decide +kernel
theorem dX12_as_34 : decode cX12_as 34 = .ok (.if_icmp .lt 7, 3) := by decide +kernel
theorem dX12_as_37 : decode cX12_as 37 = .ok (.iconst 1, 1) := by decide +kernel
theorem dX12_as_38 : decode cX12_as 38 = .ok (.goto 8, 3) := by decide +kernel
theorem dX12_as_41 : decode cX12_as 41 = .ok (.aload_n 0, 1) := by decide +kernel
theorem dX12_as_42 : decode cX12_as 42 = .ok (.iconst 2, 1) := by decide +kernel
theorem dX12_as_43 : decode cX12_as 43 = .ok (.invokevirtual 95, 3) := by decide +kernel
theorem dX12_as_46 : decode cX12_as 46 = .ok (.ireturn, 1) := by decide +kernel
theorem dX12_trace_0 : decode cX12_trace 0 = .ok (.aload_n 0, 1) := by decide +kernel
theorem dX12_trace_1 : decode cX12_trace 1 = .ok (.getfield 234, 3) := by decide +kernel
theorem dX12_trace_4 : decode cX12_trace 4 = .ok (.ireturn, 1) := by decide +kernel
theorem dX12_fault_0 : decode cX12_fault 0 = .ok (.aload_n 0, 1) := by decide +kernel
theorem dX12_fault_1 : decode cX12_fault 1 = .ok (.getfield 65, 3) := by decide +kernel
theorem dX12_fault_4 : decode cX12_fault 4 = .ok (.ireturn, 1) := by decide +kernel
theorem dX12_many_0 : decode cX12_many 0 = .ok (.iload_n 1, 1) := by decide +kernel
theorem dX12_many_1 : decode cX12_many 1 = .ok (.ifCond .ne 10, 3) := by decide +kernel
theorem dX12_many_4 : decode cX12_many 4 = .ok (.aload_n 0, 1) := by decide +kernel
theorem dX12_many_5 : decode cX12_many 5 = .ok (.getfield 75, 3) := by decide +kernel
theorem dX12_many_8 : decode cX12_many 8 = .ok (.goto 41, 3) := by decide +kernel
theorem dX12_many_11 : decode cX12_many 11 = .ok (.iload_n 1, 1) := by decide +kernel
theorem dX12_many_12 : decode cX12_many 12 = .ok (.iconst 1, 1) := by decide +kernel
theorem dX12_many_13 : decode cX12_many 13 = .ok (.if_icmp .ne 10, 3) := by decide +kernel
theorem dX12_many_16 : decode cX12_many 16 = .ok (.aload_n 0, 1) := by decide +kernel
theorem dX12_many_17 : decode cX12_many 17 = .ok (.getfield 108, 3) := by decide +kernel
theorem dX12_many_20 : decode cX12_many 20 = .ok (.goto 29, 3) := by decide +kernel
theorem dX12_many_23 : decode cX12_many 23 = .ok (.iload_n 1, 1) := by decide +kernel
theorem dX12_many_24 : decode cX12_many 24 = .ok (.iconst 2, 1) := by decide +kernel
theorem dX12_many_25 : decode cX12_many 25 = .ok (.if_icmp .ne 10, 3) := by decide +kernel
theorem dX12_many_28 : decode cX12_many 28 = .ok (.aload_n 0, 1) := by decide +kernel
theorem dX12_many_29 : decode cX12_many 29 = .ok (.getfield 78, 3) := by decide +kernel
theorem dX12_many_32 : decode cX12_many 32 = .ok (.goto 17, 3) := by decide +kernel
theorem dX12_many_35 : decode cX12_many 35 = .ok (.iload_n 1, 1) := by decide +kernel
theorem dX12_many_36 : decode cX12_many 36 = .ok (.iconst 3, 1) := by decide +kernel
theorem dX12_many_37 : decode cX12_many 37 = .ok (.if_icmp .ne 10, 3) := by decide +kernel
theorem dX12_many_40 : decode cX12_many 40 = .ok (.aload_n 0, 1) := by decide +kernel
theorem dX12_many_41 : decode cX12_many 41 = .ok (.getfield 117, 3) := by decide +kernel
theorem dX12_many_44 : decode cX12_many 44 = .ok (.goto 5, 3) := by decide +kernel
theorem dX12_many_47 : decode cX12_many 47 = .ok (.bipush (-2), 2) := by decide +kernel
theorem dX12_many_49 : decode cX12_many 49 = .ok (.ireturn, 1) := by decide +kernel
theorem dL_law_0 : decode cL_law 0 = .ok (.new 7, 3) := by decide +kernel
theorem dL_law_3 : decode cL_law 3 = .ok (.dup, 1) := by decide +kernel
theorem dL_law_4 : decode cL_law 4 = .ok (.invokespecial 9, 3) := by decide +kernel
theorem dL_law_7 : decode cL_law 7 = .ok (.astore_n 1, 1) := by decide +kernel
theorem dL_law_8 : decode cL_law 8 = .ok (.new 10, 3) := by decide +kernel
theorem dL_law_11 : decode cL_law 11 = .ok (.dup, 1) := by decide +kernel
theorem dL_law_12 : decode cL_law 12 = .ok (.invokespecial 12, 3) := by decide +kernel
theorem dL_law_15 : decode cL_law 15 = .ok (.astore_n 2, 1) := by decide +kernel
theorem dL_law_16 : decode cL_law 16 = .ok (.iconst 0, 1) := by decide +kernel
theorem dL_law_17 : decode cL_law 17 = .ok (.istore_n 3, 1) := by decide +kernel
theorem dL_law_18 : decode cL_law 18 = .ok (.iload_n 3, 1) := by decide +kernel
theorem dL_law_19 : decode cL_law 19 = .ok (.aload_n 0, 1) := by decide +kernel
theorem dL_law_20 : decode cL_law 20 = .ok (.arraylength, 1) := by decide +kernel
theorem dL_law_21 : decode cL_law 21 = .ok (.bipush 6, 2) := by decide +kernel
theorem dL_law_23 : decode cL_law 23 = .ok (.isub, 1) := by decide +kernel
theorem dL_law_24 : decode cL_law 24 = .ok (.if_icmp .gt 1103, 3) := by decide +kernel
theorem dL_law_27 : decode cL_law 27 = .ok (.aload_n 0, 1) := by decide +kernel
theorem dL_law_28 : decode cL_law 28 = .ok (.iload_n 3, 1) := by decide +kernel
theorem dL_law_29 : decode cL_law 29 = .ok (.iaload, 1) := by decide +kernel
theorem dL_law_30 : decode cL_law 30 = .ok (.bipush 31, 2) := by decide +kernel
theorem dL_law_32 : decode cL_law 32 = .ok (.iand, 1) := by decide +kernel
theorem dL_law_33 : decode cL_law 33 = .ok (.tableswitch 1088 0 24 #[115, 168, 201, 234, 283, 346, 369, 402, 425, 468, 491, 554, 617, 680, 744, 787, 810, 853, 897, 960, 983, 1006, 1039, 1052, 1065], 115) := by decide +kernel
theorem dL_law_148 : decode cL_law 148 = .ok (.aload_n 1, 1) := by decide +kernel
theorem dL_law_149 : decode cL_law 149 = .ok (.aload_n 0, 1) := by decide +kernel
theorem dL_law_150 : decode cL_law 150 = .ok (.iload_n 3, 1) := by decide +kernel
theorem dL_law_151 : decode cL_law 151 = .ok (.iconst 1, 1) := by decide +kernel
theorem dL_law_152 : decode cL_law 152 = .ok (.iadd, 1) := by decide +kernel
theorem dL_law_153 : decode cL_law 153 = .ok (.iaload, 1) := by decide +kernel
theorem dL_law_154 : decode cL_law 154 = .ok (.aload_n 0, 1) := by decide +kernel
theorem dL_law_155 : decode cL_law 155 = .ok (.iload_n 3, 1) := by decide +kernel
theorem dL_law_156 : decode cL_law 156 = .ok (.iconst 2, 1) := by decide +kernel
theorem dL_law_157 : decode cL_law 157 = .ok (.iadd, 1) := by decide +kernel
theorem dL_law_158 : decode cL_law 158 = .ok (.iaload, 1) := by decide +kernel
theorem dL_law_159 : decode cL_law 159 = .ok (.aload_n 0, 1) := by decide +kernel
theorem dL_law_160 : decode cL_law 160 = .ok (.iload_n 3, 1) := by decide +kernel
theorem dL_law_161 : decode cL_law 161 = .ok (.iconst 3, 1) := by decide +kernel
theorem dL_law_162 : decode cL_law 162 = .ok (.iadd, 1) := by decide +kernel
theorem dL_law_163 : decode cL_law 163 = .ok (.iaload, 1) := by decide +kernel
theorem dL_law_164 : decode cL_law 164 = .ok (.aload_n 0, 1) := by decide +kernel
theorem dL_law_165 : decode cL_law 165 = .ok (.iload_n 3, 1) := by decide +kernel
theorem dL_law_166 : decode cL_law 166 = .ok (.iconst 4, 1) := by decide +kernel
theorem dL_law_167 : decode cL_law 167 = .ok (.iadd, 1) := by decide +kernel
theorem dL_law_168 : decode cL_law 168 = .ok (.iaload, 1) := by decide +kernel
theorem dL_law_169 : decode cL_law 169 = .ok (.invokevirtual 13, 3) := by decide +kernel
theorem dL_law_172 : decode cL_law 172 = .ok (.aload_n 2, 1) := by decide +kernel
theorem dL_law_173 : decode cL_law 173 = .ok (.aload_n 0, 1) := by decide +kernel
theorem dL_law_174 : decode cL_law 174 = .ok (.iload_n 3, 1) := by decide +kernel
theorem dL_law_175 : decode cL_law 175 = .ok (.iconst 1, 1) := by decide +kernel
theorem dL_law_176 : decode cL_law 176 = .ok (.iadd, 1) := by decide +kernel
theorem dL_law_177 : decode cL_law 177 = .ok (.iaload, 1) := by decide +kernel
theorem dL_law_178 : decode cL_law 178 = .ok (.aload_n 0, 1) := by decide +kernel
theorem dL_law_179 : decode cL_law 179 = .ok (.iload_n 3, 1) := by decide +kernel
theorem dL_law_180 : decode cL_law 180 = .ok (.iconst 2, 1) := by decide +kernel
theorem dL_law_181 : decode cL_law 181 = .ok (.iadd, 1) := by decide +kernel
theorem dL_law_182 : decode cL_law 182 = .ok (.iaload, 1) := by decide +kernel
theorem dL_law_183 : decode cL_law 183 = .ok (.aload_n 0, 1) := by decide +kernel
theorem dL_law_184 : decode cL_law 184 = .ok (.iload_n 3, 1) := by decide +kernel
theorem dL_law_185 : decode cL_law 185 = .ok (.iconst 3, 1) := by decide +kernel
theorem dL_law_186 : decode cL_law 186 = .ok (.iadd, 1) := by decide +kernel
theorem dL_law_187 : decode cL_law 187 = .ok (.iaload, 1) := by decide +kernel
theorem dL_law_188 : decode cL_law 188 = .ok (.aload_n 0, 1) := by decide +kernel
theorem dL_law_189 : decode cL_law 189 = .ok (.iload_n 3, 1) := by decide +kernel
theorem dL_law_190 : decode cL_law 190 = .ok (.iconst 4, 1) := by decide +kernel
theorem dL_law_191 : decode cL_law 191 = .ok (.iadd, 1) := by decide +kernel
theorem dL_law_192 : decode cL_law 192 = .ok (.iaload, 1) := by decide +kernel
theorem dL_law_193 : decode cL_law 193 = .ok (.invokevirtual 17, 3) := by decide +kernel
theorem dL_law_196 : decode cL_law 196 = .ok (.if_icmp .eq 925, 3) := by decide +kernel
theorem dL_law_199 : decode cL_law 199 = .ok (.iconst 0, 1) := by decide +kernel
theorem dL_law_200 : decode cL_law 200 = .ok (.ireturn, 1) := by decide +kernel
theorem dL_law_201 : decode cL_law 201 = .ok (.aload_n 1, 1) := by decide +kernel
theorem dL_law_202 : decode cL_law 202 = .ok (.aload_n 0, 1) := by decide +kernel
theorem dL_law_203 : decode cL_law 203 = .ok (.iload_n 3, 1) := by decide +kernel
theorem dL_law_204 : decode cL_law 204 = .ok (.iconst 1, 1) := by decide +kernel
theorem dL_law_205 : decode cL_law 205 = .ok (.iadd, 1) := by decide +kernel
theorem dL_law_206 : decode cL_law 206 = .ok (.iaload, 1) := by decide +kernel
theorem dL_law_207 : decode cL_law 207 = .ok (.aload_n 0, 1) := by decide +kernel
theorem dL_law_208 : decode cL_law 208 = .ok (.iload_n 3, 1) := by decide +kernel
theorem dL_law_209 : decode cL_law 209 = .ok (.iconst 2, 1) := by decide +kernel
theorem dL_law_210 : decode cL_law 210 = .ok (.iadd, 1) := by decide +kernel
theorem dL_law_211 : decode cL_law 211 = .ok (.iaload, 1) := by decide +kernel
theorem dL_law_212 : decode cL_law 212 = .ok (.invokevirtual 18, 3) := by decide +kernel
theorem dL_law_215 : decode cL_law 215 = .ok (.aload_n 2, 1) := by decide +kernel
theorem dL_law_216 : decode cL_law 216 = .ok (.aload_n 0, 1) := by decide +kernel
theorem dL_law_217 : decode cL_law 217 = .ok (.iload_n 3, 1) := by decide +kernel
theorem dL_law_218 : decode cL_law 218 = .ok (.iconst 1, 1) := by decide +kernel
theorem dL_law_219 : decode cL_law 219 = .ok (.iadd, 1) := by decide +kernel
theorem dL_law_220 : decode cL_law 220 = .ok (.iaload, 1) := by decide +kernel
theorem dL_law_221 : decode cL_law 221 = .ok (.aload_n 0, 1) := by decide +kernel
theorem dL_law_222 : decode cL_law 222 = .ok (.iload_n 3, 1) := by decide +kernel
theorem dL_law_223 : decode cL_law 223 = .ok (.iconst 2, 1) := by decide +kernel
theorem dL_law_224 : decode cL_law 224 = .ok (.iadd, 1) := by decide +kernel
theorem dL_law_225 : decode cL_law 225 = .ok (.iaload, 1) := by decide +kernel
theorem dL_law_226 : decode cL_law 226 = .ok (.invokevirtual 22, 3) := by decide +kernel
theorem dL_law_229 : decode cL_law 229 = .ok (.if_icmp .eq 892, 3) := by decide +kernel
theorem dL_law_232 : decode cL_law 232 = .ok (.iconst 0, 1) := by decide +kernel
theorem dL_law_233 : decode cL_law 233 = .ok (.ireturn, 1) := by decide +kernel
theorem dL_law_234 : decode cL_law 234 = .ok (.aload_n 1, 1) := by decide +kernel
theorem dL_law_235 : decode cL_law 235 = .ok (.aload_n 0, 1) := by decide +kernel
theorem dL_law_236 : decode cL_law 236 = .ok (.iload_n 3, 1) := by decide +kernel
theorem dL_law_237 : decode cL_law 237 = .ok (.iconst 1, 1) := by decide +kernel
theorem dL_law_238 : decode cL_law 238 = .ok (.iadd, 1) := by decide +kernel
theorem dL_law_239 : decode cL_law 239 = .ok (.iaload, 1) := by decide +kernel
theorem dL_law_240 : decode cL_law 240 = .ok (.aload_n 0, 1) := by decide +kernel
theorem dL_law_241 : decode cL_law 241 = .ok (.iload_n 3, 1) := by decide +kernel
theorem dL_law_242 : decode cL_law 242 = .ok (.iconst 2, 1) := by decide +kernel
theorem dL_law_243 : decode cL_law 243 = .ok (.iadd, 1) := by decide +kernel
theorem dL_law_244 : decode cL_law 244 = .ok (.iaload, 1) := by decide +kernel
theorem dL_law_245 : decode cL_law 245 = .ok (.invokevirtual 23, 3) := by decide +kernel
theorem dL_law_248 : decode cL_law 248 = .ok (.aload_n 2, 1) := by decide +kernel
theorem dL_law_249 : decode cL_law 249 = .ok (.aload_n 0, 1) := by decide +kernel
theorem dL_law_250 : decode cL_law 250 = .ok (.iload_n 3, 1) := by decide +kernel
theorem dL_law_251 : decode cL_law 251 = .ok (.iconst 1, 1) := by decide +kernel
theorem dL_law_252 : decode cL_law 252 = .ok (.iadd, 1) := by decide +kernel
theorem dL_law_253 : decode cL_law 253 = .ok (.iaload, 1) := by decide +kernel
theorem dL_law_254 : decode cL_law 254 = .ok (.aload_n 0, 1) := by decide +kernel
theorem dL_law_255 : decode cL_law 255 = .ok (.iload_n 3, 1) := by decide +kernel
theorem dL_law_256 : decode cL_law 256 = .ok (.iconst 2, 1) := by decide +kernel
theorem dL_law_257 : decode cL_law 257 = .ok (.iadd, 1) := by decide +kernel
theorem dL_law_258 : decode cL_law 258 = .ok (.iaload, 1) := by decide +kernel
theorem dL_law_259 : decode cL_law 259 = .ok (.invokevirtual 26, 3) := by decide +kernel
theorem dL_law_262 : decode cL_law 262 = .ok (.if_icmp .eq 859, 3) := by decide +kernel
theorem dL_law_265 : decode cL_law 265 = .ok (.iconst 0, 1) := by decide +kernel
theorem dL_law_266 : decode cL_law 266 = .ok (.ireturn, 1) := by decide +kernel
theorem dL_law_267 : decode cL_law 267 = .ok (.aload_n 1, 1) := by decide +kernel
theorem dL_law_268 : decode cL_law 268 = .ok (.aload_n 0, 1) := by decide +kernel
theorem dL_law_269 : decode cL_law 269 = .ok (.iload_n 3, 1) := by decide +kernel
theorem dL_law_270 : decode cL_law 270 = .ok (.iconst 1, 1) := by decide +kernel
theorem dL_law_271 : decode cL_law 271 = .ok (.iadd, 1) := by decide +kernel
theorem dL_law_272 : decode cL_law 272 = .ok (.iaload, 1) := by decide +kernel
theorem dL_law_273 : decode cL_law 273 = .ok (.aload_n 0, 1) := by decide +kernel
theorem dL_law_274 : decode cL_law 274 = .ok (.iload_n 3, 1) := by decide +kernel
theorem dL_law_275 : decode cL_law 275 = .ok (.iconst 2, 1) := by decide +kernel
theorem dL_law_276 : decode cL_law 276 = .ok (.iadd, 1) := by decide +kernel
theorem dL_law_277 : decode cL_law 277 = .ok (.iaload, 1) := by decide +kernel
theorem dL_law_278 : decode cL_law 278 = .ok (.ifCond .eq 7, 3) := by decide +kernel
theorem dL_law_281 : decode cL_law 281 = .ok (.iconst 1, 1) := by decide +kernel
theorem dL_law_282 : decode cL_law 282 = .ok (.goto 4, 3) := by decide +kernel
theorem dL_law_285 : decode cL_law 285 = .ok (.iconst 0, 1) := by decide +kernel
theorem dL_law_286 : decode cL_law 286 = .ok (.invokevirtual 27, 3) := by decide +kernel
theorem dL_law_289 : decode cL_law 289 = .ok (.aload_n 2, 1) := by decide +kernel
theorem dL_law_290 : decode cL_law 290 = .ok (.aload_n 0, 1) := by decide +kernel
theorem dL_law_291 : decode cL_law 291 = .ok (.iload_n 3, 1) := by decide +kernel
theorem dL_law_292 : decode cL_law 292 = .ok (.iconst 1, 1) := by decide +kernel
theorem dL_law_293 : decode cL_law 293 = .ok (.iadd, 1) := by decide +kernel
theorem dL_law_294 : decode cL_law 294 = .ok (.iaload, 1) := by decide +kernel
theorem dL_law_295 : decode cL_law 295 = .ok (.aload_n 0, 1) := by decide +kernel
theorem dL_law_296 : decode cL_law 296 = .ok (.iload_n 3, 1) := by decide +kernel
theorem dL_law_297 : decode cL_law 297 = .ok (.iconst 2, 1) := by decide +kernel
theorem dL_law_298 : decode cL_law 298 = .ok (.iadd, 1) := by decide +kernel
theorem dL_law_299 : decode cL_law 299 = .ok (.iaload, 1) := by decide +kernel
theorem dL_law_300 : decode cL_law 300 = .ok (.ifCond .eq 7, 3) := by decide +kernel
theorem dL_law_303 : decode cL_law 303 = .ok (.iconst 1, 1) := by decide +kernel
theorem dL_law_304 : decode cL_law 304 = .ok (.goto 4, 3) := by decide +kernel
theorem dL_law_307 : decode cL_law 307 = .ok (.iconst 0, 1) := by decide +kernel
theorem dL_law_308 : decode cL_law 308 = .ok (.invokevirtual 31, 3) := by decide +kernel
theorem dL_law_311 : decode cL_law 311 = .ok (.if_icmp .eq 810, 3) := by decide +kernel
theorem dL_law_314 : decode cL_law 314 = .ok (.iconst 0, 1) := by decide +kernel
theorem dL_law_315 : decode cL_law 315 = .ok (.ireturn, 1) := by decide +kernel
theorem dL_law_316 : decode cL_law 316 = .ok (.aload_n 1, 1) := by decide +kernel
theorem dL_law_317 : decode cL_law 317 = .ok (.aload_n 0, 1) := by decide +kernel
theorem dL_law_318 : decode cL_law 318 = .ok (.iload_n 3, 1) := by decide +kernel
theorem dL_law_319 : decode cL_law 319 = .ok (.iconst 1, 1) := by decide +kernel
theorem dL_law_320 : decode cL_law 320 = .ok (.iadd, 1) := by decide +kernel
theorem dL_law_321 : decode cL_law 321 = .ok (.iaload, 1) := by decide +kernel
theorem dL_law_322 : decode cL_law 322 = .ok (.aload_n 0, 1) := by decide +kernel
theorem dL_law_323 : decode cL_law 323 = .ok (.iload_n 3, 1) := by decide +kernel
theorem dL_law_324 : decode cL_law 324 = .ok (.iconst 2, 1) := by decide +kernel
theorem dL_law_325 : decode cL_law 325 = .ok (.iadd, 1) := by decide +kernel
theorem dL_law_326 : decode cL_law 326 = .ok (.iaload, 1) := by decide +kernel
theorem dL_law_327 : decode cL_law 327 = .ok (.aload_n 0, 1) := by decide +kernel
theorem dL_law_328 : decode cL_law 328 = .ok (.iload_n 3, 1) := by decide +kernel
theorem dL_law_329 : decode cL_law 329 = .ok (.iconst 3, 1) := by decide +kernel
theorem dL_law_330 : decode cL_law 330 = .ok (.iadd, 1) := by decide +kernel
theorem dL_law_331 : decode cL_law 331 = .ok (.iaload, 1) := by decide +kernel
theorem dL_law_332 : decode cL_law 332 = .ok (.aload_n 0, 1) := by decide +kernel
theorem dL_law_333 : decode cL_law 333 = .ok (.iload_n 3, 1) := by decide +kernel
theorem dL_law_334 : decode cL_law 334 = .ok (.iconst 4, 1) := by decide +kernel
theorem dL_law_335 : decode cL_law 335 = .ok (.iadd, 1) := by decide +kernel
theorem dL_law_336 : decode cL_law 336 = .ok (.iaload, 1) := by decide +kernel
theorem dL_law_337 : decode cL_law 337 = .ok (.aload_n 0, 1) := by decide +kernel
theorem dL_law_338 : decode cL_law 338 = .ok (.iload_n 3, 1) := by decide +kernel
theorem dL_law_339 : decode cL_law 339 = .ok (.iconst 5, 1) := by decide +kernel
theorem dL_law_340 : decode cL_law 340 = .ok (.iadd, 1) := by decide +kernel
theorem dL_law_341 : decode cL_law 341 = .ok (.iaload, 1) := by decide +kernel
theorem dL_law_342 : decode cL_law 342 = .ok (.invokevirtual 32, 3) := by decide +kernel
theorem dL_law_345 : decode cL_law 345 = .ok (.aload_n 2, 1) := by decide +kernel
theorem dL_law_346 : decode cL_law 346 = .ok (.aload_n 0, 1) := by decide +kernel
theorem dL_law_347 : decode cL_law 347 = .ok (.iload_n 3, 1) := by decide +kernel
theorem dL_law_348 : decode cL_law 348 = .ok (.iconst 1, 1) := by decide +kernel
theorem dL_law_349 : decode cL_law 349 = .ok (.iadd, 1) := by decide +kernel
theorem dL_law_350 : decode cL_law 350 = .ok (.iaload, 1) := by decide +kernel
theorem dL_law_351 : decode cL_law 351 = .ok (.aload_n 0, 1) := by decide +kernel
theorem dL_law_352 : decode cL_law 352 = .ok (.iload_n 3, 1) := by decide +kernel
theorem dL_law_353 : decode cL_law 353 = .ok (.iconst 2, 1) := by decide +kernel
theorem dL_law_354 : decode cL_law 354 = .ok (.iadd, 1) := by decide +kernel
theorem dL_law_355 : decode cL_law 355 = .ok (.iaload, 1) := by decide +kernel
theorem dL_law_356 : decode cL_law 356 = .ok (.aload_n 0, 1) := by decide +kernel
theorem dL_law_357 : decode cL_law 357 = .ok (.iload_n 3, 1) := by decide +kernel
theorem dL_law_358 : decode cL_law 358 = .ok (.iconst 3, 1) := by decide +kernel
theorem dL_law_359 : decode cL_law 359 = .ok (.iadd, 1) := by decide +kernel
theorem dL_law_360 : decode cL_law 360 = .ok (.iaload, 1) := by decide +kernel
theorem dL_law_361 : decode cL_law 361 = .ok (.aload_n 0, 1) := by decide +kernel
theorem dL_law_362 : decode cL_law 362 = .ok (.iload_n 3, 1) := by decide +kernel
theorem dL_law_363 : decode cL_law 363 = .ok (.iconst 4, 1) := by decide +kernel
theorem dL_law_364 : decode cL_law 364 = .ok (.iadd, 1) := by decide +kernel
theorem dL_law_365 : decode cL_law 365 = .ok (.iaload, 1) := by decide +kernel
theorem dL_law_366 : decode cL_law 366 = .ok (.aload_n 0, 1) := by decide +kernel
theorem dL_law_367 : decode cL_law 367 = .ok (.iload_n 3, 1) := by decide +kernel
theorem dL_law_368 : decode cL_law 368 = .ok (.iconst 5, 1) := by decide +kernel
theorem dL_law_369 : decode cL_law 369 = .ok (.iadd, 1) := by decide +kernel
theorem dL_law_370 : decode cL_law 370 = .ok (.iaload, 1) := by decide +kernel
theorem dL_law_371 : decode cL_law 371 = .ok (.invokevirtual 36, 3) := by decide +kernel
theorem dL_law_374 : decode cL_law 374 = .ok (.if_icmp .eq 747, 3) := by decide +kernel
theorem dL_law_377 : decode cL_law 377 = .ok (.iconst 0, 1) := by decide +kernel
theorem dL_law_378 : decode cL_law 378 = .ok (.ireturn, 1) := by decide +kernel
theorem dL_law_379 : decode cL_law 379 = .ok (.aload_n 1, 1) := by decide +kernel
theorem dL_law_380 : decode cL_law 380 = .ok (.aload_n 0, 1) := by decide +kernel
theorem dL_law_381 : decode cL_law 381 = .ok (.iload_n 3, 1) := by decide +kernel
theorem dL_law_382 : decode cL_law 382 = .ok (.iconst 1, 1) := by decide +kernel
theorem dL_law_383 : decode cL_law 383 = .ok (.iadd, 1) := by decide +kernel
theorem dL_law_384 : decode cL_law 384 = .ok (.iaload, 1) := by decide +kernel
theorem dL_law_385 : decode cL_law 385 = .ok (.invokevirtual 37, 3) := by decide +kernel
theorem dL_law_388 : decode cL_law 388 = .ok (.aload_n 2, 1) := by decide +kernel
theorem dL_law_389 : decode cL_law 389 = .ok (.aload_n 0, 1) := by decide +kernel
theorem dL_law_390 : decode cL_law 390 = .ok (.iload_n 3, 1) := by decide +kernel
theorem dL_law_391 : decode cL_law 391 = .ok (.iconst 1, 1) := by decide +kernel
theorem dL_law_392 : decode cL_law 392 = .ok (.iadd, 1) := by decide +kernel
theorem dL_law_393 : decode cL_law 393 = .ok (.iaload, 1) := by decide +kernel
theorem dL_law_394 : decode cL_law 394 = .ok (.invokevirtual 41, 3) := by decide +kernel
theorem dL_law_397 : decode cL_law 397 = .ok (.if_icmp .eq 724, 3) := by decide +kernel
theorem dL_law_400 : decode cL_law 400 = .ok (.iconst 0, 1) := by decide +kernel
theorem dL_law_401 : decode cL_law 401 = .ok (.ireturn, 1) := by decide +kernel
theorem dL_law_402 : decode cL_law 402 = .ok (.aload_n 1, 1) := by decide +kernel
theorem dL_law_403 : decode cL_law 403 = .ok (.aload_n 0, 1) := by decide +kernel
theorem dL_law_404 : decode cL_law 404 = .ok (.iload_n 3, 1) := by decide +kernel
theorem dL_law_405 : decode cL_law 405 = .ok (.iconst 1, 1) := by decide +kernel
theorem dL_law_406 : decode cL_law 406 = .ok (.iadd, 1) := by decide +kernel
theorem dL_law_407 : decode cL_law 407 = .ok (.iaload, 1) := by decide +kernel
theorem dL_law_408 : decode cL_law 408 = .ok (.aload_n 0, 1) := by decide +kernel
theorem dL_law_409 : decode cL_law 409 = .ok (.iload_n 3, 1) := by decide +kernel
theorem dL_law_410 : decode cL_law 410 = .ok (.iconst 2, 1) := by decide +kernel
theorem dL_law_411 : decode cL_law 411 = .ok (.iadd, 1) := by decide +kernel
theorem dL_law_412 : decode cL_law 412 = .ok (.iaload, 1) := by decide +kernel
theorem dL_law_413 : decode cL_law 413 = .ok (.invokevirtual 42, 3) := by decide +kernel
theorem dL_law_416 : decode cL_law 416 = .ok (.aload_n 2, 1) := by decide +kernel
theorem dL_law_417 : decode cL_law 417 = .ok (.aload_n 0, 1) := by decide +kernel
theorem dL_law_418 : decode cL_law 418 = .ok (.iload_n 3, 1) := by decide +kernel
theorem dL_law_419 : decode cL_law 419 = .ok (.iconst 1, 1) := by decide +kernel
theorem dL_law_420 : decode cL_law 420 = .ok (.iadd, 1) := by decide +kernel
theorem dL_law_421 : decode cL_law 421 = .ok (.iaload, 1) := by decide +kernel
theorem dL_law_422 : decode cL_law 422 = .ok (.aload_n 0, 1) := by decide +kernel
theorem dL_law_423 : decode cL_law 423 = .ok (.iload_n 3, 1) := by decide +kernel
theorem dL_law_424 : decode cL_law 424 = .ok (.iconst 2, 1) := by decide +kernel
theorem dL_law_425 : decode cL_law 425 = .ok (.iadd, 1) := by decide +kernel
theorem dL_law_426 : decode cL_law 426 = .ok (.iaload, 1) := by decide +kernel
theorem dL_law_427 : decode cL_law 427 = .ok (.invokevirtual 45, 3) := by decide +kernel
theorem dL_law_430 : decode cL_law 430 = .ok (.if_icmp .eq 691, 3) := by decide +kernel
theorem dL_law_433 : decode cL_law 433 = .ok (.iconst 0, 1) := by decide +kernel
theorem dL_law_434 : decode cL_law 434 = .ok (.ireturn, 1) := by decide +kernel
theorem dL_law_435 : decode cL_law 435 = .ok (.aload_n 1, 1) := by decide +kernel
theorem dL_law_436 : decode cL_law 436 = .ok (.aload_n 0, 1) := by decide +kernel
theorem dL_law_437 : decode cL_law 437 = .ok (.iload_n 3, 1) := by decide +kernel
theorem dL_law_438 : decode cL_law 438 = .ok (.iconst 1, 1) := by decide +kernel
theorem dL_law_439 : decode cL_law 439 = .ok (.iadd, 1) := by decide +kernel
theorem dL_law_440 : decode cL_law 440 = .ok (.iaload, 1) := by decide +kernel
theorem dL_law_441 : decode cL_law 441 = .ok (.invokevirtual 46, 3) := by decide +kernel
theorem dL_law_444 : decode cL_law 444 = .ok (.aload_n 2, 1) := by decide +kernel
theorem dL_law_445 : decode cL_law 445 = .ok (.aload_n 0, 1) := by decide +kernel
theorem dL_law_446 : decode cL_law 446 = .ok (.iload_n 3, 1) := by decide +kernel
theorem dL_law_447 : decode cL_law 447 = .ok (.iconst 1, 1) := by decide +kernel
theorem dL_law_448 : decode cL_law 448 = .ok (.iadd, 1) := by decide +kernel
theorem dL_law_449 : decode cL_law 449 = .ok (.iaload, 1) := by decide +kernel
theorem dL_law_450 : decode cL_law 450 = .ok (.invokevirtual 49, 3) := by decide +kernel
theorem dL_law_453 : decode cL_law 453 = .ok (.if_icmp .eq 668, 3) := by decide +kernel
theorem dL_law_456 : decode cL_law 456 = .ok (.iconst 0, 1) := by decide +kernel
theorem dL_law_457 : decode cL_law 457 = .ok (.ireturn, 1) := by decide +kernel
theorem dL_law_458 : decode cL_law 458 = .ok (.aload_n 1, 1) := by decide +kernel
theorem dL_law_459 : decode cL_law 459 = .ok (.aload_n 0, 1) := by decide +kernel
theorem dL_law_460 : decode cL_law 460 = .ok (.iload_n 3, 1) := by decide +kernel
theorem dL_law_461 : decode cL_law 461 = .ok (.iconst 1, 1) := by decide +kernel
theorem dL_law_462 : decode cL_law 462 = .ok (.iadd, 1) := by decide +kernel
theorem dL_law_463 : decode cL_law 463 = .ok (.iaload, 1) := by decide +kernel
theorem dL_law_464 : decode cL_law 464 = .ok (.aload_n 0, 1) := by decide +kernel
theorem dL_law_465 : decode cL_law 465 = .ok (.iload_n 3, 1) := by decide +kernel
theorem dL_law_466 : decode cL_law 466 = .ok (.iconst 2, 1) := by decide +kernel
theorem dL_law_467 : decode cL_law 467 = .ok (.iadd, 1) := by decide +kernel
theorem dL_law_468 : decode cL_law 468 = .ok (.iaload, 1) := by decide +kernel
theorem dL_law_469 : decode cL_law 469 = .ok (.aload_n 0, 1) := by decide +kernel
theorem dL_law_470 : decode cL_law 470 = .ok (.iload_n 3, 1) := by decide +kernel
theorem dL_law_471 : decode cL_law 471 = .ok (.iconst 3, 1) := by decide +kernel
theorem dL_law_472 : decode cL_law 472 = .ok (.iadd, 1) := by decide +kernel
theorem dL_law_473 : decode cL_law 473 = .ok (.iaload, 1) := by decide +kernel
theorem dL_law_474 : decode cL_law 474 = .ok (.invokevirtual 50, 3) := by decide +kernel
theorem dL_law_477 : decode cL_law 477 = .ok (.aload_n 2, 1) := by decide +kernel
theorem dL_law_478 : decode cL_law 478 = .ok (.aload_n 0, 1) := by decide +kernel
theorem dL_law_479 : decode cL_law 479 = .ok (.iload_n 3, 1) := by decide +kernel
theorem dL_law_480 : decode cL_law 480 = .ok (.iconst 1, 1) := by decide +kernel
theorem dL_law_481 : decode cL_law 481 = .ok (.iadd, 1) := by decide +kernel
theorem dL_law_482 : decode cL_law 482 = .ok (.iaload, 1) := by decide +kernel
theorem dL_law_483 : decode cL_law 483 = .ok (.aload_n 0, 1) := by decide +kernel
theorem dL_law_484 : decode cL_law 484 = .ok (.iload_n 3, 1) := by decide +kernel
theorem dL_law_485 : decode cL_law 485 = .ok (.iconst 2, 1) := by decide +kernel
theorem dL_law_486 : decode cL_law 486 = .ok (.iadd, 1) := by decide +kernel
theorem dL_law_487 : decode cL_law 487 = .ok (.iaload, 1) := by decide +kernel
theorem dL_law_488 : decode cL_law 488 = .ok (.aload_n 0, 1) := by decide +kernel
theorem dL_law_489 : decode cL_law 489 = .ok (.iload_n 3, 1) := by decide +kernel
theorem dL_law_490 : decode cL_law 490 = .ok (.iconst 3, 1) := by decide +kernel
theorem dL_law_491 : decode cL_law 491 = .ok (.iadd, 1) := by decide +kernel
theorem dL_law_492 : decode cL_law 492 = .ok (.iaload, 1) := by decide +kernel
theorem dL_law_493 : decode cL_law 493 = .ok (.invokevirtual 54, 3) := by decide +kernel
theorem dL_law_496 : decode cL_law 496 = .ok (.if_icmp .eq 625, 3) := by decide +kernel
theorem dL_law_499 : decode cL_law 499 = .ok (.iconst 0, 1) := by decide +kernel
theorem dL_law_500 : decode cL_law 500 = .ok (.ireturn, 1) := by decide +kernel
theorem dL_law_501 : decode cL_law 501 = .ok (.aload_n 1, 1) := by decide +kernel
theorem dL_law_502 : decode cL_law 502 = .ok (.aload_n 0, 1) := by decide +kernel
theorem dL_law_503 : decode cL_law 503 = .ok (.iload_n 3, 1) := by decide +kernel
theorem dL_law_504 : decode cL_law 504 = .ok (.iconst 1, 1) := by decide +kernel
theorem dL_law_505 : decode cL_law 505 = .ok (.iadd, 1) := by decide +kernel
theorem dL_law_506 : decode cL_law 506 = .ok (.iaload, 1) := by decide +kernel
theorem dL_law_507 : decode cL_law 507 = .ok (.invokevirtual 55, 3) := by decide +kernel
theorem dL_law_510 : decode cL_law 510 = .ok (.aload_n 2, 1) := by decide +kernel
theorem dL_law_511 : decode cL_law 511 = .ok (.aload_n 0, 1) := by decide +kernel
theorem dL_law_512 : decode cL_law 512 = .ok (.iload_n 3, 1) := by decide +kernel
theorem dL_law_513 : decode cL_law 513 = .ok (.iconst 1, 1) := by decide +kernel
theorem dL_law_514 : decode cL_law 514 = .ok (.iadd, 1) := by decide +kernel
theorem dL_law_515 : decode cL_law 515 = .ok (.iaload, 1) := by decide +kernel
theorem dL_law_516 : decode cL_law 516 = .ok (.invokevirtual 58, 3) := by decide +kernel
theorem dL_law_519 : decode cL_law 519 = .ok (.if_icmp .eq 602, 3) := by decide +kernel
theorem dL_law_522 : decode cL_law 522 = .ok (.iconst 0, 1) := by decide +kernel
theorem dL_law_523 : decode cL_law 523 = .ok (.ireturn, 1) := by decide +kernel
theorem dL_law_524 : decode cL_law 524 = .ok (.aload_n 1, 1) := by decide +kernel
theorem dL_law_525 : decode cL_law 525 = .ok (.aload_n 0, 1) := by decide +kernel
theorem dL_law_526 : decode cL_law 526 = .ok (.iload_n 3, 1) := by decide +kernel
theorem dL_law_527 : decode cL_law 527 = .ok (.iconst 1, 1) := by decide +kernel
theorem dL_law_528 : decode cL_law 528 = .ok (.iadd, 1) := by decide +kernel
theorem dL_law_529 : decode cL_law 529 = .ok (.iaload, 1) := by decide +kernel
theorem dL_law_530 : decode cL_law 530 = .ok (.aload_n 0, 1) := by decide +kernel
theorem dL_law_531 : decode cL_law 531 = .ok (.iload_n 3, 1) := by decide +kernel
theorem dL_law_532 : decode cL_law 532 = .ok (.iconst 2, 1) := by decide +kernel
theorem dL_law_533 : decode cL_law 533 = .ok (.iadd, 1) := by decide +kernel
theorem dL_law_534 : decode cL_law 534 = .ok (.iaload, 1) := by decide +kernel
theorem dL_law_535 : decode cL_law 535 = .ok (.aload_n 0, 1) := by decide +kernel
theorem dL_law_536 : decode cL_law 536 = .ok (.iload_n 3, 1) := by decide +kernel
theorem dL_law_537 : decode cL_law 537 = .ok (.iconst 3, 1) := by decide +kernel
theorem dL_law_538 : decode cL_law 538 = .ok (.iadd, 1) := by decide +kernel
theorem dL_law_539 : decode cL_law 539 = .ok (.iaload, 1) := by decide +kernel
theorem dL_law_540 : decode cL_law 540 = .ok (.aload_n 0, 1) := by decide +kernel
theorem dL_law_541 : decode cL_law 541 = .ok (.iload_n 3, 1) := by decide +kernel
theorem dL_law_542 : decode cL_law 542 = .ok (.iconst 4, 1) := by decide +kernel
theorem dL_law_543 : decode cL_law 543 = .ok (.iadd, 1) := by decide +kernel
theorem dL_law_544 : decode cL_law 544 = .ok (.iaload, 1) := by decide +kernel
theorem dL_law_545 : decode cL_law 545 = .ok (.aload_n 0, 1) := by decide +kernel
theorem dL_law_546 : decode cL_law 546 = .ok (.iload_n 3, 1) := by decide +kernel
theorem dL_law_547 : decode cL_law 547 = .ok (.iconst 5, 1) := by decide +kernel
theorem dL_law_548 : decode cL_law 548 = .ok (.iadd, 1) := by decide +kernel
theorem dL_law_549 : decode cL_law 549 = .ok (.iaload, 1) := by decide +kernel
theorem dL_law_550 : decode cL_law 550 = .ok (.invokevirtual 59, 3) := by decide +kernel
theorem dL_law_553 : decode cL_law 553 = .ok (.aload_n 2, 1) := by decide +kernel
theorem dL_law_554 : decode cL_law 554 = .ok (.aload_n 0, 1) := by decide +kernel
theorem dL_law_555 : decode cL_law 555 = .ok (.iload_n 3, 1) := by decide +kernel
theorem dL_law_556 : decode cL_law 556 = .ok (.iconst 1, 1) := by decide +kernel
theorem dL_law_557 : decode cL_law 557 = .ok (.iadd, 1) := by decide +kernel
theorem dL_law_558 : decode cL_law 558 = .ok (.iaload, 1) := by decide +kernel
theorem dL_law_559 : decode cL_law 559 = .ok (.aload_n 0, 1) := by decide +kernel
theorem dL_law_560 : decode cL_law 560 = .ok (.iload_n 3, 1) := by decide +kernel
theorem dL_law_561 : decode cL_law 561 = .ok (.iconst 2, 1) := by decide +kernel
theorem dL_law_562 : decode cL_law 562 = .ok (.iadd, 1) := by decide +kernel
theorem dL_law_563 : decode cL_law 563 = .ok (.iaload, 1) := by decide +kernel
theorem dL_law_564 : decode cL_law 564 = .ok (.aload_n 0, 1) := by decide +kernel
theorem dL_law_565 : decode cL_law 565 = .ok (.iload_n 3, 1) := by decide +kernel
theorem dL_law_566 : decode cL_law 566 = .ok (.iconst 3, 1) := by decide +kernel
theorem dL_law_567 : decode cL_law 567 = .ok (.iadd, 1) := by decide +kernel
theorem dL_law_568 : decode cL_law 568 = .ok (.iaload, 1) := by decide +kernel
theorem dL_law_569 : decode cL_law 569 = .ok (.aload_n 0, 1) := by decide +kernel
theorem dL_law_570 : decode cL_law 570 = .ok (.iload_n 3, 1) := by decide +kernel
theorem dL_law_571 : decode cL_law 571 = .ok (.iconst 4, 1) := by decide +kernel
theorem dL_law_572 : decode cL_law 572 = .ok (.iadd, 1) := by decide +kernel
theorem dL_law_573 : decode cL_law 573 = .ok (.iaload, 1) := by decide +kernel
theorem dL_law_574 : decode cL_law 574 = .ok (.aload_n 0, 1) := by decide +kernel
theorem dL_law_575 : decode cL_law 575 = .ok (.iload_n 3, 1) := by decide +kernel
theorem dL_law_576 : decode cL_law 576 = .ok (.iconst 5, 1) := by decide +kernel
theorem dL_law_577 : decode cL_law 577 = .ok (.iadd, 1) := by decide +kernel
theorem dL_law_578 : decode cL_law 578 = .ok (.iaload, 1) := by decide +kernel
theorem dL_law_579 : decode cL_law 579 = .ok (.invokevirtual 62, 3) := by decide +kernel
theorem dL_law_582 : decode cL_law 582 = .ok (.if_icmp .eq 539, 3) := by decide +kernel
theorem dL_law_585 : decode cL_law 585 = .ok (.iconst 0, 1) := by decide +kernel
theorem dL_law_586 : decode cL_law 586 = .ok (.ireturn, 1) := by decide +kernel
theorem dL_law_587 : decode cL_law 587 = .ok (.aload_n 1, 1) := by decide +kernel
theorem dL_law_588 : decode cL_law 588 = .ok (.aload_n 0, 1) := by decide +kernel
theorem dL_law_589 : decode cL_law 589 = .ok (.iload_n 3, 1) := by decide +kernel
theorem dL_law_590 : decode cL_law 590 = .ok (.iconst 1, 1) := by decide +kernel
theorem dL_law_591 : decode cL_law 591 = .ok (.iadd, 1) := by decide +kernel
theorem dL_law_592 : decode cL_law 592 = .ok (.iaload, 1) := by decide +kernel
theorem dL_law_593 : decode cL_law 593 = .ok (.aload_n 0, 1) := by decide +kernel
theorem dL_law_594 : decode cL_law 594 = .ok (.iload_n 3, 1) := by decide +kernel
theorem dL_law_595 : decode cL_law 595 = .ok (.iconst 2, 1) := by decide +kernel
theorem dL_law_596 : decode cL_law 596 = .ok (.iadd, 1) := by decide +kernel
theorem dL_law_597 : decode cL_law 597 = .ok (.iaload, 1) := by decide +kernel
theorem dL_law_598 : decode cL_law 598 = .ok (.aload_n 0, 1) := by decide +kernel
theorem dL_law_599 : decode cL_law 599 = .ok (.iload_n 3, 1) := by decide +kernel
theorem dL_law_600 : decode cL_law 600 = .ok (.iconst 3, 1) := by decide +kernel
theorem dL_law_601 : decode cL_law 601 = .ok (.iadd, 1) := by decide +kernel
theorem dL_law_602 : decode cL_law 602 = .ok (.iaload, 1) := by decide +kernel
theorem dL_law_603 : decode cL_law 603 = .ok (.aload_n 0, 1) := by decide +kernel
theorem dL_law_604 : decode cL_law 604 = .ok (.iload_n 3, 1) := by decide +kernel
theorem dL_law_605 : decode cL_law 605 = .ok (.iconst 4, 1) := by decide +kernel
theorem dL_law_606 : decode cL_law 606 = .ok (.iadd, 1) := by decide +kernel
theorem dL_law_607 : decode cL_law 607 = .ok (.iaload, 1) := by decide +kernel
theorem dL_law_608 : decode cL_law 608 = .ok (.aload_n 0, 1) := by decide +kernel
theorem dL_law_609 : decode cL_law 609 = .ok (.iload_n 3, 1) := by decide +kernel
theorem dL_law_610 : decode cL_law 610 = .ok (.iconst 5, 1) := by decide +kernel
theorem dL_law_611 : decode cL_law 611 = .ok (.iadd, 1) := by decide +kernel
theorem dL_law_612 : decode cL_law 612 = .ok (.iaload, 1) := by decide +kernel
theorem dL_law_613 : decode cL_law 613 = .ok (.invokevirtual 63, 3) := by decide +kernel
theorem dL_law_616 : decode cL_law 616 = .ok (.aload_n 2, 1) := by decide +kernel
theorem dL_law_617 : decode cL_law 617 = .ok (.aload_n 0, 1) := by decide +kernel
theorem dL_law_618 : decode cL_law 618 = .ok (.iload_n 3, 1) := by decide +kernel
theorem dL_law_619 : decode cL_law 619 = .ok (.iconst 1, 1) := by decide +kernel
theorem dL_law_620 : decode cL_law 620 = .ok (.iadd, 1) := by decide +kernel
theorem dL_law_621 : decode cL_law 621 = .ok (.iaload, 1) := by decide +kernel
theorem dL_law_622 : decode cL_law 622 = .ok (.aload_n 0, 1) := by decide +kernel
theorem dL_law_623 : decode cL_law 623 = .ok (.iload_n 3, 1) := by decide +kernel
theorem dL_law_624 : decode cL_law 624 = .ok (.iconst 2, 1) := by decide +kernel
theorem dL_law_625 : decode cL_law 625 = .ok (.iadd, 1) := by decide +kernel
theorem dL_law_626 : decode cL_law 626 = .ok (.iaload, 1) := by decide +kernel
theorem dL_law_627 : decode cL_law 627 = .ok (.aload_n 0, 1) := by decide +kernel
theorem dL_law_628 : decode cL_law 628 = .ok (.iload_n 3, 1) := by decide +kernel
theorem dL_law_629 : decode cL_law 629 = .ok (.iconst 3, 1) := by decide +kernel
theorem dL_law_630 : decode cL_law 630 = .ok (.iadd, 1) := by decide +kernel
theorem dL_law_631 : decode cL_law 631 = .ok (.iaload, 1) := by decide +kernel
theorem dL_law_632 : decode cL_law 632 = .ok (.aload_n 0, 1) := by decide +kernel
theorem dL_law_633 : decode cL_law 633 = .ok (.iload_n 3, 1) := by decide +kernel
theorem dL_law_634 : decode cL_law 634 = .ok (.iconst 4, 1) := by decide +kernel
theorem dL_law_635 : decode cL_law 635 = .ok (.iadd, 1) := by decide +kernel
theorem dL_law_636 : decode cL_law 636 = .ok (.iaload, 1) := by decide +kernel
theorem dL_law_637 : decode cL_law 637 = .ok (.aload_n 0, 1) := by decide +kernel
theorem dL_law_638 : decode cL_law 638 = .ok (.iload_n 3, 1) := by decide +kernel
theorem dL_law_639 : decode cL_law 639 = .ok (.iconst 5, 1) := by decide +kernel
theorem dL_law_640 : decode cL_law 640 = .ok (.iadd, 1) := by decide +kernel
theorem dL_law_641 : decode cL_law 641 = .ok (.iaload, 1) := by decide +kernel
theorem dL_law_642 : decode cL_law 642 = .ok (.invokevirtual 66, 3) := by decide +kernel
theorem dL_law_645 : decode cL_law 645 = .ok (.if_icmp .eq 476, 3) := by decide +kernel
theorem dL_law_648 : decode cL_law 648 = .ok (.iconst 0, 1) := by decide +kernel
theorem dL_law_649 : decode cL_law 649 = .ok (.ireturn, 1) := by decide +kernel
theorem dL_law_650 : decode cL_law 650 = .ok (.aload_n 1, 1) := by decide +kernel
theorem dL_law_651 : decode cL_law 651 = .ok (.aload_n 0, 1) := by decide +kernel
theorem dL_law_652 : decode cL_law 652 = .ok (.iload_n 3, 1) := by decide +kernel
theorem dL_law_653 : decode cL_law 653 = .ok (.iconst 1, 1) := by decide +kernel
theorem dL_law_654 : decode cL_law 654 = .ok (.iadd, 1) := by decide +kernel
theorem dL_law_655 : decode cL_law 655 = .ok (.iaload, 1) := by decide +kernel
theorem dL_law_656 : decode cL_law 656 = .ok (.aload_n 0, 1) := by decide +kernel
theorem dL_law_657 : decode cL_law 657 = .ok (.iload_n 3, 1) := by decide +kernel
theorem dL_law_658 : decode cL_law 658 = .ok (.iconst 2, 1) := by decide +kernel
theorem dL_law_659 : decode cL_law 659 = .ok (.iadd, 1) := by decide +kernel
theorem dL_law_660 : decode cL_law 660 = .ok (.iaload, 1) := by decide +kernel
theorem dL_law_661 : decode cL_law 661 = .ok (.aload_n 0, 1) := by decide +kernel
theorem dL_law_662 : decode cL_law 662 = .ok (.iload_n 3, 1) := by decide +kernel
theorem dL_law_663 : decode cL_law 663 = .ok (.iconst 3, 1) := by decide +kernel
theorem dL_law_664 : decode cL_law 664 = .ok (.iadd, 1) := by decide +kernel
theorem dL_law_665 : decode cL_law 665 = .ok (.iaload, 1) := by decide +kernel
theorem dL_law_666 : decode cL_law 666 = .ok (.aload_n 0, 1) := by decide +kernel
theorem dL_law_667 : decode cL_law 667 = .ok (.iload_n 3, 1) := by decide +kernel
theorem dL_law_668 : decode cL_law 668 = .ok (.iconst 4, 1) := by decide +kernel
theorem dL_law_669 : decode cL_law 669 = .ok (.iadd, 1) := by decide +kernel
theorem dL_law_670 : decode cL_law 670 = .ok (.iaload, 1) := by decide +kernel
theorem dL_law_671 : decode cL_law 671 = .ok (.aload_n 0, 1) := by decide +kernel
theorem dL_law_672 : decode cL_law 672 = .ok (.iload_n 3, 1) := by decide +kernel
theorem dL_law_673 : decode cL_law 673 = .ok (.iconst 5, 1) := by decide +kernel
theorem dL_law_674 : decode cL_law 674 = .ok (.iadd, 1) := by decide +kernel
theorem dL_law_675 : decode cL_law 675 = .ok (.iaload, 1) := by decide +kernel
theorem dL_law_676 : decode cL_law 676 = .ok (.invokevirtual 67, 3) := by decide +kernel
theorem dL_law_679 : decode cL_law 679 = .ok (.aload_n 2, 1) := by decide +kernel
theorem dL_law_680 : decode cL_law 680 = .ok (.aload_n 0, 1) := by decide +kernel
theorem dL_law_681 : decode cL_law 681 = .ok (.iload_n 3, 1) := by decide +kernel
theorem dL_law_682 : decode cL_law 682 = .ok (.iconst 1, 1) := by decide +kernel
theorem dL_law_683 : decode cL_law 683 = .ok (.iadd, 1) := by decide +kernel
theorem dL_law_684 : decode cL_law 684 = .ok (.iaload, 1) := by decide +kernel
theorem dL_law_685 : decode cL_law 685 = .ok (.aload_n 0, 1) := by decide +kernel
theorem dL_law_686 : decode cL_law 686 = .ok (.iload_n 3, 1) := by decide +kernel
theorem dL_law_687 : decode cL_law 687 = .ok (.iconst 2, 1) := by decide +kernel
theorem dL_law_688 : decode cL_law 688 = .ok (.iadd, 1) := by decide +kernel
theorem dL_law_689 : decode cL_law 689 = .ok (.iaload, 1) := by decide +kernel
theorem dL_law_690 : decode cL_law 690 = .ok (.aload_n 0, 1) := by decide +kernel
theorem dL_law_691 : decode cL_law 691 = .ok (.iload_n 3, 1) := by decide +kernel
theorem dL_law_692 : decode cL_law 692 = .ok (.iconst 3, 1) := by decide +kernel
theorem dL_law_693 : decode cL_law 693 = .ok (.iadd, 1) := by decide +kernel
theorem dL_law_694 : decode cL_law 694 = .ok (.iaload, 1) := by decide +kernel
theorem dL_law_695 : decode cL_law 695 = .ok (.aload_n 0, 1) := by decide +kernel
theorem dL_law_696 : decode cL_law 696 = .ok (.iload_n 3, 1) := by decide +kernel
theorem dL_law_697 : decode cL_law 697 = .ok (.iconst 4, 1) := by decide +kernel
theorem dL_law_698 : decode cL_law 698 = .ok (.iadd, 1) := by decide +kernel
theorem dL_law_699 : decode cL_law 699 = .ok (.iaload, 1) := by decide +kernel
theorem dL_law_700 : decode cL_law 700 = .ok (.aload_n 0, 1) := by decide +kernel
theorem dL_law_701 : decode cL_law 701 = .ok (.iload_n 3, 1) := by decide +kernel
theorem dL_law_702 : decode cL_law 702 = .ok (.iconst 5, 1) := by decide +kernel
theorem dL_law_703 : decode cL_law 703 = .ok (.iadd, 1) := by decide +kernel
theorem dL_law_704 : decode cL_law 704 = .ok (.iaload, 1) := by decide +kernel
theorem dL_law_705 : decode cL_law 705 = .ok (.invokevirtual 70, 3) := by decide +kernel
theorem dL_law_708 : decode cL_law 708 = .ok (.if_icmp .eq 413, 3) := by decide +kernel
theorem dL_law_711 : decode cL_law 711 = .ok (.iconst 0, 1) := by decide +kernel
theorem dL_law_712 : decode cL_law 712 = .ok (.ireturn, 1) := by decide +kernel
theorem dL_law_713 : decode cL_law 713 = .ok (.aload_n 1, 1) := by decide +kernel
theorem dL_law_714 : decode cL_law 714 = .ok (.aload_n 0, 1) := by decide +kernel
theorem dL_law_715 : decode cL_law 715 = .ok (.iload_n 3, 1) := by decide +kernel
theorem dL_law_716 : decode cL_law 716 = .ok (.iconst 1, 1) := by decide +kernel
theorem dL_law_717 : decode cL_law 717 = .ok (.iadd, 1) := by decide +kernel
theorem dL_law_718 : decode cL_law 718 = .ok (.iaload, 1) := by decide +kernel
theorem dL_law_719 : decode cL_law 719 = .ok (.aload_n 0, 1) := by decide +kernel
theorem dL_law_720 : decode cL_law 720 = .ok (.iload_n 3, 1) := by decide +kernel
theorem dL_law_721 : decode cL_law 721 = .ok (.iconst 2, 1) := by decide +kernel
theorem dL_law_722 : decode cL_law 722 = .ok (.iadd, 1) := by decide +kernel
theorem dL_law_723 : decode cL_law 723 = .ok (.iaload, 1) := by decide +kernel
theorem dL_law_724 : decode cL_law 724 = .ok (.aload_n 0, 1) := by decide +kernel
theorem dL_law_725 : decode cL_law 725 = .ok (.iload_n 3, 1) := by decide +kernel
theorem dL_law_726 : decode cL_law 726 = .ok (.iconst 3, 1) := by decide +kernel
theorem dL_law_727 : decode cL_law 727 = .ok (.iadd, 1) := by decide +kernel
theorem dL_law_728 : decode cL_law 728 = .ok (.iaload, 1) := by decide +kernel
theorem dL_law_729 : decode cL_law 729 = .ok (.aload_n 0, 1) := by decide +kernel
theorem dL_law_730 : decode cL_law 730 = .ok (.iload_n 3, 1) := by decide +kernel
theorem dL_law_731 : decode cL_law 731 = .ok (.iconst 4, 1) := by decide +kernel
theorem dL_law_732 : decode cL_law 732 = .ok (.iadd, 1) := by decide +kernel
theorem dL_law_733 : decode cL_law 733 = .ok (.iaload, 1) := by decide +kernel
theorem dL_law_734 : decode cL_law 734 = .ok (.aload_n 0, 1) := by decide +kernel
theorem dL_law_735 : decode cL_law 735 = .ok (.iload_n 3, 1) := by decide +kernel
theorem dL_law_736 : decode cL_law 736 = .ok (.iconst 5, 1) := by decide +kernel
theorem dL_law_737 : decode cL_law 737 = .ok (.iadd, 1) := by decide +kernel
theorem dL_law_738 : decode cL_law 738 = .ok (.iaload, 1) := by decide +kernel
theorem dL_law_739 : decode cL_law 739 = .ok (.invokevirtual 71, 3) := by decide +kernel
theorem dL_law_742 : decode cL_law 742 = .ok (.aload_n 2, 1) := by decide +kernel
theorem dL_law_743 : decode cL_law 743 = .ok (.aload_n 0, 1) := by decide +kernel
theorem dL_law_744 : decode cL_law 744 = .ok (.iload_n 3, 1) := by decide +kernel
theorem dL_law_745 : decode cL_law 745 = .ok (.iconst 1, 1) := by decide +kernel
theorem dL_law_746 : decode cL_law 746 = .ok (.iadd, 1) := by decide +kernel
theorem dL_law_747 : decode cL_law 747 = .ok (.iaload, 1) := by decide +kernel
theorem dL_law_748 : decode cL_law 748 = .ok (.aload_n 0, 1) := by decide +kernel
theorem dL_law_749 : decode cL_law 749 = .ok (.iload_n 3, 1) := by decide +kernel
theorem dL_law_750 : decode cL_law 750 = .ok (.iconst 2, 1) := by decide +kernel
theorem dL_law_751 : decode cL_law 751 = .ok (.iadd, 1) := by decide +kernel
theorem dL_law_752 : decode cL_law 752 = .ok (.iaload, 1) := by decide +kernel
theorem dL_law_753 : decode cL_law 753 = .ok (.aload_n 0, 1) := by decide +kernel
theorem dL_law_754 : decode cL_law 754 = .ok (.iload_n 3, 1) := by decide +kernel
theorem dL_law_755 : decode cL_law 755 = .ok (.iconst 3, 1) := by decide +kernel
theorem dL_law_756 : decode cL_law 756 = .ok (.iadd, 1) := by decide +kernel
theorem dL_law_757 : decode cL_law 757 = .ok (.iaload, 1) := by decide +kernel
theorem dL_law_758 : decode cL_law 758 = .ok (.aload_n 0, 1) := by decide +kernel
theorem dL_law_759 : decode cL_law 759 = .ok (.iload_n 3, 1) := by decide +kernel
theorem dL_law_760 : decode cL_law 760 = .ok (.iconst 4, 1) := by decide +kernel
theorem dL_law_761 : decode cL_law 761 = .ok (.iadd, 1) := by decide +kernel
theorem dL_law_762 : decode cL_law 762 = .ok (.iaload, 1) := by decide +kernel
theorem dL_law_763 : decode cL_law 763 = .ok (.aload_n 0, 1) := by decide +kernel
theorem dL_law_764 : decode cL_law 764 = .ok (.iload_n 3, 1) := by decide +kernel
theorem dL_law_765 : decode cL_law 765 = .ok (.iconst 5, 1) := by decide +kernel
theorem dL_law_766 : decode cL_law 766 = .ok (.iadd, 1) := by decide +kernel
theorem dL_law_767 : decode cL_law 767 = .ok (.iaload, 1) := by decide +kernel
theorem dL_law_768 : decode cL_law 768 = .ok (.invokevirtual 75, 3) := by decide +kernel
theorem dL_law_771 : decode cL_law 771 = .ok (.lcmp, 1) := by decide +kernel
theorem dL_law_772 : decode cL_law 772 = .ok (.ifCond .eq 349, 3) := by decide +kernel
theorem dL_law_775 : decode cL_law 775 = .ok (.iconst 0, 1) := by decide +kernel
theorem dL_law_776 : decode cL_law 776 = .ok (.ireturn, 1) := by decide +kernel
theorem dL_law_777 : decode cL_law 777 = .ok (.aload_n 1, 1) := by decide +kernel
theorem dL_law_778 : decode cL_law 778 = .ok (.aload_n 0, 1) := by decide +kernel
theorem dL_law_779 : decode cL_law 779 = .ok (.iload_n 3, 1) := by decide +kernel
theorem dL_law_780 : decode cL_law 780 = .ok (.iconst 1, 1) := by decide +kernel
theorem dL_law_781 : decode cL_law 781 = .ok (.iadd, 1) := by decide +kernel
theorem dL_law_782 : decode cL_law 782 = .ok (.iaload, 1) := by decide +kernel
theorem dL_law_783 : decode cL_law 783 = .ok (.aload_n 0, 1) := by decide +kernel
theorem dL_law_784 : decode cL_law 784 = .ok (.iload_n 3, 1) := by decide +kernel
theorem dL_law_785 : decode cL_law 785 = .ok (.iconst 2, 1) := by decide +kernel
theorem dL_law_786 : decode cL_law 786 = .ok (.iadd, 1) := by decide +kernel
theorem dL_law_787 : decode cL_law 787 = .ok (.iaload, 1) := by decide +kernel
theorem dL_law_788 : decode cL_law 788 = .ok (.aload_n 0, 1) := by decide +kernel
theorem dL_law_789 : decode cL_law 789 = .ok (.iload_n 3, 1) := by decide +kernel
theorem dL_law_790 : decode cL_law 790 = .ok (.iconst 3, 1) := by decide +kernel
theorem dL_law_791 : decode cL_law 791 = .ok (.iadd, 1) := by decide +kernel
theorem dL_law_792 : decode cL_law 792 = .ok (.iaload, 1) := by decide +kernel
theorem dL_law_793 : decode cL_law 793 = .ok (.invokevirtual 76, 3) := by decide +kernel
theorem dL_law_796 : decode cL_law 796 = .ok (.aload_n 2, 1) := by decide +kernel
theorem dL_law_797 : decode cL_law 797 = .ok (.aload_n 0, 1) := by decide +kernel
theorem dL_law_798 : decode cL_law 798 = .ok (.iload_n 3, 1) := by decide +kernel
theorem dL_law_799 : decode cL_law 799 = .ok (.iconst 1, 1) := by decide +kernel
theorem dL_law_800 : decode cL_law 800 = .ok (.iadd, 1) := by decide +kernel
theorem dL_law_801 : decode cL_law 801 = .ok (.iaload, 1) := by decide +kernel
theorem dL_law_802 : decode cL_law 802 = .ok (.aload_n 0, 1) := by decide +kernel
theorem dL_law_803 : decode cL_law 803 = .ok (.iload_n 3, 1) := by decide +kernel
theorem dL_law_804 : decode cL_law 804 = .ok (.iconst 2, 1) := by decide +kernel
theorem dL_law_805 : decode cL_law 805 = .ok (.iadd, 1) := by decide +kernel
theorem dL_law_806 : decode cL_law 806 = .ok (.iaload, 1) := by decide +kernel
theorem dL_law_807 : decode cL_law 807 = .ok (.aload_n 0, 1) := by decide +kernel
theorem dL_law_808 : decode cL_law 808 = .ok (.iload_n 3, 1) := by decide +kernel
theorem dL_law_809 : decode cL_law 809 = .ok (.iconst 3, 1) := by decide +kernel
theorem dL_law_810 : decode cL_law 810 = .ok (.iadd, 1) := by decide +kernel
theorem dL_law_811 : decode cL_law 811 = .ok (.iaload, 1) := by decide +kernel
theorem dL_law_812 : decode cL_law 812 = .ok (.invokevirtual 79, 3) := by decide +kernel
theorem dL_law_815 : decode cL_law 815 = .ok (.if_icmp .eq 306, 3) := by decide +kernel
theorem dL_law_818 : decode cL_law 818 = .ok (.iconst 0, 1) := by decide +kernel
theorem dL_law_819 : decode cL_law 819 = .ok (.ireturn, 1) := by decide +kernel
theorem dL_law_820 : decode cL_law 820 = .ok (.aload_n 1, 1) := by decide +kernel
theorem dL_law_821 : decode cL_law 821 = .ok (.aload_n 0, 1) := by decide +kernel
theorem dL_law_822 : decode cL_law 822 = .ok (.iload_n 3, 1) := by decide +kernel
theorem dL_law_823 : decode cL_law 823 = .ok (.iconst 1, 1) := by decide +kernel
theorem dL_law_824 : decode cL_law 824 = .ok (.iadd, 1) := by decide +kernel
theorem dL_law_825 : decode cL_law 825 = .ok (.iaload, 1) := by decide +kernel
theorem dL_law_826 : decode cL_law 826 = .ok (.invokevirtual 80, 3) := by decide +kernel
theorem dL_law_829 : decode cL_law 829 = .ok (.aload_n 2, 1) := by decide +kernel
theorem dL_law_830 : decode cL_law 830 = .ok (.aload_n 0, 1) := by decide +kernel
theorem dL_law_831 : decode cL_law 831 = .ok (.iload_n 3, 1) := by decide +kernel
theorem dL_law_832 : decode cL_law 832 = .ok (.iconst 1, 1) := by decide +kernel
theorem dL_law_833 : decode cL_law 833 = .ok (.iadd, 1) := by decide +kernel
theorem dL_law_834 : decode cL_law 834 = .ok (.iaload, 1) := by decide +kernel
theorem dL_law_835 : decode cL_law 835 = .ok (.invokevirtual 83, 3) := by decide +kernel
theorem dL_law_838 : decode cL_law 838 = .ok (.if_icmp .eq 283, 3) := by decide +kernel
theorem dL_law_841 : decode cL_law 841 = .ok (.iconst 0, 1) := by decide +kernel
theorem dL_law_842 : decode cL_law 842 = .ok (.ireturn, 1) := by decide +kernel
theorem dL_law_843 : decode cL_law 843 = .ok (.aload_n 1, 1) := by decide +kernel
theorem dL_law_844 : decode cL_law 844 = .ok (.aload_n 0, 1) := by decide +kernel
theorem dL_law_845 : decode cL_law 845 = .ok (.iload_n 3, 1) := by decide +kernel
theorem dL_law_846 : decode cL_law 846 = .ok (.iconst 1, 1) := by decide +kernel
theorem dL_law_847 : decode cL_law 847 = .ok (.iadd, 1) := by decide +kernel
theorem dL_law_848 : decode cL_law 848 = .ok (.iaload, 1) := by decide +kernel
theorem dL_law_849 : decode cL_law 849 = .ok (.aload_n 0, 1) := by decide +kernel
theorem dL_law_850 : decode cL_law 850 = .ok (.iload_n 3, 1) := by decide +kernel
theorem dL_law_851 : decode cL_law 851 = .ok (.iconst 2, 1) := by decide +kernel
theorem dL_law_852 : decode cL_law 852 = .ok (.iadd, 1) := by decide +kernel
theorem dL_law_853 : decode cL_law 853 = .ok (.iaload, 1) := by decide +kernel
theorem dL_law_854 : decode cL_law 854 = .ok (.aload_n 0, 1) := by decide +kernel
theorem dL_law_855 : decode cL_law 855 = .ok (.iload_n 3, 1) := by decide +kernel
theorem dL_law_856 : decode cL_law 856 = .ok (.iconst 3, 1) := by decide +kernel
theorem dL_law_857 : decode cL_law 857 = .ok (.iadd, 1) := by decide +kernel
theorem dL_law_858 : decode cL_law 858 = .ok (.iaload, 1) := by decide +kernel
theorem dL_law_859 : decode cL_law 859 = .ok (.invokevirtual 84, 3) := by decide +kernel
theorem dL_law_862 : decode cL_law 862 = .ok (.aload_n 2, 1) := by decide +kernel
theorem dL_law_863 : decode cL_law 863 = .ok (.aload_n 0, 1) := by decide +kernel
theorem dL_law_864 : decode cL_law 864 = .ok (.iload_n 3, 1) := by decide +kernel
theorem dL_law_865 : decode cL_law 865 = .ok (.iconst 1, 1) := by decide +kernel
theorem dL_law_866 : decode cL_law 866 = .ok (.iadd, 1) := by decide +kernel
theorem dL_law_867 : decode cL_law 867 = .ok (.iaload, 1) := by decide +kernel
theorem dL_law_868 : decode cL_law 868 = .ok (.aload_n 0, 1) := by decide +kernel
theorem dL_law_869 : decode cL_law 869 = .ok (.iload_n 3, 1) := by decide +kernel
theorem dL_law_870 : decode cL_law 870 = .ok (.iconst 2, 1) := by decide +kernel
theorem dL_law_871 : decode cL_law 871 = .ok (.iadd, 1) := by decide +kernel
theorem dL_law_872 : decode cL_law 872 = .ok (.iaload, 1) := by decide +kernel
theorem dL_law_873 : decode cL_law 873 = .ok (.aload_n 0, 1) := by decide +kernel
theorem dL_law_874 : decode cL_law 874 = .ok (.iload_n 3, 1) := by decide +kernel
theorem dL_law_875 : decode cL_law 875 = .ok (.iconst 3, 1) := by decide +kernel
theorem dL_law_876 : decode cL_law 876 = .ok (.iadd, 1) := by decide +kernel
theorem dL_law_877 : decode cL_law 877 = .ok (.iaload, 1) := by decide +kernel
theorem dL_law_878 : decode cL_law 878 = .ok (.invokevirtual 87, 3) := by decide +kernel
theorem dL_law_881 : decode cL_law 881 = .ok (.if_icmp .eq 240, 3) := by decide +kernel
theorem dL_law_884 : decode cL_law 884 = .ok (.iconst 0, 1) := by decide +kernel
theorem dL_law_885 : decode cL_law 885 = .ok (.ireturn, 1) := by decide +kernel
theorem dL_law_886 : decode cL_law 886 = .ok (.aload_n 1, 1) := by decide +kernel
theorem dL_law_887 : decode cL_law 887 = .ok (.aload_n 0, 1) := by decide +kernel
theorem dL_law_888 : decode cL_law 888 = .ok (.iload_n 3, 1) := by decide +kernel
theorem dL_law_889 : decode cL_law 889 = .ok (.iconst 1, 1) := by decide +kernel
theorem dL_law_890 : decode cL_law 890 = .ok (.iadd, 1) := by decide +kernel
theorem dL_law_891 : decode cL_law 891 = .ok (.iaload, 1) := by decide +kernel
theorem dL_law_892 : decode cL_law 892 = .ok (.aload_n 0, 1) := by decide +kernel
theorem dL_law_893 : decode cL_law 893 = .ok (.iload_n 3, 1) := by decide +kernel
theorem dL_law_894 : decode cL_law 894 = .ok (.iconst 2, 1) := by decide +kernel
theorem dL_law_895 : decode cL_law 895 = .ok (.iadd, 1) := by decide +kernel
theorem dL_law_896 : decode cL_law 896 = .ok (.iaload, 1) := by decide +kernel
theorem dL_law_897 : decode cL_law 897 = .ok (.aload_n 0, 1) := by decide +kernel
theorem dL_law_898 : decode cL_law 898 = .ok (.iload_n 3, 1) := by decide +kernel
theorem dL_law_899 : decode cL_law 899 = .ok (.iconst 3, 1) := by decide +kernel
theorem dL_law_900 : decode cL_law 900 = .ok (.iadd, 1) := by decide +kernel
theorem dL_law_901 : decode cL_law 901 = .ok (.iaload, 1) := by decide +kernel
theorem dL_law_902 : decode cL_law 902 = .ok (.invokevirtual 88, 3) := by decide +kernel
theorem dL_law_905 : decode cL_law 905 = .ok (.aload_n 2, 1) := by decide +kernel
theorem dL_law_906 : decode cL_law 906 = .ok (.aload_n 0, 1) := by decide +kernel
theorem dL_law_907 : decode cL_law 907 = .ok (.iload_n 3, 1) := by decide +kernel
theorem dL_law_908 : decode cL_law 908 = .ok (.iconst 1, 1) := by decide +kernel
theorem dL_law_909 : decode cL_law 909 = .ok (.iadd, 1) := by decide +kernel
theorem dL_law_910 : decode cL_law 910 = .ok (.iaload, 1) := by decide +kernel
theorem dL_law_911 : decode cL_law 911 = .ok (.aload_n 0, 1) := by decide +kernel
theorem dL_law_912 : decode cL_law 912 = .ok (.iload_n 3, 1) := by decide +kernel
theorem dL_law_913 : decode cL_law 913 = .ok (.iconst 2, 1) := by decide +kernel
theorem dL_law_914 : decode cL_law 914 = .ok (.iadd, 1) := by decide +kernel
theorem dL_law_915 : decode cL_law 915 = .ok (.iaload, 1) := by decide +kernel
theorem dL_law_916 : decode cL_law 916 = .ok (.aload_n 0, 1) := by decide +kernel
theorem dL_law_917 : decode cL_law 917 = .ok (.iload_n 3, 1) := by decide +kernel
theorem dL_law_918 : decode cL_law 918 = .ok (.iconst 3, 1) := by decide +kernel
theorem dL_law_919 : decode cL_law 919 = .ok (.iadd, 1) := by decide +kernel
theorem dL_law_920 : decode cL_law 920 = .ok (.iaload, 1) := by decide +kernel
theorem dL_law_921 : decode cL_law 921 = .ok (.invokevirtual 92, 3) := by decide +kernel
theorem dL_law_924 : decode cL_law 924 = .ok (.lcmp, 1) := by decide +kernel
theorem dL_law_925 : decode cL_law 925 = .ok (.ifCond .eq 196, 3) := by decide +kernel
theorem dL_law_928 : decode cL_law 928 = .ok (.iconst 0, 1) := by decide +kernel
theorem dL_law_929 : decode cL_law 929 = .ok (.ireturn, 1) := by decide +kernel
theorem dL_law_930 : decode cL_law 930 = .ok (.aload_n 1, 1) := by decide +kernel
theorem dL_law_931 : decode cL_law 931 = .ok (.aload_n 0, 1) := by decide +kernel
theorem dL_law_932 : decode cL_law 932 = .ok (.iload_n 3, 1) := by decide +kernel
theorem dL_law_933 : decode cL_law 933 = .ok (.iconst 1, 1) := by decide +kernel
theorem dL_law_934 : decode cL_law 934 = .ok (.iadd, 1) := by decide +kernel
theorem dL_law_935 : decode cL_law 935 = .ok (.iaload, 1) := by decide +kernel
theorem dL_law_936 : decode cL_law 936 = .ok (.aload_n 0, 1) := by decide +kernel
theorem dL_law_937 : decode cL_law 937 = .ok (.iload_n 3, 1) := by decide +kernel
theorem dL_law_938 : decode cL_law 938 = .ok (.iconst 2, 1) := by decide +kernel
theorem dL_law_939 : decode cL_law 939 = .ok (.iadd, 1) := by decide +kernel
theorem dL_law_940 : decode cL_law 940 = .ok (.iaload, 1) := by decide +kernel
theorem dL_law_941 : decode cL_law 941 = .ok (.aload_n 0, 1) := by decide +kernel
theorem dL_law_942 : decode cL_law 942 = .ok (.iload_n 3, 1) := by decide +kernel
theorem dL_law_943 : decode cL_law 943 = .ok (.iconst 3, 1) := by decide +kernel
theorem dL_law_944 : decode cL_law 944 = .ok (.iadd, 1) := by decide +kernel
theorem dL_law_945 : decode cL_law 945 = .ok (.iaload, 1) := by decide +kernel
theorem dL_law_946 : decode cL_law 946 = .ok (.aload_n 0, 1) := by decide +kernel
theorem dL_law_947 : decode cL_law 947 = .ok (.iload_n 3, 1) := by decide +kernel
theorem dL_law_948 : decode cL_law 948 = .ok (.iconst 4, 1) := by decide +kernel
theorem dL_law_949 : decode cL_law 949 = .ok (.iadd, 1) := by decide +kernel
theorem dL_law_950 : decode cL_law 950 = .ok (.iaload, 1) := by decide +kernel
theorem dL_law_951 : decode cL_law 951 = .ok (.aload_n 0, 1) := by decide +kernel
theorem dL_law_952 : decode cL_law 952 = .ok (.iload_n 3, 1) := by decide +kernel
theorem dL_law_953 : decode cL_law 953 = .ok (.iconst 5, 1) := by decide +kernel
theorem dL_law_954 : decode cL_law 954 = .ok (.iadd, 1) := by decide +kernel
theorem dL_law_955 : decode cL_law 955 = .ok (.iaload, 1) := by decide +kernel
theorem dL_law_956 : decode cL_law 956 = .ok (.invokevirtual 93, 3) := by decide +kernel
theorem dL_law_959 : decode cL_law 959 = .ok (.aload_n 2, 1) := by decide +kernel
theorem dL_law_960 : decode cL_law 960 = .ok (.aload_n 0, 1) := by decide +kernel
theorem dL_law_961 : decode cL_law 961 = .ok (.iload_n 3, 1) := by decide +kernel
theorem dL_law_962 : decode cL_law 962 = .ok (.iconst 1, 1) := by decide +kernel
theorem dL_law_963 : decode cL_law 963 = .ok (.iadd, 1) := by decide +kernel
theorem dL_law_964 : decode cL_law 964 = .ok (.iaload, 1) := by decide +kernel
theorem dL_law_965 : decode cL_law 965 = .ok (.aload_n 0, 1) := by decide +kernel
theorem dL_law_966 : decode cL_law 966 = .ok (.iload_n 3, 1) := by decide +kernel
theorem dL_law_967 : decode cL_law 967 = .ok (.iconst 2, 1) := by decide +kernel
theorem dL_law_968 : decode cL_law 968 = .ok (.iadd, 1) := by decide +kernel
theorem dL_law_969 : decode cL_law 969 = .ok (.iaload, 1) := by decide +kernel
theorem dL_law_970 : decode cL_law 970 = .ok (.aload_n 0, 1) := by decide +kernel
theorem dL_law_971 : decode cL_law 971 = .ok (.iload_n 3, 1) := by decide +kernel
theorem dL_law_972 : decode cL_law 972 = .ok (.iconst 3, 1) := by decide +kernel
theorem dL_law_973 : decode cL_law 973 = .ok (.iadd, 1) := by decide +kernel
theorem dL_law_974 : decode cL_law 974 = .ok (.iaload, 1) := by decide +kernel
theorem dL_law_975 : decode cL_law 975 = .ok (.aload_n 0, 1) := by decide +kernel
theorem dL_law_976 : decode cL_law 976 = .ok (.iload_n 3, 1) := by decide +kernel
theorem dL_law_977 : decode cL_law 977 = .ok (.iconst 4, 1) := by decide +kernel
theorem dL_law_978 : decode cL_law 978 = .ok (.iadd, 1) := by decide +kernel
theorem dL_law_979 : decode cL_law 979 = .ok (.iaload, 1) := by decide +kernel
theorem dL_law_980 : decode cL_law 980 = .ok (.aload_n 0, 1) := by decide +kernel
theorem dL_law_981 : decode cL_law 981 = .ok (.iload_n 3, 1) := by decide +kernel
theorem dL_law_982 : decode cL_law 982 = .ok (.iconst 5, 1) := by decide +kernel
theorem dL_law_983 : decode cL_law 983 = .ok (.iadd, 1) := by decide +kernel
theorem dL_law_984 : decode cL_law 984 = .ok (.iaload, 1) := by decide +kernel
theorem dL_law_985 : decode cL_law 985 = .ok (.invokevirtual 96, 3) := by decide +kernel
theorem dL_law_988 : decode cL_law 988 = .ok (.if_icmp .eq 133, 3) := by decide +kernel
theorem dL_law_991 : decode cL_law 991 = .ok (.iconst 0, 1) := by decide +kernel
theorem dL_law_992 : decode cL_law 992 = .ok (.ireturn, 1) := by decide +kernel
theorem dL_law_993 : decode cL_law 993 = .ok (.aload_n 1, 1) := by decide +kernel
theorem dL_law_994 : decode cL_law 994 = .ok (.aload_n 0, 1) := by decide +kernel
theorem dL_law_995 : decode cL_law 995 = .ok (.iload_n 3, 1) := by decide +kernel
theorem dL_law_996 : decode cL_law 996 = .ok (.iconst 1, 1) := by decide +kernel
theorem dL_law_997 : decode cL_law 997 = .ok (.iadd, 1) := by decide +kernel
theorem dL_law_998 : decode cL_law 998 = .ok (.iaload, 1) := by decide +kernel
theorem dL_law_999 : decode cL_law 999 = .ok (.invokevirtual 97, 3) := by decide +kernel
theorem dL_law_1002 : decode cL_law 1002 = .ok (.aload_n 2, 1) := by decide +kernel
theorem dL_law_1003 : decode cL_law 1003 = .ok (.aload_n 0, 1) := by decide +kernel
theorem dL_law_1004 : decode cL_law 1004 = .ok (.iload_n 3, 1) := by decide +kernel
theorem dL_law_1005 : decode cL_law 1005 = .ok (.iconst 1, 1) := by decide +kernel
theorem dL_law_1006 : decode cL_law 1006 = .ok (.iadd, 1) := by decide +kernel
theorem dL_law_1007 : decode cL_law 1007 = .ok (.iaload, 1) := by decide +kernel
theorem dL_law_1008 : decode cL_law 1008 = .ok (.invokevirtual 100, 3) := by decide +kernel
theorem dL_law_1011 : decode cL_law 1011 = .ok (.if_icmp .eq 110, 3) := by decide +kernel
theorem dL_law_1014 : decode cL_law 1014 = .ok (.iconst 0, 1) := by decide +kernel
theorem dL_law_1015 : decode cL_law 1015 = .ok (.ireturn, 1) := by decide +kernel
theorem dL_law_1016 : decode cL_law 1016 = .ok (.aload_n 1, 1) := by decide +kernel
theorem dL_law_1017 : decode cL_law 1017 = .ok (.aload_n 0, 1) := by decide +kernel
theorem dL_law_1018 : decode cL_law 1018 = .ok (.iload_n 3, 1) := by decide +kernel
theorem dL_law_1019 : decode cL_law 1019 = .ok (.iconst 1, 1) := by decide +kernel
theorem dL_law_1020 : decode cL_law 1020 = .ok (.iadd, 1) := by decide +kernel
theorem dL_law_1021 : decode cL_law 1021 = .ok (.iaload, 1) := by decide +kernel
theorem dL_law_1022 : decode cL_law 1022 = .ok (.invokevirtual 101, 3) := by decide +kernel
theorem dL_law_1025 : decode cL_law 1025 = .ok (.aload_n 2, 1) := by decide +kernel
theorem dL_law_1026 : decode cL_law 1026 = .ok (.aload_n 0, 1) := by decide +kernel
theorem dL_law_1027 : decode cL_law 1027 = .ok (.iload_n 3, 1) := by decide +kernel
theorem dL_law_1028 : decode cL_law 1028 = .ok (.iconst 1, 1) := by decide +kernel
theorem dL_law_1029 : decode cL_law 1029 = .ok (.iadd, 1) := by decide +kernel
theorem dL_law_1030 : decode cL_law 1030 = .ok (.iaload, 1) := by decide +kernel
theorem dL_law_1031 : decode cL_law 1031 = .ok (.invokevirtual 104, 3) := by decide +kernel
theorem dL_law_1034 : decode cL_law 1034 = .ok (.if_icmp .eq 87, 3) := by decide +kernel
theorem dL_law_1037 : decode cL_law 1037 = .ok (.iconst 0, 1) := by decide +kernel
theorem dL_law_1038 : decode cL_law 1038 = .ok (.ireturn, 1) := by decide +kernel
theorem dL_law_1039 : decode cL_law 1039 = .ok (.aload_n 1, 1) := by decide +kernel
theorem dL_law_1040 : decode cL_law 1040 = .ok (.aload_n 0, 1) := by decide +kernel
theorem dL_law_1041 : decode cL_law 1041 = .ok (.iload_n 3, 1) := by decide +kernel
theorem dL_law_1042 : decode cL_law 1042 = .ok (.iconst 1, 1) := by decide +kernel
theorem dL_law_1043 : decode cL_law 1043 = .ok (.iadd, 1) := by decide +kernel
theorem dL_law_1044 : decode cL_law 1044 = .ok (.iaload, 1) := by decide +kernel
theorem dL_law_1045 : decode cL_law 1045 = .ok (.aload_n 0, 1) := by decide +kernel
theorem dL_law_1046 : decode cL_law 1046 = .ok (.iload_n 3, 1) := by decide +kernel
theorem dL_law_1047 : decode cL_law 1047 = .ok (.iconst 2, 1) := by decide +kernel
theorem dL_law_1048 : decode cL_law 1048 = .ok (.iadd, 1) := by decide +kernel
theorem dL_law_1049 : decode cL_law 1049 = .ok (.iaload, 1) := by decide +kernel
theorem dL_law_1050 : decode cL_law 1050 = .ok (.invokevirtual 105, 3) := by decide +kernel
theorem dL_law_1053 : decode cL_law 1053 = .ok (.aload_n 2, 1) := by decide +kernel
theorem dL_law_1054 : decode cL_law 1054 = .ok (.aload_n 0, 1) := by decide +kernel
theorem dL_law_1055 : decode cL_law 1055 = .ok (.iload_n 3, 1) := by decide +kernel
theorem dL_law_1056 : decode cL_law 1056 = .ok (.iconst 1, 1) := by decide +kernel
theorem dL_law_1057 : decode cL_law 1057 = .ok (.iadd, 1) := by decide +kernel
theorem dL_law_1058 : decode cL_law 1058 = .ok (.iaload, 1) := by decide +kernel
theorem dL_law_1059 : decode cL_law 1059 = .ok (.aload_n 0, 1) := by decide +kernel
theorem dL_law_1060 : decode cL_law 1060 = .ok (.iload_n 3, 1) := by decide +kernel
theorem dL_law_1061 : decode cL_law 1061 = .ok (.iconst 2, 1) := by decide +kernel
theorem dL_law_1062 : decode cL_law 1062 = .ok (.iadd, 1) := by decide +kernel
theorem dL_law_1063 : decode cL_law 1063 = .ok (.iaload, 1) := by decide +kernel
theorem dL_law_1064 : decode cL_law 1064 = .ok (.invokevirtual 108, 3) := by decide +kernel
theorem dL_law_1067 : decode cL_law 1067 = .ok (.if_icmp .eq 54, 3) := by decide +kernel
theorem dL_law_1070 : decode cL_law 1070 = .ok (.iconst 0, 1) := by decide +kernel
theorem dL_law_1071 : decode cL_law 1071 = .ok (.ireturn, 1) := by decide +kernel
theorem dL_law_1072 : decode cL_law 1072 = .ok (.aload_n 1, 1) := by decide +kernel
theorem dL_law_1073 : decode cL_law 1073 = .ok (.invokevirtual 109, 3) := by decide +kernel
theorem dL_law_1076 : decode cL_law 1076 = .ok (.aload_n 2, 1) := by decide +kernel
theorem dL_law_1077 : decode cL_law 1077 = .ok (.invokevirtual 113, 3) := by decide +kernel
theorem dL_law_1080 : decode cL_law 1080 = .ok (.if_icmp .eq 41, 3) := by decide +kernel
theorem dL_law_1083 : decode cL_law 1083 = .ok (.iconst 0, 1) := by decide +kernel
theorem dL_law_1084 : decode cL_law 1084 = .ok (.ireturn, 1) := by decide +kernel
theorem dL_law_1085 : decode cL_law 1085 = .ok (.aload_n 1, 1) := by decide +kernel
theorem dL_law_1086 : decode cL_law 1086 = .ok (.invokevirtual 114, 3) := by decide +kernel
theorem dL_law_1089 : decode cL_law 1089 = .ok (.aload_n 2, 1) := by decide +kernel
theorem dL_law_1090 : decode cL_law 1090 = .ok (.invokevirtual 117, 3) := by decide +kernel
theorem dL_law_1093 : decode cL_law 1093 = .ok (.if_icmp .eq 28, 3) := by decide +kernel
theorem dL_law_1096 : decode cL_law 1096 = .ok (.iconst 0, 1) := by decide +kernel
theorem dL_law_1097 : decode cL_law 1097 = .ok (.ireturn, 1) := by decide +kernel
theorem dL_law_1098 : decode cL_law 1098 = .ok (.aload_n 1, 1) := by decide +kernel
theorem dL_law_1099 : decode cL_law 1099 = .ok (.aload_n 0, 1) := by decide +kernel
theorem dL_law_1100 : decode cL_law 1100 = .ok (.iload_n 3, 1) := by decide +kernel
theorem dL_law_1101 : decode cL_law 1101 = .ok (.iconst 1, 1) := by decide +kernel
theorem dL_law_1102 : decode cL_law 1102 = .ok (.iadd, 1) := by decide +kernel
theorem dL_law_1103 : decode cL_law 1103 = .ok (.iaload, 1) := by decide +kernel
theorem dL_law_1104 : decode cL_law 1104 = .ok (.invokevirtual 118, 3) := by decide +kernel
theorem dL_law_1107 : decode cL_law 1107 = .ok (.aload_n 2, 1) := by decide +kernel
theorem dL_law_1108 : decode cL_law 1108 = .ok (.aload_n 0, 1) := by decide +kernel
theorem dL_law_1109 : decode cL_law 1109 = .ok (.iload_n 3, 1) := by decide +kernel
theorem dL_law_1110 : decode cL_law 1110 = .ok (.iconst 1, 1) := by decide +kernel
theorem dL_law_1111 : decode cL_law 1111 = .ok (.iadd, 1) := by decide +kernel
theorem dL_law_1112 : decode cL_law 1112 = .ok (.iaload, 1) := by decide +kernel
theorem dL_law_1113 : decode cL_law 1113 = .ok (.invokevirtual 121, 3) := by decide +kernel
theorem dL_law_1116 : decode cL_law 1116 = .ok (.if_icmp .eq 5, 3) := by decide +kernel
theorem dL_law_1119 : decode cL_law 1119 = .ok (.iconst 0, 1) := by decide +kernel
theorem dL_law_1120 : decode cL_law 1120 = .ok (.ireturn, 1) := by decide +kernel
theorem dL_law_1121 : decode cL_law 1121 = .ok (.iinc 3 6, 3) := by decide +kernel
theorem dL_law_1124 : decode cL_law 1124 = .ok (.goto (-1106), 3) := by decide +kernel
theorem dL_law_1127 : decode cL_law 1127 = .ok (.iconst 1, 1) := by decide +kernel
theorem dL_law_1128 : decode cL_law 1128 = .ok (.ireturn, 1) := by decide +kernel
end
section
/-! THE T LAYER: a method's run over a list heap. Places are numbers; the place k lies at the address G.1 + k. A float stands for the script's address. -/
abbrev XA : Type := (Nat → Int32) ⊕ ((Nat → Int64) ⊕ (Nat → Option Nat))
abbrev XC : Type := (Nat × (Nat × XA)) ⊕ (Nat × List Value)
abbrev XH : Type := List XC
abbrev XG : Type := Nat × (Nat × ((Nat → ClassId) × va_G))
abbrev XM : Type := MethodName × (ByteArray × (Nat × (Option FieldType × Room)))
def x_gw : List Cond := lw_tbl.filter goodWord
theorem x_gm {w : Cond} (h : w ∈ lw_tbl) (g : goodWord w = true) : w ∈ x_gw := List.mem_filter.mpr ⟨h, g⟩
theorem x_gg {w : Cond} (h : w ∈ x_gw) : goodWord w = true := (List.mem_filter.mp h).2
def x_mv (G : XG) (v : Value) : Value := match v with
  | .ref k => .ref (G.1 + k)
  | .float _ => .ref G.2.1
  | .int x => .int x
  | .long x => .long x
  | .double x => .double x
  | .null => .null
  | .retAddr x => .retAddr x
theorem x_mv_cat (G : XG) (v : Value) : (x_mv G v).category = v.category := by cases v <;> rfl
def x_mA (G : XG) (a : XA) : (Nat → Int32) ⊕ (Nat → Int64) ⊕ (Nat → UInt32) ⊕ (Nat → UInt64) ⊕ (Nat → Option Nat) := match a with
  | .inl f => .inl f
  | .inr (.inl f) => .inr (.inl f)
  | .inr (.inr g) => .inr (.inr (.inr (.inr (fun i => (g i).map (fun k => G.1 + k)))))
def x_mC (G : XG) (c : XC) : va_E := match c with
  | .inl a => .inl (G.2.2.1 a.1, (a.2.1, x_mA G a.2.2))
  | .inr o => .inr (o.1, o.2.map (x_mv G))
def x_W (G : XG) (h : XH) : va_W := h.mapIdx (fun k c => (G.1 + k, x_mC G c))
theorem x_W_at {G : XG} {h : XH} {k : Nat} {c : XC} (hk : h[k]? = some c) : (x_W G h)[k]? = some (G.1 + k, x_mC G c) := by
  simp [x_W, List.getElem?_mapIdx, hk]
theorem x_W_inv {G : XG} {h : XH} {k : Nat} {q : Nat × va_E} (hk : (x_W G h)[k]? = some q) : ∃ c, h[k]? = some c ∧ q = (G.1 + k, x_mC G c) := by
  simp only [x_W, List.getElem?_mapIdx, Option.map_eq_some_iff] at hk
  obtain ⟨c, h1, h2⟩ := hk
  exact ⟨c, h1, h2.symm⟩
theorem x_W_len (G : XG) (h : XH) : (x_W G h).length = h.length := by simp [x_W]
theorem x_W_set {G : XG} {h : XH} {k : Nat} {c : XC} : (x_W G h).set k (G.1 + k, x_mC G c) = x_W G (h.set k c) := by
  refine List.ext_getElem? fun j => ?_
  by_cases hj : j = k
  · subst hj
    by_cases hl : j < h.length
    · rw [List.getElem?_set_self (by rw [x_W_len]; exact hl), x_W_at (List.getElem?_set_self hl)]
    · rw [List.getElem?_eq_none (by rw [List.length_set, x_W_len]; omega), List.getElem?_eq_none (by rw [x_W_len, List.length_set]; omega)]
  · rw [List.getElem?_set_ne (fun e => hj e.symm)]
    simp only [x_W, List.getElem?_mapIdx]
    rw [List.getElem?_set_ne (fun e => hj e.symm)]
theorem x_W_push {G : XG} {h : XH} {c : XC} : x_W G h ++ [(G.1 + h.length, x_mC G c)] = x_W G (h ++ [c]) := by
  simp [x_W, List.mapIdx_append]
theorem x_D (G : XG) (h : XH) : va_D (fun q : Nat => G.1 ≤ q) (x_W G h) := by
  refine ⟨fun i j p q hi hj e => ?_, fun k q hk => ?_⟩
  · obtain ⟨c, -, rfl⟩ := x_W_inv hi
    obtain ⟨d, -, rfl⟩ := x_W_inv hj
    have e : G.1 + i = G.1 + j := e
    omega
  · obtain ⟨c, -, rfl⟩ := x_W_inv hk
    show G.1 ≤ G.1 + k
    omega
def x_tys (G : XG) : List (ClassId × FieldType) := [(G.2.2.1 0, .int), (G.2.2.1 1, .long), (G.2.2.1 2, .boolean), (G.2.2.1 3, .object RX5), (G.2.2.1 4, .object RX0), (G.2.2.1 5, .object RX6)]
/-- words that only a warmed state keeps: private nest mates' links, casts -/
def x_nst : List (String × (Nat × (MethodName × String))) := [(RX11, 19, yX7_init, RX11), (RX11, 26, yX3_init, RX11), (RX11, 33, yX10_init, RX11), (RX4, 41, yX10_init, RX11), (RX4, 48, yX6_init, RX11), (RX11, 47, yX9_init, RX11), (RX11, 76, yX5_init, RX11), (RX7, 65, yX11_newBoat, RX11)]
def x_cst : List (String × String) := [(RX8, RX2), (RX2, RX0), (RX8, RX0)]
def x_X (U : State) : Prop := (∀ q ∈ x_nst, va_Nw (.methodLinkNest q.1 q.2.1 q.2.2.1 q.2.2.2) U) ∧ (∀ q ∈ x_cst, va_Nw (.castable q.1 q.2) U) ∧ va_Nw (.declares yX0_tellingOfBoat) U ∧ va_AO RX5 U ∧ va_AO RX0 U ∧ va_AO RX6 U
theorem x_X.warm {s U : State} (hW : s.WarmedH U.vm) (h : x_X s) : x_X U := ⟨fun q hq => (h.1 q hq).warmM hW, fun q hq => (h.2.1 q hq).warmC hW, h.2.2.1.warmD hW, h.2.2.2.1.moved hW.alike, h.2.2.2.2.1.moved hW.alike, h.2.2.2.2.2.moved hW.alike⟩
theorem x_X.same {s U : State} (hv : s.vm = U.vm) (h : x_X s) : x_X U := ⟨fun q hq => (h.1 q hq).same rfl hv, fun q hq => (h.2.1 q hq).same rfl hv, h.2.2.1.same rfl hv, h.2.2.2.1.moved (by rw [hv]; exact Vm.Alike.refl _), h.2.2.2.2.1.moved (by rw [hv]; exact Vm.Alike.refl _), h.2.2.2.2.2.moved (by rw [hv]; exact Vm.Alike.refl _)⟩
def x_K (G : XG) (U : State) : Prop := va_K G.2.2.2 vwCl (x_tys G) U ∧ va_Nc RX0 RX2 U ∧ va_Nc RX0 RX8 U ∧ va_Nc RX2 RX8 U ∧ x_X U
theorem x_K.warm {G : XG} {s U : State} (hW : s.WarmedH U.vm) (h : x_K G s) : x_K G U := ⟨h.1.moved hW.alike, h.2.1.moved hW.alike, h.2.2.1.moved hW.alike, h.2.2.2.1.moved hW.alike, h.2.2.2.2.warm hW⟩
theorem x_K.same {G : XG} {s U : State} (hv : s.vm = U.vm) (h : x_K G s) : x_K G U := ⟨h.1.moved (by rw [hv]; exact Vm.Alike.refl _), h.2.1.moved (by rw [hv]; exact Vm.Alike.refl _), h.2.2.1.moved (by rw [hv]; exact Vm.Alike.refl _), h.2.2.2.1.moved (by rw [hv]; exact Vm.Alike.refl _), h.2.2.2.2.same hv⟩
def x_at (G : XG) (h : XH) (H : Heap) : Prop := H.size = G.1 + h.length ∧ va_P G.2.2.2 vwCl (x_W G h) H
abbrev x_A (G : XG) : Nat → Prop := fun q => G.1 ≤ q
abbrev x_ws (M : XM) : List Cond := .code M.1 M.2.1 M.2.2.1 M.2.2.2.1 :: x_gw
def x_Q (G : XG) (Qa : Option Value → XH → Prop) : Array Value → State → Outcome → State → Prop := fun _ st oc t =>
  (∃ (r : Option Value) (h' : XH), oc = .returned (r.map (x_mv G)) ∧ Qa r h' ∧ x_at G h' t.heap ∧ x_K G t) ∧ va_F (x_A G) st t
/-- a method's contract: from the heap h with these arguments it returns, and Qa holds of answer and heap -/
def Con (M : XM) (as : List Value) (h : XH) (Qa : Option Value → XH → Prop) : Prop := ∀ (l : Launch) (G : XG),
  Met l M.1 (x_ws M) M.2.2.2.2 (va_Pc (as.map (x_mv G)) (fun U => x_at G h U.heap ∧ x_K G U)) (x_Q G Qa) M.2.2.2.2.cells M.2.2.2.2.slots (x_A G)
def x_Cx (M : XM) (G : XG) (p : Program) (s : State) (m : MethodId) (args : Array Value) (meth : Method) (c : Code) : Prop :=
  p.tables.exec = Jvm.exec ∧ c.code = M.2.1 ∧ meth.sig.returnType = M.2.2.2.1 ∧ c.maxLocals = M.2.2.1 ∧ s.vm.findClass M.1.cls = some m.cls ∧ (∀ w ∈ x_gw, w.before args s = true) ∧ meth.locks = false ∧ meth.name = M.1.name ∧ x_K G s ∧ G.1 ≤ s.heap.size
abbrev XE : Type := XG → State → Prop
abbrev XZ : Type := XG → List Frame → Array Value → State → State → Prop
def T (M : XM) (E : XE) (Z : XZ) (cu su pc : Nat) (ls : List (Nat × Value)) (st : List Value) (h : XH) : Prop :=
  ∀ (p : Program) (l : Launch) (e : Env) (G : XG) (s : State) (m : MethodId) (args : Array Value) (below : List Frame) (meth : Method) (c : Code) (H : Heap) (locs : List Loc) (rls : Array Slot),
    x_Cx M G p s m args meth c → E G s → x_at G h H → va_S (x_A G) s.heap H locs → lv_has rls M.2.2.1 (ls.map fun q => (q.1, x_mv G q.2)) →
    W p l e M.2.2.2.2 s m args below meth c H locs cu su (Z G below args s) (F0 m pc rls (st.map (x_mv G)))
def x_Z (M : XM) (Qa : Option Value → XH → Prop) : XZ := fun G below args s => MQ below (x_Q G Qa) args s M.2.2.2.2.cells M.2.2.2.2.slots (x_A G)
abbrev x_E : XE := fun _ _ => True
theorem x_args (G : XG) : ∀ (as : List Value) (i : Nat), lv_args i (as.map (x_mv G)) = (lv_args i as).map (fun q => (q.1, x_mv G q.2))
  | [], _ => rfl
  | v :: as, i => by
    simp only [List.map, lv_args, x_mv_cat]
    exact congrArg _ (x_args G as _)
theorem x_lgl (G : XG) (as : List Value) : (lg_sl (as.map (x_mv G))).length = (lg_sl as).length := by
  induction as with
  | nil => rfl
  | cons v as ih =>
    cases v <;> simpa [lg_sl, x_mv, Value.category] using ih
/-- a contract out of a run from the method's entry -/
theorem Con.of {M : XM} {as : List Value} {h : XH} {Qa : Option Value → XH → Prop} (hp : plainName M.1.cls = true) (ha : (lg_sl as).length ≤ M.2.2.1) (hT : T M x_E (x_Z M Qa) 0 0 0 (lv_args 0 as) [] h) : Con M as h Qa := by
  intro l G
  refine Met.ofW (cc := M.2.1) (maxL := M.2.2.1) (ret := M.2.2.2.1) hp rfl ?_
  intro p e s m args below meth c s₁ B hml hv
  obtain ⟨rfl, hat, hK⟩ := hv
  have hts := atoms_spec (ws := x_ws M) B.pre
  have hown : s.vm.findClass M.1.cls = some m.cls := findClass_of_methodNamed B.named
  have hin : meth.name = M.1.name := (name_of_methodNamed B.named B.method).1
  have hl := lv_entry (as.map (x_mv G)) (n := M.2.2.1) (by rw [x_lgl]; exact ha)
  rw [lg_entry_eq]
  rw [x_args] at hl
  exact hT p l e G s m _ below meth c s.heap [] _ ⟨B.exec, B.bytes, B.returns, hml, hown, fun w hw => hts w (List.mem_cons_of_mem _ hw), B.notSynchronized, hin, hK, by rw [hat.1]; omega⟩ trivial hat va_S.rf hl
/-- locals: look up, put -/
def lk : List (Nat × Value) → Nat → Option Value
  | [], _ => none
  | q :: r, i => bif Nat.beq q.1 i then some q.2 else lk r i
def hasK : List (Nat × Value) → Nat → Bool
  | [], _ => false
  | q :: r, i => bif Nat.beq q.1 i then true else hasK r i
def cat1 (v : Value) : Bool := match v with
  | .long _ => false
  | .double _ => false
  | _ => true
def noL : List (Nat × Value) → Nat → Bool
  | [], _ => true
  | q :: r, i => bif Nat.beq (q.1 + 1) i then (bif cat1 q.2 then noL r i else false) else noL r i
def upM : List (Nat × Value) → Nat → Value → List (Nat × Value)
  | [], _, _ => []
  | q :: r, i, v => (bif Nat.beq q.1 i then (i, v) else q) :: upM r i v
def up (l : List (Nat × Value)) (i : Nat) (v : Value) : List (Nat × Value) := bif hasK l i then upM l i v else l ++ [(i, v)]
theorem lk_mem : ∀ {l : List (Nat × Value)} {i : Nat} {v : Value}, lk l i = some v → (i, v) ∈ l
  | [], _, _, h => by simp [lk] at h
  | q :: r, i, v, h => by
    unfold lk at h
    cases hb : Nat.beq q.1 i with
    | true =>
      rw [hb] at h
      have e1 : q.1 = i := Nat.eq_of_beq_eq_true hb
      have e2 : q.2 = v := Option.some.inj h
      rw [← e1, ← e2]
      exact List.mem_cons_self
    | false =>
      rw [hb] at h
      exact List.mem_cons_of_mem _ (lk_mem h)
theorem hasK_no : ∀ {l : List (Nat × Value)} {i : Nat}, hasK l i = false → ∀ q ∈ l, q.1 ≠ i
  | [], _, _, q, hq => by simp at hq
  | p :: r, i, h, q, hq => by
    unfold hasK at h
    cases hb : Nat.beq p.1 i with
    | true => rw [hb] at h; cases h
    | false =>
      rw [hb] at h
      rcases List.mem_cons.mp hq with rfl | hq
      · exact Nat.ne_of_beq_eq_false hb
      · exact hasK_no h q hq
theorem noL_no : ∀ {l : List (Nat × Value)} {i : Nat}, noL l i = true → ∀ q ∈ l, q.1 + 1 = i → q.2.category = 1
  | [], _, _, q, hq => by simp at hq
  | p :: r, i, h, q, hq => by
    intro e
    unfold noL at h
    cases hb : Nat.beq (p.1 + 1) i with
    | true =>
      rw [hb] at h
      cases hc : cat1 p.2 with
      | false => rw [hc] at h; cases h
      | true =>
        rw [hc] at h
        rcases List.mem_cons.mp hq with rfl | hq
        · cases hv : q.2 <;> simp [hv, cat1] at hc <;> rfl
        · exact noL_no h q hq e
    | false =>
      rw [hb] at h
      rcases List.mem_cons.mp hq with rfl | hq
      · exact absurd e (Nat.ne_of_beq_eq_false hb)
      · exact noL_no h q hq e
theorem upM_mem : ∀ {l : List (Nat × Value)} {i : Nat} {v : Value} {q : Nat × Value}, q ∈ upM l i v → q = (i, v) ∨ (q ∈ l ∧ q.1 ≠ i)
  | [], _, _, q, h => by simp [upM] at h
  | p :: r, i, v, q, h => by
    unfold upM at h
    rcases List.mem_cons.mp h with h | h
    · cases hb : Nat.beq p.1 i with
      | true => rw [hb] at h; exact Or.inl h
      | false =>
        rw [hb] at h
        have h : q = p := h
        subst h
        exact Or.inr ⟨List.mem_cons_self, Nat.ne_of_beq_eq_false hb⟩
    · rcases upM_mem h with e | ⟨h1, h2⟩
      · exact Or.inl e
      · exact Or.inr ⟨List.mem_cons_of_mem _ h1, h2⟩
theorem up_mem {l : List (Nat × Value)} {i : Nat} {v : Value} {q : Nat × Value} (h : q ∈ up l i v) : q = (i, v) ∨ (q ∈ l ∧ q.1 ≠ i) := by
  unfold up at h
  cases hb : hasK l i with
  | true => rw [hb] at h; exact upM_mem h
  | false =>
    rw [hb] at h
    rcases List.mem_append.mp h with h | h
    · exact Or.inr ⟨h, hasK_no hb q h⟩
    · exact Or.inl (by simpa using h)
theorem lv_less {ls : Array Slot} {nL : Nat} {l l' : List (Nat × Value)} (h : lv_has ls nL l) (hs : ∀ q ∈ l', q ∈ l) : lv_has ls nL l' := ⟨h.1, h.2.1, fun q hq => h.2.2 q (hs q hq)⟩
theorem up_has1 {G : XG} {ls : Array Slot} {nL i : Nat} {l : List (Nat × Value)} {v : Value} (ho : noL l i = true)
    (h : lv_has ls nL ((i, x_mv G v) :: (l.map fun q => (q.1, x_mv G q.2)).filter (fun q => !(q.1 == i) && !(q.1 + 1 == i && q.2.category == 2)))) : lv_has ls nL ((up l i v).map fun q => (q.1, x_mv G q.2)) := by
  refine lv_less h fun q hq => ?_
  obtain ⟨q0, h1, rfl⟩ := List.mem_map.mp hq
  rcases up_mem h1 with rfl | ⟨h2, h3⟩
  · exact List.mem_cons_self
  · refine List.mem_cons_of_mem _ (List.mem_filter.mpr ⟨List.mem_map.mpr ⟨q0, h2, rfl⟩, ?_⟩)
    simp only [Bool.and_eq_true, Bool.not_eq_true', beq_eq_false_iff_ne, ne_eq, Bool.and_eq_false_iff, x_mv_cat]
    refine ⟨h3, ?_⟩
    by_cases e : q0.1 + 1 = i
    · refine Or.inr ?_
      rw [noL_no ho q0 h2 e]
      decide
    · exact Or.inl e
theorem up_has2 {G : XG} {ls : Array Slot} {nL i : Nat} {l : List (Nat × Value)} {v : Value} (ho : noL l i = true) (hn : hasK l (i + 1) = false)
    (h : lv_has ls nL ((i, x_mv G v) :: (l.map fun q => (q.1, x_mv G q.2)).filter (fun q => !(q.1 == i) && (!(q.1 == i + 1) && !(q.1 + 1 == i && q.2.category == 2))))) : lv_has ls nL ((up l i v).map fun q => (q.1, x_mv G q.2)) := by
  refine lv_less h fun q hq => ?_
  obtain ⟨q0, h1, rfl⟩ := List.mem_map.mp hq
  rcases up_mem h1 with rfl | ⟨h2, h3⟩
  · exact List.mem_cons_self
  · refine List.mem_cons_of_mem _ (List.mem_filter.mpr ⟨List.mem_map.mpr ⟨q0, h2, rfl⟩, ?_⟩)
    simp only [Bool.and_eq_true, Bool.not_eq_true', beq_eq_false_iff_ne, ne_eq, Bool.and_eq_false_iff, x_mv_cat]
    refine ⟨h3, hasK_no hn q0 h2, ?_⟩
    by_cases e : q0.1 + 1 = i
    · refine Or.inr ?_
      rw [noL_no ho q0 h2 e]
      decide
    · exact Or.inl e
theorem lk_at {G : XG} {ls : Array Slot} {nL i : Nat} {l : List (Nat × Value)} {v : Value} (h : lv_has ls nL (l.map fun q => (q.1, x_mv G q.2))) (hk : lk l i = some v) : ls[i]? = some (.val (x_mv G v)) :=
  h.2.2 (i, x_mv G v) (List.mem_map.mpr ⟨(i, v), lk_mem hk, rfl⟩)
end
section
section TR
variable {M : XM} {E : XE} {Z : XZ} {cu su pc : Nat} {ls : List (Nat × Value)} {st : List Value} {h : XH}
theorem T_iconst {n : Int} {v : Int32} (hd : decode M.2.1 pc = .ok (.iconst n, 1)) (hv : Int32.ofInt n = v) (k : T M E Z cu su (pc + 1) ls (.int v :: st) h) : T M E Z cu su pc ls (st) h := by
  intro p l e G s m args below meth c H locs rls C hE hat hS hl
  exact lv_iconst C.1 C.2.1 hd hv (k p l e G s m args below meth c H locs rls C hE hat hS hl)
theorem T_bipush {n : Int} {v : Int32} (hd : decode M.2.1 pc = .ok (.bipush n, 2)) (hv : (Int8.ofInt n).toInt32 = v) (k : T M E Z cu su (pc + 2) ls (.int v :: st) h) : T M E Z cu su pc ls (st) h := by
  intro p l e G s m args below meth c H locs rls C hE hat hS hl
  exact lv_bipush C.1 C.2.1 hd hv (k p l e G s m args below meth c H locs rls C hE hat hS hl)
theorem T_sipush {n : Int} {v : Int32} (hd : decode M.2.1 pc = .ok (.sipush n, 3)) (hv : (Int16.ofInt n).toInt32 = v) (k : T M E Z cu su (pc + 3) ls (.int v :: st) h) : T M E Z cu su pc ls (st) h := by
  intro p l e G s m args below meth c H locs rls C hE hat hS hl
  exact lv_sipush C.1 C.2.1 hd hv (k p l e G s m args below meth c H locs rls C hE hat hS hl)
theorem T_lconst {n : Fin 2} {v : Int64} (hd : decode M.2.1 pc = .ok (.lconst n, 1)) (hv : Int64.ofNat (n : Nat) = v) (k : T M E Z cu su (pc + 1) ls (.long v :: st) h) : T M E Z cu su pc ls (st) h := by
  intro p l e G s m args below meth c H locs rls C hE hat hS hl
  exact lv_lconst C.1 C.2.1 hd hv (k p l e G s m args below meth c H locs rls C hE hat hS hl)
theorem T_iload_n {n : Fin 4} {x : Int32} (hd : decode M.2.1 pc = .ok (.iload_n n, 1)) (hv : lk ls n = some (.int x)) (k : T M E Z cu su (pc + 1) ls (.int x :: st) h) : T M E Z cu su pc ls (st) h := by
  intro p l e G s m args below meth c H locs rls C hE hat hS hl
  exact lv_iload_n C.1 C.2.1 hd rfl (lk_at hl hv) (k p l e G s m args below meth c H locs rls C hE hat hS hl)
theorem T_iload {n : Nat} {x : Int32} (hd : decode M.2.1 pc = .ok (.iload n, 2)) (hv : lk ls n = some (.int x)) (k : T M E Z cu su (pc + 2) ls (.int x :: st) h) : T M E Z cu su pc ls (st) h := by
  intro p l e G s m args below meth c H locs rls C hE hat hS hl
  exact lv_iload C.1 C.2.1 hd (lk_at hl hv) (k p l e G s m args below meth c H locs rls C hE hat hS hl)
theorem T_lload_n {n : Fin 4} {x : Int64} (hd : decode M.2.1 pc = .ok (.lload_n n, 1)) (hv : lk ls n = some (.long x)) (k : T M E Z cu su (pc + 1) ls (.long x :: st) h) : T M E Z cu su pc ls (st) h := by
  intro p l e G s m args below meth c H locs rls C hE hat hS hl
  exact lv_lload_n C.1 C.2.1 hd rfl (lk_at hl hv) (k p l e G s m args below meth c H locs rls C hE hat hS hl)
theorem T_lload {n : Nat} {x : Int64} (hd : decode M.2.1 pc = .ok (.lload n, 2)) (hv : lk ls n = some (.long x)) (k : T M E Z cu su (pc + 2) ls (.long x :: st) h) : T M E Z cu su pc ls (st) h := by
  intro p l e G s m args below meth c H locs rls C hE hat hS hl
  exact lv_lload C.1 C.2.1 hd (lk_at hl hv) (k p l e G s m args below meth c H locs rls C hE hat hS hl)
theorem T_aload_n {n : Fin 4} {x : Nat} (hd : decode M.2.1 pc = .ok (.aload_n n, 1)) (hv : lk ls n = some (.ref x)) (k : T M E Z cu su (pc + 1) ls (.ref x :: st) h) : T M E Z cu su pc ls (st) h := by
  intro p l e G s m args below meth c H locs rls C hE hat hS hl
  exact lv_aload_n C.1 C.2.1 hd rfl (lk_at hl hv) (k p l e G s m args below meth c H locs rls C hE hat hS hl)
theorem T_aload {n : Nat} {x : Nat} (hd : decode M.2.1 pc = .ok (.aload n, 2)) (hv : lk ls n = some (.ref x)) (k : T M E Z cu su (pc + 2) ls (.ref x :: st) h) : T M E Z cu su pc ls (st) h := by
  intro p l e G s m args below meth c H locs rls C hE hat hS hl
  exact lv_aload C.1 C.2.1 hd (lk_at hl hv) (k p l e G s m args below meth c H locs rls C hE hat hS hl)
theorem T_aload_nS {n : Fin 4} {x : UInt32} (hd : decode M.2.1 pc = .ok (.aload_n n, 1)) (hv : lk ls n = some (.float x)) (k : T M E Z cu su (pc + 1) ls (.float x :: st) h) : T M E Z cu su pc ls (st) h := by
  intro p l e G s m args below meth c H locs rls C hE hat hS hl
  exact lv_aload_n C.1 C.2.1 hd rfl (lk_at hl hv) (k p l e G s m args below meth c H locs rls C hE hat hS hl)
theorem T_iadd {x y : Int32} (hd : decode M.2.1 pc = .ok (.iadd, 1)) (k : T M E Z cu su (pc + 1) ls (.int (x + y) :: st) h) : T M E Z cu su pc ls (.int y :: .int x :: st) h := by
  intro p l e G s m args below meth c H locs rls C hE hat hS hl
  exact lv_iadd C.1 C.2.1 hd (k p l e G s m args below meth c H locs rls C hE hat hS hl)
theorem T_isub {x y : Int32} (hd : decode M.2.1 pc = .ok (.isub, 1)) (k : T M E Z cu su (pc + 1) ls (.int (x - y) :: st) h) : T M E Z cu su pc ls (.int y :: .int x :: st) h := by
  intro p l e G s m args below meth c H locs rls C hE hat hS hl
  exact lv_isub C.1 C.2.1 hd (k p l e G s m args below meth c H locs rls C hE hat hS hl)
theorem T_imul {x y : Int32} (hd : decode M.2.1 pc = .ok (.imul, 1)) (k : T M E Z cu su (pc + 1) ls (.int (x * y) :: st) h) : T M E Z cu su pc ls (.int y :: .int x :: st) h := by
  intro p l e G s m args below meth c H locs rls C hE hat hS hl
  exact lv_imul C.1 C.2.1 hd (k p l e G s m args below meth c H locs rls C hE hat hS hl)
theorem T_iand {x y : Int32} (hd : decode M.2.1 pc = .ok (.iand, 1)) (k : T M E Z cu su (pc + 1) ls (.int (x &&& y) :: st) h) : T M E Z cu su pc ls (.int y :: .int x :: st) h := by
  intro p l e G s m args below meth c H locs rls C hE hat hS hl
  exact lv_iand C.1 C.2.1 hd (k p l e G s m args below meth c H locs rls C hE hat hS hl)
theorem T_ior {x y : Int32} (hd : decode M.2.1 pc = .ok (.ior, 1)) (k : T M E Z cu su (pc + 1) ls (.int (x ||| y) :: st) h) : T M E Z cu su pc ls (.int y :: .int x :: st) h := by
  intro p l e G s m args below meth c H locs rls C hE hat hS hl
  exact lv_ior C.1 C.2.1 hd (k p l e G s m args below meth c H locs rls C hE hat hS hl)
theorem T_ixor {x y : Int32} (hd : decode M.2.1 pc = .ok (.ixor, 1)) (k : T M E Z cu su (pc + 1) ls (.int (x ^^^ y) :: st) h) : T M E Z cu su pc ls (.int y :: .int x :: st) h := by
  intro p l e G s m args below meth c H locs rls C hE hat hS hl
  exact lv_ixor C.1 C.2.1 hd (k p l e G s m args below meth c H locs rls C hE hat hS hl)
theorem T_ishl {x y : Int32} (hd : decode M.2.1 pc = .ok (.ishl, 1)) (k : T M E Z cu su (pc + 1) ls (.int (x <<< (y &&& 31)) :: st) h) : T M E Z cu su pc ls (.int y :: .int x :: st) h := by
  intro p l e G s m args below meth c H locs rls C hE hat hS hl
  exact lv_ishl C.1 C.2.1 hd (k p l e G s m args below meth c H locs rls C hE hat hS hl)
theorem T_ishr {x y : Int32} (hd : decode M.2.1 pc = .ok (.ishr, 1)) (k : T M E Z cu su (pc + 1) ls (.int (x >>> (y &&& 31)) :: st) h) : T M E Z cu su pc ls (.int y :: .int x :: st) h := by
  intro p l e G s m args below meth c H locs rls C hE hat hS hl
  exact lv_ishr C.1 C.2.1 hd (k p l e G s m args below meth c H locs rls C hE hat hS hl)
theorem T_idiv {x y : Int32} (hd : decode M.2.1 pc = .ok (.idiv, 1)) (hne : ¬ y = 0) (k : T M E Z cu su (pc + 1) ls (.int (x / y) :: st) h) : T M E Z cu su pc ls (.int y :: .int x :: st) h := by
  intro p l e G s m args below meth c H locs rls C hE hat hS hl
  exact lv_idiv C.1 C.2.1 hd hne (k p l e G s m args below meth c H locs rls C hE hat hS hl)
theorem T_irem {x y : Int32} (hd : decode M.2.1 pc = .ok (.irem, 1)) (hne : ¬ y = 0) (k : T M E Z cu su (pc + 1) ls (.int (x - x / y * y) :: st) h) : T M E Z cu su pc ls (.int y :: .int x :: st) h := by
  intro p l e G s m args below meth c H locs rls C hE hat hS hl
  exact lv_irem C.1 C.2.1 hd hne (k p l e G s m args below meth c H locs rls C hE hat hS hl)
theorem T_ladd {x y : Int64} (hd : decode M.2.1 pc = .ok (.ladd, 1)) (k : T M E Z cu su (pc + 1) ls (.long (x + y) :: st) h) : T M E Z cu su pc ls (.long y :: .long x :: st) h := by
  intro p l e G s m args below meth c H locs rls C hE hat hS hl
  exact lv_ladd C.1 C.2.1 hd (k p l e G s m args below meth c H locs rls C hE hat hS hl)
theorem T_land {x y : Int64} (hd : decode M.2.1 pc = .ok (.land, 1)) (k : T M E Z cu su (pc + 1) ls (.long (x &&& y) :: st) h) : T M E Z cu su pc ls (.long y :: .long x :: st) h := by
  intro p l e G s m args below meth c H locs rls C hE hat hS hl
  exact lv_land C.1 C.2.1 hd (k p l e G s m args below meth c H locs rls C hE hat hS hl)
theorem T_lor {x y : Int64} (hd : decode M.2.1 pc = .ok (.lor, 1)) (k : T M E Z cu su (pc + 1) ls (.long (x ||| y) :: st) h) : T M E Z cu su pc ls (.long y :: .long x :: st) h := by
  intro p l e G s m args below meth c H locs rls C hE hat hS hl
  exact lv_lor C.1 C.2.1 hd (k p l e G s m args below meth c H locs rls C hE hat hS hl)
theorem T_ldiv {x y : Int64} (hd : decode M.2.1 pc = .ok (.ldiv, 1)) (hne : ¬ y = 0) (k : T M E Z cu su (pc + 1) ls (.long (x / y) :: st) h) : T M E Z cu su pc ls (.long y :: .long x :: st) h := by
  intro p l e G s m args below meth c H locs rls C hE hat hS hl
  exact lv_ldiv C.1 C.2.1 hd hne (k p l e G s m args below meth c H locs rls C hE hat hS hl)
theorem T_lrem {x y : Int64} (hd : decode M.2.1 pc = .ok (.lrem, 1)) (hne : ¬ y = 0) (k : T M E Z cu su (pc + 1) ls (.long (x - x / y * y) :: st) h) : T M E Z cu su pc ls (.long y :: .long x :: st) h := by
  intro p l e G s m args below meth c H locs rls C hE hat hS hl
  exact lv_lrem C.1 C.2.1 hd hne (k p l e G s m args below meth c H locs rls C hE hat hS hl)
theorem T_i2l {x : Int32} (hd : decode M.2.1 pc = .ok (.i2l, 1)) (k : T M E Z cu su (pc + 1) ls (.long x.toInt64 :: st) h) : T M E Z cu su pc ls (.int x :: st) h := by
  intro p l e G s m args below meth c H locs rls C hE hat hS hl
  exact lv_i2l C.1 C.2.1 hd rfl (k p l e G s m args below meth c H locs rls C hE hat hS hl)
theorem T_i2b {x : Int32} (hd : decode M.2.1 pc = .ok (.i2b, 1)) (k : T M E Z cu su (pc + 1) ls (.int x.toInt8.toInt32 :: st) h) : T M E Z cu su pc ls (.int x :: st) h := by
  intro p l e G s m args below meth c H locs rls C hE hat hS hl
  exact lv_i2b C.1 C.2.1 hd rfl (k p l e G s m args below meth c H locs rls C hE hat hS hl)
theorem T_i2s {x : Int32} (hd : decode M.2.1 pc = .ok (.i2s, 1)) (k : T M E Z cu su (pc + 1) ls (.int x.toInt16.toInt32 :: st) h) : T M E Z cu su pc ls (.int x :: st) h := by
  intro p l e G s m args below meth c H locs rls C hE hat hS hl
  exact lv_i2s C.1 C.2.1 hd rfl (k p l e G s m args below meth c H locs rls C hE hat hS hl)
theorem T_lushr {x : Int64} {y : Int32} (hd : decode M.2.1 pc = .ok (.lushr, 1)) (k : T M E Z cu su (pc + 1) ls (.long (x.toUInt64 >>> (y.toInt64.toUInt64 &&& Int64.toUInt64 63)).toInt64 :: st) h) : T M E Z cu su pc ls (.int y :: .long x :: st) h := by
  intro p l e G s m args below meth c H locs rls C hE hat hS hl
  exact lv_lushr C.1 C.2.1 hd rfl (k p l e G s m args below meth c H locs rls C hE hat hS hl)
theorem T_lshl {x : Int64} {y : Int32} (hd : decode M.2.1 pc = .ok (.lshl, 1)) (k : T M E Z cu su (pc + 1) ls (.long (x <<< (y.toInt64 &&& 63)) :: st) h) : T M E Z cu su pc ls (.int y :: .long x :: st) h := by
  intro p l e G s m args below meth c H locs rls C hE hat hS hl
  exact lv_lshl C.1 C.2.1 hd rfl (k p l e G s m args below meth c H locs rls C hE hat hS hl)
theorem T_lcmp {x y : Int64} (hd : decode M.2.1 pc = .ok (.lcmp, 1)) (k : T M E Z cu su (pc + 1) ls (.int (lg_cmp x y) :: st) h) : T M E Z cu su pc ls (.long y :: .long x :: st) h := by
  intro p l e G s m args below meth c H locs rls C hE hat hS hl
  exact W.lcmp C.1 C.2.1 hd (k p l e G s m args below meth c H locs rls C hE hat hS hl)
theorem T_dup {v : Value} (hd : decode M.2.1 pc = .ok (.dup, 1)) (hv : v.category = 1) (k : T M E Z cu su (pc + 1) ls (v :: v :: st) h) : T M E Z cu su pc ls (v :: st) h := by
  intro p l e G s m args below meth c H locs rls C hE hat hS hl
  exact lv_dup C.1 C.2.1 hd (by rw [x_mv_cat]; exact hv) (k p l e G s m args below meth c H locs rls C hE hat hS hl)
theorem T_pop {v : Value} (hd : decode M.2.1 pc = .ok (.pop, 1)) (hv : v.category = 1) (k : T M E Z cu su (pc + 1) ls (st) h) : T M E Z cu su pc ls (v :: st) h := by
  intro p l e G s m args below meth c H locs rls C hE hat hS hl
  exact lv_pop C.1 C.2.1 hd (by rw [x_mv_cat]; exact hv) (k p l e G s m args below meth c H locs rls C hE hat hS hl)
theorem T_dup2 {v w : Value} (hd : decode M.2.1 pc = .ok (.dup2, 1)) (hv : v.category = 1) (hw : w.category = 1) (k : T M E Z cu su (pc + 1) ls (v :: w :: v :: w :: st) h) : T M E Z cu su pc ls (v :: w :: st) h := by
  intro p l e G s m args below meth c H locs rls C hE hat hS hl
  exact lv_dup2_11 C.1 C.2.1 hd (by rw [x_mv_cat]; exact hv) (by rw [x_mv_cat]; exact hw) (k p l e G s m args below meth c H locs rls C hE hat hS hl)
theorem T_istore_n {n : Fin 4} {x : Int32} (hd : decode M.2.1 pc = .ok (.istore_n n, 1)) (hn : (n : Nat) < M.2.2.1) (ho : noL ls n = true) (k : T M E Z cu su (pc + 1) (up ls n (.int x)) st h) : T M E Z cu su pc ls (.int x :: st) h := by
  intro p l e G s m args below meth c H locs rls C hE hat hS hl
  exact lv_istore_n C.1 C.2.1 hd rfl hl hn rfl (fun rls2 hl2 => k p l e G s m args below meth c H locs rls2 C hE hat hS (up_has1 ho hl2))
theorem T_istore {n : Nat} {x : Int32} (hd : decode M.2.1 pc = .ok (.istore n, 2)) (hn : (n : Nat) < M.2.2.1) (ho : noL ls n = true) (k : T M E Z cu su (pc + 2) (up ls n (.int x)) st h) : T M E Z cu su pc ls (.int x :: st) h := by
  intro p l e G s m args below meth c H locs rls C hE hat hS hl
  exact lv_istore C.1 C.2.1 hd hl hn rfl (fun rls2 hl2 => k p l e G s m args below meth c H locs rls2 C hE hat hS (up_has1 ho hl2))
theorem T_astore_n {n : Fin 4} {x : Nat} (hd : decode M.2.1 pc = .ok (.astore_n n, 1)) (hn : (n : Nat) < M.2.2.1) (ho : noL ls n = true) (k : T M E Z cu su (pc + 1) (up ls n (.ref x)) st h) : T M E Z cu su pc ls (.ref x :: st) h := by
  intro p l e G s m args below meth c H locs rls C hE hat hS hl
  exact lv_astore_n C.1 C.2.1 hd rfl hl hn rfl (fun rls2 hl2 => k p l e G s m args below meth c H locs rls2 C hE hat hS (up_has1 ho hl2))
theorem T_astore {n : Nat} {x : Nat} (hd : decode M.2.1 pc = .ok (.astore n, 2)) (hn : (n : Nat) < M.2.2.1) (ho : noL ls n = true) (k : T M E Z cu su (pc + 2) (up ls n (.ref x)) st h) : T M E Z cu su pc ls (.ref x :: st) h := by
  intro p l e G s m args below meth c H locs rls C hE hat hS hl
  exact lv_astore C.1 C.2.1 hd hl hn rfl (fun rls2 hl2 => k p l e G s m args below meth c H locs rls2 C hE hat hS (up_has1 ho hl2))
theorem T_lstore {n : Nat} {x : Int64} (hd : decode M.2.1 pc = .ok (.lstore n, 2)) (hn : (n : Nat) + 1 < M.2.2.1) (ho : noL ls n = true) (hn2 : hasK ls (n + 1) = false) (k : T M E Z cu su (pc + 2) (up ls n (.long x)) st h) : T M E Z cu su pc ls (.long x :: st) h := by
  intro p l e G s m args below meth c H locs rls C hE hat hS hl
  exact lv_lstore C.1 C.2.1 hd hl hn rfl (fun rls2 hl2 => k p l e G s m args below meth c H locs rls2 C hE hat hS (up_has2 ho hn2 hl2))
theorem T_iinc {n : Nat} {d : Int} {x : Int32} (hd : decode M.2.1 pc = .ok (.iinc n d, 3)) (hv : lk ls n = some (.int x)) (hn : n < M.2.2.1) (ho : noL ls n = true) (k : T M E Z cu su (pc + 3) (up ls n (.int (x + Int32.ofInt d))) st h) : T M E Z cu su pc ls st h := by
  intro p l e G s m args below meth c H locs rls C hE hat hS hl
  obtain ⟨j, hj⟩ := List.getElem?_of_mem (List.mem_map.mpr ⟨(n, Value.int x), lk_mem hv, rfl⟩ : (n, x_mv G (.int x)) ∈ ls.map fun q => (q.1, x_mv G q.2))
  exact lv_iinc C.1 C.2.1 hd hl hj rfl hn rfl (fun rls2 hl2 => k p l e G s m args below meth c H locs rls2 C hE hat hS (up_has1 (v := .int (x + Int32.ofInt d)) ho hl2))
theorem T_if_eq {x : Int32} {off : Int} {tgt : Nat} (hd : decode M.2.1 pc = .ok (.ifCond .eq off, 3)) (ht : (pc : Int) + off = (tgt : Int)) (kt : x = 0 → T M E Z cu su tgt ls st h) (kf : ¬ x = 0 → T M E Z cu su (pc + 3) ls st h) : T M E Z cu su pc ls (.int x :: st) h := by
  intro p l e G s m args below meth c H locs rls C hE hat hS hl
  exact lv_if_eq C.1 C.2.1 hd ht (fun q => kt q p l e G s m args below meth c H locs rls C hE hat hS hl) (fun q => kf q p l e G s m args below meth c H locs rls C hE hat hS hl)
theorem T_icmp_eq {x y : Int32} {off : Int} {tgt : Nat} (hd : decode M.2.1 pc = .ok (.if_icmp .eq off, 3)) (ht : (pc : Int) + off = (tgt : Int)) (kt : x = y → T M E Z cu su tgt ls st h) (kf : ¬ x = y → T M E Z cu su (pc + 3) ls st h) : T M E Z cu su pc ls (.int y :: .int x :: st) h := by
  intro p l e G s m args below meth c H locs rls C hE hat hS hl
  exact lv_icmp_eq C.1 C.2.1 hd ht (fun q => kt q p l e G s m args below meth c H locs rls C hE hat hS hl) (fun q => kf q p l e G s m args below meth c H locs rls C hE hat hS hl)
theorem T_if_ne {x : Int32} {off : Int} {tgt : Nat} (hd : decode M.2.1 pc = .ok (.ifCond .ne off, 3)) (ht : (pc : Int) + off = (tgt : Int)) (kt : ¬ x = 0 → T M E Z cu su tgt ls st h) (kf : x = 0 → T M E Z cu su (pc + 3) ls st h) : T M E Z cu su pc ls (.int x :: st) h := by
  intro p l e G s m args below meth c H locs rls C hE hat hS hl
  exact lv_if_ne C.1 C.2.1 hd ht (fun q => kt q p l e G s m args below meth c H locs rls C hE hat hS hl) (fun q => kf q p l e G s m args below meth c H locs rls C hE hat hS hl)
theorem T_icmp_ne {x y : Int32} {off : Int} {tgt : Nat} (hd : decode M.2.1 pc = .ok (.if_icmp .ne off, 3)) (ht : (pc : Int) + off = (tgt : Int)) (kt : ¬ x = y → T M E Z cu su tgt ls st h) (kf : x = y → T M E Z cu su (pc + 3) ls st h) : T M E Z cu su pc ls (.int y :: .int x :: st) h := by
  intro p l e G s m args below meth c H locs rls C hE hat hS hl
  exact lv_icmp_ne C.1 C.2.1 hd ht (fun q => kt q p l e G s m args below meth c H locs rls C hE hat hS hl) (fun q => kf q p l e G s m args below meth c H locs rls C hE hat hS hl)
theorem T_if_lt {x : Int32} {off : Int} {tgt : Nat} (hd : decode M.2.1 pc = .ok (.ifCond .lt off, 3)) (ht : (pc : Int) + off = (tgt : Int)) (kt : x < 0 → T M E Z cu su tgt ls st h) (kf : ¬ x < 0 → T M E Z cu su (pc + 3) ls st h) : T M E Z cu su pc ls (.int x :: st) h := by
  intro p l e G s m args below meth c H locs rls C hE hat hS hl
  exact lv_if_lt C.1 C.2.1 hd ht (fun q => kt q p l e G s m args below meth c H locs rls C hE hat hS hl) (fun q => kf q p l e G s m args below meth c H locs rls C hE hat hS hl)
theorem T_icmp_lt {x y : Int32} {off : Int} {tgt : Nat} (hd : decode M.2.1 pc = .ok (.if_icmp .lt off, 3)) (ht : (pc : Int) + off = (tgt : Int)) (kt : x < y → T M E Z cu su tgt ls st h) (kf : ¬ x < y → T M E Z cu su (pc + 3) ls st h) : T M E Z cu su pc ls (.int y :: .int x :: st) h := by
  intro p l e G s m args below meth c H locs rls C hE hat hS hl
  exact lv_icmp_lt C.1 C.2.1 hd ht (fun q => kt q p l e G s m args below meth c H locs rls C hE hat hS hl) (fun q => kf q p l e G s m args below meth c H locs rls C hE hat hS hl)
theorem T_if_ge {x : Int32} {off : Int} {tgt : Nat} (hd : decode M.2.1 pc = .ok (.ifCond .ge off, 3)) (ht : (pc : Int) + off = (tgt : Int)) (kt : 0 ≤ x → T M E Z cu su tgt ls st h) (kf : ¬ 0 ≤ x → T M E Z cu su (pc + 3) ls st h) : T M E Z cu su pc ls (.int x :: st) h := by
  intro p l e G s m args below meth c H locs rls C hE hat hS hl
  exact lv_if_ge C.1 C.2.1 hd ht (fun q => kt q p l e G s m args below meth c H locs rls C hE hat hS hl) (fun q => kf q p l e G s m args below meth c H locs rls C hE hat hS hl)
theorem T_icmp_ge {x y : Int32} {off : Int} {tgt : Nat} (hd : decode M.2.1 pc = .ok (.if_icmp .ge off, 3)) (ht : (pc : Int) + off = (tgt : Int)) (kt : y ≤ x → T M E Z cu su tgt ls st h) (kf : ¬ y ≤ x → T M E Z cu su (pc + 3) ls st h) : T M E Z cu su pc ls (.int y :: .int x :: st) h := by
  intro p l e G s m args below meth c H locs rls C hE hat hS hl
  exact lv_icmp_ge C.1 C.2.1 hd ht (fun q => kt q p l e G s m args below meth c H locs rls C hE hat hS hl) (fun q => kf q p l e G s m args below meth c H locs rls C hE hat hS hl)
theorem T_if_gt {x : Int32} {off : Int} {tgt : Nat} (hd : decode M.2.1 pc = .ok (.ifCond .gt off, 3)) (ht : (pc : Int) + off = (tgt : Int)) (kt : 0 < x → T M E Z cu su tgt ls st h) (kf : ¬ 0 < x → T M E Z cu su (pc + 3) ls st h) : T M E Z cu su pc ls (.int x :: st) h := by
  intro p l e G s m args below meth c H locs rls C hE hat hS hl
  exact lv_if_gt C.1 C.2.1 hd ht (fun q => kt q p l e G s m args below meth c H locs rls C hE hat hS hl) (fun q => kf q p l e G s m args below meth c H locs rls C hE hat hS hl)
theorem T_icmp_gt {x y : Int32} {off : Int} {tgt : Nat} (hd : decode M.2.1 pc = .ok (.if_icmp .gt off, 3)) (ht : (pc : Int) + off = (tgt : Int)) (kt : y < x → T M E Z cu su tgt ls st h) (kf : ¬ y < x → T M E Z cu su (pc + 3) ls st h) : T M E Z cu su pc ls (.int y :: .int x :: st) h := by
  intro p l e G s m args below meth c H locs rls C hE hat hS hl
  exact lv_icmp_gt C.1 C.2.1 hd ht (fun q => kt q p l e G s m args below meth c H locs rls C hE hat hS hl) (fun q => kf q p l e G s m args below meth c H locs rls C hE hat hS hl)
theorem T_if_le {x : Int32} {off : Int} {tgt : Nat} (hd : decode M.2.1 pc = .ok (.ifCond .le off, 3)) (ht : (pc : Int) + off = (tgt : Int)) (kt : x ≤ 0 → T M E Z cu su tgt ls st h) (kf : ¬ x ≤ 0 → T M E Z cu su (pc + 3) ls st h) : T M E Z cu su pc ls (.int x :: st) h := by
  intro p l e G s m args below meth c H locs rls C hE hat hS hl
  exact lv_if_le C.1 C.2.1 hd ht (fun q => kt q p l e G s m args below meth c H locs rls C hE hat hS hl) (fun q => kf q p l e G s m args below meth c H locs rls C hE hat hS hl)
theorem T_icmp_le {x y : Int32} {off : Int} {tgt : Nat} (hd : decode M.2.1 pc = .ok (.if_icmp .le off, 3)) (ht : (pc : Int) + off = (tgt : Int)) (kt : x ≤ y → T M E Z cu su tgt ls st h) (kf : ¬ x ≤ y → T M E Z cu su (pc + 3) ls st h) : T M E Z cu su pc ls (.int y :: .int x :: st) h := by
  intro p l e G s m args below meth c H locs rls C hE hat hS hl
  exact lv_icmp_le C.1 C.2.1 hd ht (fun q => kt q p l e G s m args below meth c H locs rls C hE hat hS hl) (fun q => kf q p l e G s m args below meth c H locs rls C hE hat hS hl)
theorem T_goto {off : Int} {tgt : Nat} (hd : decode M.2.1 pc = .ok (.goto off, 3)) (ht : (pc : Int) + off = (tgt : Int)) (k : T M E Z cu su tgt ls st h) : T M E Z cu su pc ls st h := by
  intro p l e G s m args below meth c H locs rls C hE hat hS hl
  exact lv_goto C.1 C.2.1 hd ht (k p l e G s m args below meth c H locs rls C hE hat hS hl)
theorem T_lookup {dflt : Int} {ps : Array (Int × Int)} {len : Nat} {x : Int32} {off : Int} {tgt : Nat} (hd : decode M.2.1 pc = .ok (.lookupswitch dflt ps, len)) (hp : (ps.toList.zip (ps.toList.drop 1)).all (fun (a, next) => a.1 < next.1) = true) (ho : Op.lookupswitch.offset ps.toList dflt x.toInt = off) (ht : (pc : Int) + off = (tgt : Int)) (k : T M E Z cu su tgt ls st h) : T M E Z cu su pc ls (.int x :: st) h := by
  intro p l e G s m args below meth c H locs rls C hE hat hS hl
  exact lv_lookup C.1 C.2.1 hd hp ho ht (k p l e G s m args below meth c H locs rls C hE hat hS hl)
theorem T_tableOut {dflt lo hi : Int} {offs : Array Int} {len : Nat} {x : Int32} {tgt : Nat} (hd : decode M.2.1 pc = .ok (.tableswitch dflt lo hi offs, len)) (hx : x.toInt < lo ∨ hi < x.toInt) (ht : (pc : Int) + dflt = (tgt : Int)) (k : T M E Z cu su tgt ls st h) : T M E Z cu su pc ls (.int x :: st) h := by
  intro p l e G s m args below meth c H locs rls C hE hat hS hl
  exact lv_tableOut C.1 C.2.1 hd hx ht (k p l e G s m args below meth c H locs rls C hE hat hS hl)
theorem T_tableIn {dflt lo hi : Int} {offs : Array Int} {len : Nat} {x : Int32} {off : Int} {tgt : Nat} (hd : decode M.2.1 pc = .ok (.tableswitch dflt lo hi offs, len)) (h1 : ¬ x.toInt < lo) (h2 : ¬ hi < x.toInt) (ho : offs[(x.toInt - lo).toNat]? = some off) (ht : (pc : Int) + off = (tgt : Int)) (k : T M E Z cu su tgt ls st h) : T M E Z cu su pc ls (.int x :: st) h := by
  intro p l e G s m args below meth c H locs rls C hE hat hS hl
  exact lv_tableIn C.1 C.2.1 hd h1 h2 ho ht (k p l e G s m args below meth c H locs rls C hE hat hS hl)
theorem T_ldc2 {idx : Nat} {v : Int64} (hd : decode M.2.1 pc = .ok (.ldc2_w idx, 3)) (hw : Cond.constantLong M.1.cls idx v ∈ x_gw) (k : T M E Z cu su (pc + 3) ls (.long v :: st) h) : T M E Z cu su pc ls st h := by
  intro p l e G s m args below meth c H locs rls C hE hat hS hl
  exact lv_ldc2 C.1 C.2.1 C.2.2.2.2.1 (C.2.2.2.2.2.1 _ hw) hd (k p l e G s m args below meth c H locs rls C hE hat hS hl)
theorem T_less {ls2 : List (Nat × Value)} (hs : ∀ q ∈ ls2, q ∈ ls) (k : T M E Z cu su pc ls2 st h) : T M E Z cu su pc ls st h := by
  intro p l e G s m args below meth c H locs rls C hE hat hS hl
  refine k p l e G s m args below meth c H locs rls C hE hat hS (lv_less hl fun q hq => ?_)
  obtain ⟨q0, h1, rfl⟩ := List.mem_map.mp hq
  exact List.mem_map.mpr ⟨q0, hs q0 h1, rfl⟩
theorem T_wide {cu2 su2 : Nat} (h1 : cu ≤ cu2) (h2 : su ≤ su2) (k : T M E Z cu2 su2 pc ls st h) : T M E Z cu su pc ls st h := by
  intro p l e G s m args below meth c H locs rls C hE hat hS hl
  exact W.widen h1 h2 (k p l e G s m args below meth c H locs rls C hE hat hS hl)
theorem T_iret {Qa : Option Value → XH → Prop} {v : Int32} (hd : decode M.2.1 pc = .ok (.ireturn, 1)) (hr : M.2.2.2.1 = some .int) (h1 : cu ≤ M.2.2.2.2.cells) (h2 : su ≤ M.2.2.2.2.slots) (hq : Qa (some (.int v)) h) : T M E (x_Z M Qa) cu su pc ls [.int v] h := by
  intro p l e G s m args below meth c H locs rls C hE hat hS hl
  refine W.widen h1 h2 ?_
  exact W.iret (v := v) C.1 C.2.1 (C.2.2.1.trans hr) (fun t ht hW => ⟨⟨_, h, rfl, hq, by rw [ht]; exact hat, C.2.2.2.2.2.2.2.2.1.warm hW⟩, hS.F ht⟩) hS.2.2 hd C.2.2.2.2.2.2.1
theorem T_zret {Qa : Option Value → XH → Prop} {v : Int32} (hd : decode M.2.1 pc = .ok (.ireturn, 1)) (hr : M.2.2.2.1 = some .boolean) (hz : narrow .boolean (.int v) = .int v) (h1 : cu ≤ M.2.2.2.2.cells) (h2 : su ≤ M.2.2.2.2.slots) (hq : Qa (some (.int v)) h) : T M E (x_Z M Qa) cu su pc ls [.int v] h := by
  intro p l e G s m args below meth c H locs rls C hE hat hS hl
  refine W.widen h1 h2 ?_
  exact W.zret (v := v) (ty := .boolean) C.1 C.2.1 (C.2.2.1.trans hr) hz (fun t ht hW => ⟨⟨_, h, rfl, hq, by rw [ht]; exact hat, C.2.2.2.2.2.2.2.2.1.warm hW⟩, hS.F ht⟩) hS.2.2 hd C.2.2.2.2.2.2.1
theorem T_lret {Qa : Option Value → XH → Prop} {v : Int64} (hd : decode M.2.1 pc = .ok (.lreturn, 1)) (hr : M.2.2.2.1 = some .long) (h1 : cu ≤ M.2.2.2.2.cells) (h2 : su ≤ M.2.2.2.2.slots) (hq : Qa (some (.long v)) h) : T M E (x_Z M Qa) cu su pc ls [.long v] h := by
  intro p l e G s m args below meth c H locs rls C hE hat hS hl
  refine W.widen h1 h2 ?_
  exact W.lret (v := v) C.1 C.2.1 (C.2.2.1.trans hr) (fun t ht hW => ⟨⟨_, h, rfl, hq, by rw [ht]; exact hat, C.2.2.2.2.2.2.2.2.1.warm hW⟩, hS.F ht⟩) hS.2.2 hd C.2.2.2.2.2.2.1
theorem T_vret {Qa : Option Value → XH → Prop}  (hd : decode M.2.1 pc = .ok (.return_, 1)) (hr : M.2.2.2.1 = none) (h1 : cu ≤ M.2.2.2.2.cells) (h2 : su ≤ M.2.2.2.2.slots) (hq : Qa (none) h) : T M E (x_Z M Qa) cu su pc ls [] h := by
  intro p l e G s m args below meth c H locs rls C hE hat hS hl
  refine W.widen h1 h2 ?_
  exact W.vret C.1 C.2.1 (C.2.2.1.trans hr) (fun t ht hW => ⟨⟨none, h, rfl, hq, by rw [ht]; exact hat, C.2.2.2.2.2.2.2.2.1.warm hW⟩, hS.F ht⟩) hS.2.2 hd C.2.2.2.2.2.2.1
theorem T_aret {Qa : Option Value → XH → Prop} {v : Nat} {C0 : String} (hd : decode M.2.1 pc = .ok (.areturn, 1)) (hr : M.2.2.2.1 = some (.object C0)) (h1 : cu ≤ M.2.2.2.2.cells) (h2 : su ≤ M.2.2.2.2.slots) (hq : Qa (some (.ref v)) h) : T M E (x_Z M Qa) cu su pc ls [.ref v] h := by
  intro p l e G s m args below meth c H locs rls C hE hat hS hl
  refine W.widen h1 h2 ?_
  exact W.aret (v := .ref (G.1 + v)) C.1 C.2.1 (C.2.2.1.trans hr) (Or.inl ⟨_, rfl⟩) (Or.inr ⟨_, rfl⟩) (fun t ht hW => ⟨⟨some (.ref v), h, rfl, hq, by rw [ht]; exact hat, C.2.2.2.2.2.2.2.2.1.warm hW⟩, hS.F ht⟩) hS.2.2 hd C.2.2.2.2.2.2.1
theorem T_iald {a n : Nat} {f : Nat → Int32} {i : Int32} (hd : decode M.2.1 pc = .ok (.iaload, 1)) (ha : h[a]? = some (.inl (0, n, .inl f))) (hi : vp_in i n) (k : T M E Z cu su (pc + 1) ls (.int (f i.toNatClampNeg) :: st) h) : T M E Z cu su pc ls (.int i :: .ref a :: st) h := by
  intro p l e G s m args below meth c H locs rls C hE hat hS hl
  exact va_iald C.1 C.2.1 C.2.2.2.2.2.2.2.2.1.1 hat.2 a 0 (x_W_at ha) rfl hi hd (k p l e G s m args below meth c H locs rls C hE hat hS hl)
theorem T_zald {a n : Nat} {f : Nat → Int32} {i : Int32} (hd : decode M.2.1 pc = .ok (.baload, 1)) (ha : h[a]? = some (.inl (2, n, .inl f))) (hi : vp_in i n) (k : T M E Z cu su (pc + 1) ls (.int (f i.toNatClampNeg) :: st) h) : T M E Z cu su pc ls (.int i :: .ref a :: st) h := by
  intro p l e G s m args below meth c H locs rls C hE hat hS hl
  exact va_zald C.1 C.2.1 C.2.2.2.2.2.2.2.2.1.1 hat.2 a 2 (x_W_at ha) rfl hi hd (k p l e G s m args below meth c H locs rls C hE hat hS hl)
theorem T_lald {a n : Nat} {f : Nat → Int64} {i : Int32} (hd : decode M.2.1 pc = .ok (.laload, 1)) (ha : h[a]? = some (.inl (1, n, .inr (.inl f)))) (hi : vp_in i n) (k : T M E Z cu su (pc + 1) ls (.long (f i.toNatClampNeg) :: st) h) : T M E Z cu su pc ls (.int i :: .ref a :: st) h := by
  intro p l e G s m args below meth c H locs rls C hE hat hS hl
  exact va_lald C.1 C.2.1 C.2.2.2.2.2.2.2.2.1.1 hat.2 a 1 (x_W_at ha) rfl hi hd (k p l e G s m args below meth c H locs rls C hE hat hS hl)
theorem T_aald3 {a n v : Nat} {f : Nat → Option Nat} {i : Int32} (hd : decode M.2.1 pc = .ok (.aaload, 1)) (ha : h[a]? = some (.inl (3, n, .inr (.inr f)))) (hi : vp_in i n) (hv : f i.toNatClampNeg = some v) (k : T M E Z cu su (pc + 1) ls (.ref v :: st) h) : T M E Z cu su pc ls (.int i :: .ref a :: st) h := by
  intro p l e G s m args below meth c H locs rls C hE hat hS hl
  refine va_aldq (C := RX5) C.1 C.2.1 C.2.2.2.2.2.2.2.2.1.1 hat.2 a 3 (x_W_at ha) rfl hi hd ?_
  rw [hv]
  exact k p l e G s m args below meth c H locs rls C hE hat hS hl
theorem T_aald4 {a n v : Nat} {f : Nat → Option Nat} {i : Int32} (hd : decode M.2.1 pc = .ok (.aaload, 1)) (ha : h[a]? = some (.inl (4, n, .inr (.inr f)))) (hi : vp_in i n) (hv : f i.toNatClampNeg = some v) (k : T M E Z cu su (pc + 1) ls (.ref v :: st) h) : T M E Z cu su pc ls (.int i :: .ref a :: st) h := by
  intro p l e G s m args below meth c H locs rls C hE hat hS hl
  refine va_aldq (C := RX0) C.1 C.2.1 C.2.2.2.2.2.2.2.2.1.1 hat.2 a 4 (x_W_at ha) rfl hi hd ?_
  rw [hv]
  exact k p l e G s m args below meth c H locs rls C hE hat hS hl
theorem T_aald5 {a n v : Nat} {f : Nat → Option Nat} {i : Int32} (hd : decode M.2.1 pc = .ok (.aaload, 1)) (ha : h[a]? = some (.inl (5, n, .inr (.inr f)))) (hi : vp_in i n) (hv : f i.toNatClampNeg = some v) (k : T M E Z cu su (pc + 1) ls (.ref v :: st) h) : T M E Z cu su pc ls (.int i :: .ref a :: st) h := by
  intro p l e G s m args below meth c H locs rls C hE hat hS hl
  refine va_aldq (C := RX6) C.1 C.2.1 C.2.2.2.2.2.2.2.2.1.1 hat.2 a 5 (x_W_at ha) rfl hi hd ?_
  rw [hv]
  exact k p l e G s m args below meth c H locs rls C hE hat hS hl
theorem T_alen {a t n : Nat} {f : XA} {ty : FieldType} {v : Int32} (hd : decode M.2.1 pc = .ok (.arraylength, 1)) (ha : h[a]? = some (.inl (t, n, f))) (ht : ∀ G : XG, (x_tys G)[t]? = some (G.2.2.1 t, ty)) (hv : Int32.ofNat n = v) (k : T M E Z cu su (pc + 1) ls (.int v :: st) h) : T M E Z cu su pc ls (.ref a :: st) h := by
  intro p l e G s m args below meth c H locs rls C hE hat hS hl
  exact va_alen C.1 C.2.1 C.2.2.2.2.2.2.2.2.1.1 hat.2 a t (x_W_at ha) (ht G) hv hd (k p l e G s m args below meth c H locs rls C hE hat hS hl)
end TR
end
section
/-! THE T LAYER: fields, stores, new cells -/
section TH
variable {M : XM} {E : XE} {Z : XZ} {cu su pc : Nat} {ls : List (Nat × Value)} {st : List Value} {h : XH}
/-- a field link's words: own's entry idx is the field j of the class ci -/
def x_FL (own : String) (idx ci j : Nat) : Prop := ∃ (ref C : String) (F : u_T) (N : Nat), vwCl[ci]? = some (C, F, N) ∧ j < N ∧ (∀ w ∈ u_ws C F N, w ∈ x_gw) ∧ Cond.fieldLink own idx ref (F j).2.1 (F j).2.2.1 ∈ x_gw ∧ (ref = (F j).1 ∨ Cond.sameField ref (F j).1 (F j).2.1 (F j).2.2.1 ∈ x_gw)
/-- and its type, whether it is final -/
def x_FP (own : String) (idx ci j : Nat) (ty : FieldType) (fin : Bool) : Prop := ∃ (ref C : String) (F : u_T) (N : Nat) (ty0 : Nat → FieldType), vwCl[ci]? = some (C, F, N) ∧ j < N ∧ (∀ w ∈ u_ws C F N, w ∈ x_gw) ∧ Cond.fieldLink own idx ref (F j).2.1 (F j).2.2.1 ∈ x_gw ∧ (ref = (F j).1 ∨ Cond.sameField ref (F j).1 (F j).2.1 (F j).2.2.1 ∈ x_gw) ∧
  (∀ k, k < N → parseFieldDescriptor (F k).2.2.1 = some (ty0 k)) ∧ (∀ a, a < N → ∀ b, b < N → a ≠ b → (F a).2.1 ≠ (F b).2.1) ∧ (F j).2.2.2 = fin ∧ parseFieldDescriptor (F j).2.2.1 = some ty ∧ (fin = true → (F j).1 = own)
theorem x_same {G : XG} {p : Program} {s : State} {m : MethodId} {args : Array Value} {meth : Method} {c : Code} (C : x_Cx M G p s m args meth c) {ref O n d : String} (h : ref = O ∨ Cond.sameField ref O n d ∈ x_gw) : ∀ x, s.fieldFound? O n d = some x → s.fieldFound? ref n d = some x := by
  rcases h with rfl | h
  · exact fun _ q => q
  · exact fun x q => u_same (C.2.2.2.2.2.1 _ h) x q
theorem T_get {idx ci j k : Nat} {fs : List Value} {v : Value} (hd : decode M.2.1 pc = .ok (.getfield idx, 3)) (hF : x_FL M.1.cls idx ci j) (hk : h[k]? = some (.inr (ci, fs))) (hv : fs[j]? = some v) (kk : T M E Z cu su (pc + 3) ls (v :: st) h) : T M E Z cu su pc ls (.ref k :: st) h := by
  intro p l e G s m args below meth c H locs rls C hE hat hS hl
  obtain ⟨ref, C0, F, N, hc, hj, hin, hlink, hsame⟩ := hF
  exact va_get (ws := x_W G h) (v := x_mv G v) C.1 C.2.1 C.2.2.2.2.2.1 hin C.2.2.2.2.1 C.2.2.2.2.2.2.2.2.1.1 hat.2 k (x_W_at hk) hc j hj (C.2.2.2.2.2.1 _ hlink) (x_same C hsame) (by rw [List.getElem?_map, hv]; rfl) hd (kk p l e G s m args below meth c H locs rls C hE hat hS hl)
theorem x_at_set {G : XG} {H H1 : Heap} {k : Nat} {c0 c1 : XC} (hat : x_at G h H) (hk : h[k]? = some c0) (z : H1.size = H.size) (oq : ∀ q : Nat, q ≠ G.1 + k → H1[q]? = H[q]?) (he : va_at G.2.2.2 vwCl (G.1 + k, x_mC G c1) H1) : x_at G (h.set k c1) H1 := by
  refine ⟨by rw [List.length_set, z]; exact hat.1, ?_⟩
  rw [← x_W_set]
  exact hat.2.set (x_D G h) (x_W_at hk) he oq
theorem T_put {idx ci j k : Nat} {fs : List Value} {v : Value} {ty : FieldType} (hd : decode M.2.1 pc = .ok (.putfield idx, 3)) (hF : x_FP M.1.cls idx ci j ty false) (hk : h[k]? = some (.inr (ci, fs))) (hj : j < fs.length) (hn : ∀ G : XG, narrow ty (x_mv G v) = x_mv G v ∧ fits ty (x_mv G v) = true) (kk : T M E Z cu su (pc + 3) ls st (h.set k (.inr (ci, fs.set j v)))) : T M E Z cu su pc ls (v :: .ref k :: st) h := by
  intro p l e G s m args below meth c H locs rls C hE hat hS hl
  obtain ⟨ref, C0, F, N, ty0, hc, hjN, hin, hlink, hsame, hty, hnm, hfin, hpd, -⟩ := hF
  have hts := C.2.2.2.2.2.1
  have hK := C.2.2.2.2.2.2.2.2.1.1
  have hap := va_apart (own := M.1.cls) hts hin ty0 hty hnm hK hc
  obtain ⟨r, h1, cell, q1, q2, q3, q4⟩ := hat.2 k _ (x_W_at hk)
  have hr : r = (C0, F, N) := Option.some.inj (h1.symm.trans hc)
  subst hr
  obtain ⟨hSl, hfc, kC, hkC, hkind⟩ := hK.1 ci _ hc
  obtain ⟨cf, kf, fi, f, hi, hsl⟩ := hSl j hjN
  have hlay := hts _ (hin _ (u_in_lay hjN))
  unfold u_lay at hlay
  rw [if_neg (by rw [hfin]; decide)] at hlay
  have hst := (u_facts hfc hkC (u_lays hts hin hjN) hi).1
  have h6 := u_store hfc hkC hkind hlay hi hpd (hn G).1 (hn G).2
  refine W.putK C.1 C.2.1 (f := f) ⟨C.2.2.2.2.1, hts _ hlink, ⟨_, _, _, x_same C hsame _ hi⟩, hst⟩ (by rw [q2]; exact h6) q1 q3 (by rw [hsl]; exact k2_hasslot (q4 j hjN)) rfl rfl hd fun H' e1 e2 e3 => ?_
  rw [hsl] at e1 ⊢
  refine kk p l e G s m args below meth c H' _ rls C hE (x_at_set hat hk e2 e3 ⟨_, hc, ?_⟩) (hS.put e2 e3 (show G.1 ≤ G.1 + k by omega)) hl
  show t_OB _ _ _ _ _ (vp_V ((fs.set j v).map (x_mv G)))
  rw [List.map_set]
  exact t_OB.to (V := updV (vp_V (fs.map (x_mv G))) j (x_mv G v)) ⟨_, e1, q2, q3, t_set q4 hap hjN (x_mv G v)⟩ (fun i _ => vp_updV_set (by rw [List.length_map]; exact hj) (x_mv G v) i)
theorem T_putF {idx ci j k : Nat} {fs : List Value} {v : Value} {ty : FieldType} (hd : decode M.2.1 pc = .ok (.putfield idx, 3)) (hF : x_FP M.1.cls idx ci j ty true) (hin2 : M.1.name = "<init>") (hk : h[k]? = some (.inr (ci, fs))) (hj : j < fs.length) (hn : ∀ G : XG, narrow ty (x_mv G v) = x_mv G v ∧ fits ty (x_mv G v) = true) (kk : T M E Z cu su (pc + 3) ls st (h.set k (.inr (ci, fs.set j v)))) : T M E Z cu su pc ls (v :: .ref k :: st) h := by
  intro p l e G s m args below meth c H locs rls C hE hat hS hl
  obtain ⟨ref, C0, F, N, ty0, hc, hjN, hin, hlink, hsame, hty, hnm, hfin, hpd, hdecl⟩ := hF
  have hdecl := hdecl rfl
  have hts := C.2.2.2.2.2.1
  have hK := C.2.2.2.2.2.2.2.2.1.1
  have hap := va_apart (own := M.1.cls) hts hin ty0 hty hnm hK hc
  obtain ⟨r, h1, cell, q1, q2, q3, q4⟩ := hat.2 k _ (x_W_at hk)
  have hr : r = (C0, F, N) := Option.some.inj (h1.symm.trans hc)
  subst hr
  obtain ⟨hSl, hfc, kC, hkC, hkind⟩ := hK.1 ci _ hc
  obtain ⟨cf, kf, fi, f, hi, hsl⟩ := hSl j hjN
  have hlay := hts _ (hin _ (u_in_lay hjN))
  unfold u_lay at hlay
  rw [if_pos hfin] at hlay
  have hst := (u_facts hfc hkC (u_lays hts hin hjN) hi).1
  have hcf : m.cls = cf := by
    obtain ⟨_, _, c', _, _, _, -, -, hf', -, -, -, hown2, -⟩ := Cond.laysFinal_spec hlay
    have e1 : c' = cf := by have := hi.symm.trans hf'; simp at this; exact this.1.symm
    rw [hdecl] at hown2
    rw [← e1]; exact Option.some.inj (C.2.2.2.2.1.symm.trans hown2)
  have h6 := u_fits hfc hkC hkind (Or.inr hlay) hi hpd (hn G).1 (hn G).2
  refine W.putFinK C.1 C.2.1 C.2.2.2.2.1 (hts _ hlink) (x_same C hsame _ hi) hst hcf (C.2.2.2.2.2.2.2.1.trans hin2) (by rw [q2]; exact h6) q1 q3 (by rw [hsl]; exact k2_hasslot (q4 j hjN)) rfl rfl hd fun H' e1 e2 e3 => ?_
  rw [hsl] at e1 ⊢
  refine kk p l e G s m args below meth c H' _ rls C hE (x_at_set hat hk e2 e3 ⟨_, hc, ?_⟩) (hS.put e2 e3 (show G.1 ≤ G.1 + k by omega)) hl
  show t_OB _ _ _ _ _ (vp_V ((fs.set j v).map (x_mv G)))
  rw [List.map_set]
  exact t_OB.to (V := updV (vp_V (fs.map (x_mv G))) j (x_mv G v)) ⟨_, e1, q2, q3, t_set q4 hap hjN (x_mv G v)⟩ (fun i _ => vp_updV_set (by rw [List.length_map]; exact hj) (x_mv G v) i)
theorem T_iast {a n : Nat} {f : Nat → Int32} {i x : Int32} (hd : decode M.2.1 pc = .ok (.iastore, 1)) (ha : h[a]? = some (.inl (0, n, .inl f))) (hi : vp_in i n) (kk : T M E Z cu su (pc + 1) ls st (h.set a (.inl (0, n, .inl (upd f i.toNatClampNeg x))))) : T M E Z cu su pc ls (.int x :: .int i :: .ref a :: st) h := by
  intro p l e G s m args below meth c H locs rls C hE hat hS hl
  have hK := C.2.2.2.2.2.2.2.2.1.1
  refine W.iast C.1 C.2.1 (hat.2 a _ (x_W_at ha)) ((hK.2 0 _ rfl).1 n (fun j => .int (f j))) (fun q => by cases q) (by show ¬ (i < 0 ∨ (arrV _ _ _).slots.size ≤ _); rw [arrV_size]; exact hi) rfl rfl hd fun H1 e1 z oq => ?_
  refine kk p l e G s m args below meth c H1 _ rls C hE (x_at_set hat ha z oq ?_) (hS.put z oq (show G.1 ≤ G.1 + a by omega)) hl
  show H1[G.1 + a]? = some (vp_cell _ _)
  rw [e1]
  show some _ = some (vp_cell _ (n, Sum.inl _))
  rw [show x_mA G (Sum.inl f) = Sum.inl f from rfl, vp_cell_i, vp_cell_i, arrV_store]
  congr 2
  funext q
  by_cases hq : q = i.toNatClampNeg
  · subst hq
    simp [updV, upd]
  · simp [updV, upd, hq]
theorem T_zast {a n : Nat} {f : Nat → Int32} {i x : Int32} (hd : decode M.2.1 pc = .ok (.bastore, 1)) (ha : h[a]? = some (.inl (2, n, .inl f))) (hi : vp_in i n) (hx : narrow .boolean (.int x) = .int x) (kk : T M E Z cu su (pc + 1) ls st (h.set a (.inl (2, n, .inl (upd f i.toNatClampNeg x))))) : T M E Z cu su pc ls (.int x :: .int i :: .ref a :: st) h := by
  intro p l e G s m args below meth c H locs rls C hE hat hS hl
  have hK := C.2.2.2.2.2.2.2.2.1.1
  refine W.zast C.1 C.2.1 (hat.2 a _ (x_W_at ha)) ((hK.2 2 _ rfl).1 n (fun j => .int (f j))) (fun q => by cases q) (by show ¬ (i < 0 ∨ (arrV _ _ _).slots.size ≤ _); rw [arrV_size]; exact hi) rfl rfl hd fun H1 e1 z oq => ?_
  refine kk p l e G s m args below meth c H1 _ rls C hE (x_at_set hat ha z oq ?_) (hS.put z oq (show G.1 ≤ G.1 + a by omega)) hl
  show H1[G.1 + a]? = some (vp_cell _ _)
  rw [e1]
  show some _ = some (vp_cell _ (n, Sum.inl _))
  rw [show x_mA G (Sum.inl f) = Sum.inl f from rfl, vp_cell_i, vp_cell_i, arrV_store]
  congr 2
  funext q
  by_cases hq : q = i.toNatClampNeg
  · subst hq
    simp [updV, upd, hx]
  · simp [updV, upd, hq]
theorem T_last {a n : Nat} {f : Nat → Int64} {i : Int32} {x : Int64} (hd : decode M.2.1 pc = .ok (.lastore, 1)) (ha : h[a]? = some (.inl (1, n, .inr (.inl f)))) (hi : vp_in i n) (kk : T M E Z cu su (pc + 1) ls st (h.set a (.inl (1, n, .inr (.inl (vp_updL f i.toNatClampNeg x)))))) : T M E Z cu su pc ls (.long x :: .int i :: .ref a :: st) h := by
  intro p l e G s m args below meth c H locs rls C hE hat hS hl
  have hK := C.2.2.2.2.2.2.2.2.1.1
  refine W.last C.1 C.2.1 (hat.2 a _ (x_W_at ha)) ((hK.2 1 _ rfl).1 n (fun j => .long (f j))) (fun q => by cases q) (by show ¬ (i < 0 ∨ (arrV _ _ _).slots.size ≤ _); rw [arrV_size]; exact hi) rfl rfl hd fun H1 e1 z oq => ?_
  refine kk p l e G s m args below meth c H1 _ rls C hE (x_at_set hat ha z oq ?_) (hS.put z oq (show G.1 ≤ G.1 + a by omega)) hl
  show H1[G.1 + a]? = some (vp_cell _ _)
  rw [e1]
  show some _ = some (vp_cell _ (n, Sum.inr (Sum.inl _)))
  rw [show x_mA G (Sum.inr (Sum.inl f)) = Sum.inr (Sum.inl f) from rfl, vp_cell_l, vp_cell_l, arrV_store]
  congr 2
  funext q
  by_cases hq : q = i.toNatClampNeg
  · subst hq
    simp [updV, vp_updL]
  · simp [updV, vp_updL, hq]
/-- a reference into an array: of its own class, or of one that can be cast to it -/
theorem T_aast {t a n v ci : Nat} {f : Nat → Option Nat} {i : Int32} {C0 E0 : String} {F : u_T} {N : Nat} {vs : List Value} (hd : decode M.2.1 pc = .ok (.aastore, 1)) (ht : ∀ G : XG, (x_tys G)[t]? = some (G.2.2.1 t, .object E0)) (ha : h[a]? = some (.inl (t, n, .inr (.inr f)))) (hv : h[v]? = some (.inr (ci, vs))) (hc : vwCl[ci]? = some (C0, F, N)) (hca : C0 = E0 ∨ (C0, E0) ∈ x_cst) (hi : vp_in i n)
    (kk : T M E Z cu su (pc + 1) ls st (h.set a (.inl (t, n, .inr (.inr (va_up f i.toNatClampNeg (some v))))))) : T M E Z cu su pc ls (.ref v :: .int i :: .ref a :: st) h := by
  intro p l e G s m args below meth c H locs rls C hE hat hS hl
  have hK := C.2.2.2.2.2.2.2.2.1.1
  have hlt : i.toNatClampNeg < n := Nat.not_le.mp fun q => hi (Or.inr q)
  have h0 : ¬ i < 0 := fun q => hi (Or.inl q)
  obtain ⟨r', hr', cellV, g1, g2, g3, -⟩ := hat.2 v _ (x_W_at hv)
  have hcls := (hK.1 ci _ hc).2
  obtain ⟨kA, comp, k1, k2, k3, -⟩ := (hK.2 t _ (ht G)).2
  obtain ⟨kE, hkE, -⟩ := Vm.findClass_spec k3
  have hasg : s.vm.assignable (G.2.2.2.1 ci) comp = true := by
    rcases hca with rfl | hca
    · have : comp = G.2.2.2.1 ci := Option.some.inj (k3.symm.trans hcls.1)
      rw [this]
      exact va_assign hcls
    · obtain ⟨c0, t1, f1, f2, f3⟩ := Cond.castable_spec (va_Nw.use (A := args) rfl (C.2.2.2.2.2.2.2.2.1.2.2.2.2.2.1 _ hca))
      cases hcls.1.symm.trans f1
      cases k3.symm.trans f2
      exact f3
  obtain ⟨kC, hkC, -⟩ := hcls.2
  refine W.aast C.1 C.2.1 (hat.2 a _ (x_W_at ha)) (fun q h => by cases h) (fun h => by cases h) k1 k2 rfl hkE ⟨h0, by show _ < (arrV _ _ _).slots.size; rw [arrV_size]; exact hlt⟩ g1 (fun q h => by rw [g3] at h; cases h) (by rw [g2]; exact hkC) (by rw [g2]; exact hasg) rfl rfl hd fun H1 e1 z oq => ?_
  refine kk p l e G s m args below meth c H1 _ rls C hE (x_at_set hat ha z oq ?_) (hS.put z oq (show G.1 ≤ G.1 + a by omega)) hl
  show H1[G.1 + a]? = some (vp_cell _ _)
  rw [e1]
  show some _ = some (vp_cell _ (n, Sum.inr (Sum.inr (Sum.inr (Sum.inr _)))))
  rw [show x_mA G (Sum.inr (Sum.inr f)) = Sum.inr (Sum.inr (Sum.inr (Sum.inr (fun i => (f i).map (fun k => G.1 + k))))) from rfl, vp_cell_q, vp_cell_q, arrV_store]
  congr 2
  funext q
  by_cases hq : q = i.toNatClampNeg
  · subst hq
    simp [updV, va_up, va_rf]
  · simp [updV, va_up, hq]
theorem x_at_push {G : XG} {H H1 : Heap} {c1 : XC} (hat : x_at G h H) (z : H1.size = H.size + 1) (oq : ∀ q : Nat, q < H.size → H1[q]? = H[q]?) (he : va_at G.2.2.2 vwCl (G.1 + h.length, x_mC G c1) H1) : x_at G (h ++ [c1]) H1 := by
  refine ⟨by rw [List.length_append, z, hat.1]; simp; omega, ?_⟩
  rw [← x_W_push]
  refine va_P.app (hat.2.kept fun k x hx => oq x.1 ((hat.2 k x hx).lt)) (fun k x hx => ?_)
  have hz : k < 1 := (List.getElem?_eq_some_iff.mp hx).1
  rw [show k = 0 by omega] at hx
  cases hx
  exact he
theorem x_S_push {G : XG} {H0 H H1 : Heap} {locs : List Loc} (hS : va_S (x_A G) H0 H locs) (z : H1.size = H.size + 1) (oq : ∀ q : Nat, q < H.size → H1[q]? = H[q]?) : va_S (x_A G) H0 H1 locs :=
  ⟨Nat.le_trans hS.1 (by omega), fun x h1 h2 => (oq x (Nat.lt_of_lt_of_le h1 hS.1)).trans (hS.2.1 x h1 h2), hS.2.2⟩
/-- a new object's words -/
def x_NW (own : String) (idx ci N : Nat) (fs : List Value) : Prop := ∃ (C : String) (F : u_T) (ty : Nat → FieldType), vwCl[ci]? = some (C, F, N) ∧ (∀ w ∈ u_ws C F N, w ∈ x_gw) ∧ (∀ k, k < N → parseFieldDescriptor (F k).2.2.1 = some (ty k)) ∧ Cond.classLink own idx C ∈ x_gw ∧ Cond.instantiable C N ∈ x_gw ∧ Cond.initialized C ∈ x_gw ∧ (∀ j, j < N → defaultValue (ty j) = vp_V fs j) ∧ ∀ G : XG, fs.map (x_mv G) = fs
theorem T_new {idx ci N cu2 su2 : Nat} {fs : List Value} (hd : decode M.2.1 pc = .ok (.new idx, 3)) (hN : x_NW M.1.cls idx ci N fs) (h1 : cu + 1 ≤ cu2) (h2 : su + N ≤ su2) (h3 : cu2 ≤ M.2.2.2.2.cells) (h4 : su2 ≤ M.2.2.2.2.slots) (kk : T M E Z cu2 su2 (pc + 3) ls (.ref h.length :: st) (h ++ [.inr (ci, fs)])) : T M E Z cu su pc ls st h := by
  intro p l e G s m args below meth c H locs rls C hE hat hS hl
  obtain ⟨C0, F, ty, hc, hin, hty, hcl, hinst, hini, hfs, hmap⟩ := hN
  have hts := C.2.2.2.2.2.1
  have hK := C.2.2.2.2.2.2.2.2.1.1
  have hKn := hK.1 ci _ hc
  refine W.newcK C.1 C.2.1 C.2.2.2.2.1 (hts _ hcl) (hts _ hinst) (hts _ hini) rfl hd (by omega) (by omega) hKn.2.1 hat.1 fun H1 kC hkC e1 z1 o1 => ?_
  refine W.widen h1 h2 ?_
  rw [← hat.1] at z1 o1
  refine kk p l e G s m args below meth c H1 locs rls C hE (x_at_push hat z1 o1 ⟨_, hc, ?_⟩) (x_S_push hS z1 o1) hl
  show t_OB _ _ _ _ _ (vp_V (fs.map (x_mv G)))
  rw [hmap]
  exact (u_born ty hts hin hKn hkC e1 hty).to hfs
theorem T_newa {t N cu2 su2 : Nat} {atype : ArrayType} {ty : FieldType} {n : Int32} {f : XA} (hd : decode M.2.1 pc = .ok (.newarray atype, 2)) (harr : Cond.arrayClass (newarray.typeOf atype) ∈ x_gw) (hty : newarray.typeOf atype = ty) (ht : ∀ G : XG, (x_tys G)[t]? = some (G.2.2.1 t, ty)) (hp : refKind ty = false) (hf : ∀ (G : XG) (cA : ClassId), vp_cell cA (N, x_mA G f) = arrV cA N (fun _ => defaultValue ty)) (hn : ¬ n < 0) (hN : n.toNatClampNeg = N) (hb : N * componentBytes ty ≤ 536870912)
    (h1 : cu + 1 ≤ cu2) (h2 : su + N ≤ su2) (h3 : cu2 ≤ M.2.2.2.2.cells) (h4 : su2 ≤ M.2.2.2.2.slots) (kk : T M E Z cu2 su2 (pc + 2) ls (.ref h.length :: st) (h ++ [.inl (t, N, f)])) : T M E Z cu su pc ls (.int n :: st) h := by
  intro p l e G s m args below meth c H locs rls C hE hat hS hl
  have hts := C.2.2.2.2.2.1
  have hK := C.2.2.2.2.2.2.2.2.1.1
  subst hty
  refine va_newaK C.1 C.2.1 (hts _ harr) rfl hd rfl hn hN hb (by omega) (by omega) hat.1 fun H1 cA e1 z1 o1 hAr hNm => ?_
  refine W.widen h1 h2 ?_
  rw [← hat.1] at z1 o1
  have hRA := (hK.2 t _ (ht G)).2
  have hcA : G.2.2.1 t = cA := by
    cases atype <;> exact Option.some.inj (hRA.symm.trans hNm)
  refine kk p l e G s m args below meth c H1 locs rls C hE (x_at_push hat z1 o1 ?_) (x_S_push hS z1 o1) hl
  show H1[G.1 + h.length]? = some (vp_cell (G.2.2.1 t) (N, x_mA G f))
  rw [hcA, hf]
  exact e1
theorem T_newq {t idx N cu2 su2 : Nat} {C0 : String} {n : Int32} (hd : decode M.2.1 pc = .ok (.anewarray idx, 3)) (hcl : Cond.classLink M.1.cls idx C0 ∈ x_gw) (hov : ∀ U : State, x_X U → va_AO C0 U) (ht : ∀ G : XG, (x_tys G)[t]? = some (G.2.2.1 t, .object C0)) (hn : ¬ n < 0) (hN : n.toNatClampNeg = N) (hb : N * 4 ≤ 536870912)
    (h1 : cu + 1 ≤ cu2) (h2 : su + N ≤ su2) (h3 : cu2 ≤ M.2.2.2.2.cells) (h4 : su2 ≤ M.2.2.2.2.slots) (kk : T M E Z cu2 su2 (pc + 3) ls (.ref h.length :: st) (h ++ [.inl (t, N, .inr (.inr (fun _ => none)))])) : T M E Z cu su pc ls (.int n :: st) h := by
  intro p l e G s m args below meth c H locs rls C hE hat hS hl
  have hts := C.2.2.2.2.2.1
  have hK := C.2.2.2.2.2.2.2.2.1.1
  subst hN
  refine W.anew C.1 C.2.1 C.2.2.2.2.1 (hts _ hcl) (va_AO.use (hov s C.2.2.2.2.2.2.2.2.1.2.2.2.2)) rfl hd rfl hn hb (by omega) (by omega) fun cA kA comp f1 f2 f3 f4 => ?_
  generalize hH1 : H.push ({ cls := cA, slots := Array.replicate n.toNatClampNeg .null, vm := .none } : Cell) = H1
  have z1 : H1.size = H.size + 1 := by rw [← hH1, Array.size_push]
  have e1 : H1[H.size]? = some (arrV cA n.toNatClampNeg (fun _ => .null)) := by rw [← hH1, Array.getElem?_push_size, ← arrV_new]
  have o1 : ∀ q : Nat, q < H.size → H1[q]? = H[q]? := fun q hq => by rw [← hH1, Array.getElem?_push, if_neg (Nat.ne_of_lt hq)]
  obtain ⟨-, -, -, -, -, hRA⟩ := (hK.2 t _ (ht G)).2
  have hcA : G.2.2.1 t = cA := Option.some.inj (hRA.symm.trans f1)
  refine W.widen h1 h2 ?_
  refine W.eq (g2 := F0 m (pc + 3) rls (List.map (x_mv G) (Value.ref h.length :: st))) ?_ ?_
  · show F0 m (pc + 3) rls (Value.ref H.size :: List.map (x_mv G) st) = _
    rw [hat.1]
    rfl
  refine kk p l e G s m args below meth c H1 locs rls C hE (x_at_push hat z1 o1 ?_) (x_S_push hS z1 o1) hl
  show H1[G.1 + h.length]? = some (vp_cell (G.2.2.1 t) (n.toNatClampNeg, Sum.inr (Sum.inr (Sum.inr (Sum.inr _)))))
  rw [hcA, vp_cell_q, ← hat.1]
  exact e1
/-- Object() -/
theorem T_obj {idx k : Nat} (hd : decode M.2.1 pc = .ok (.invokespecial idx, 3)) (hl1 : Cond.methodLink M.1.cls idx Lib.objectInit ∈ x_gw) (hl2 : Cond.instanceMethod Lib.objectInit ∈ x_gw) (hl3 : Cond.code Lib.objectInit ⟨#[0xb1]⟩ 1 none ∈ x_gw) (hf : 1 ≤ M.2.2.2.2.frames) (hlo : (st.map fun v => v.category).sum + 12 ≤ M.2.2.2.2.locals) (kk : T M E Z cu su (pc + 3) ls st h) : T M E Z cu su pc ls (.ref k :: st) h := by
  intro p l e G s m args below meth c H locs rls C hE hat hS hl
  have hts := C.2.2.2.2.2.1
  refine W.objInit C.1 C.2.1 C.2.2.2.2.1 (hts _ hl1) (hts _ hl2) (hts _ hl3) rfl (by rw [C.2.2.2.1]; exact hl.1) rfl hd hf ?_ (kk p l e G s m args below meth c H locs rls C hE hat hS hl)
  rw [List.map_map]
  show 2 * 0 + (List.map (fun v => (x_mv G v).category) st).sum + 12 ≤ _
  simp only [x_mv_cat]
  omega
end TH
end
section
/-- a good word at other arguments -/
theorem x_w0 {w : Cond} {args : Array Value} {s : State} (hg : (w.onTables && w.keeps) = true ∨ ∃ ty, w = .arrayClass ty) (h : w.before args s = true) : w.before #[] s = true := by
  rcases hg with hg | ⟨ty, rfl⟩
  · simp only [Bool.and_eq_true] at hg
    exact va_Nw.of hg.1 h
  · exact h
/-! THE T LAYER: calls -/
section TC
variable {M N : XM} {E : XE} {Z : XZ} {cu su pc : Nat} {ls : List (Nat × Value)} {st : List Value} {h : XH}
theorem x_good (hc : Cond.code N.1 N.2.1 N.2.2.1 N.2.2.2.1 ∈ x_gw) : GoodIn x_gw (x_ws N) := fun w hw => by
  rcases List.mem_cons.mp hw with rfl | hw
  · exact ⟨hc, good_of_word (x_gg hc)⟩
  · exact ⟨hw, good_of_word (x_gg hw)⟩
/-- what a method's words say of it: its code, its class, how many arguments -/
def x_N (N : XM) (n : Nat) : Prop := Cond.code N.1 N.2.1 N.2.2.1 N.2.2.2.1 ∈ x_gw ∧ Cond.initialized N.1.cls ∈ x_gw ∧ (N.1.cls ≠ "java/lang/invoke/MethodHandle" ∧ N.1.cls ≠ "java/lang/invoke/VarHandle") ∧ (parseMethodDescriptor N.1.desc).map (fun d => d.parameters.length) = some n
def x_fit (M N : XM) : Bool := Nat.ble (N.2.2.2.2.frames + 1) M.2.2.2.2.frames && Nat.ble (8 + (N.2.2.1 + 11) + N.2.2.2.2.locals) M.2.2.2.2.locals
theorem x_fits (h : x_fit M N = true) : N.2.2.2.2.frames + 1 ≤ M.2.2.2.2.frames ∧ 8 + (N.2.2.1 + 11) + N.2.2.2.2.locals ≤ M.2.2.2.2.locals := by
  simp only [x_fit, Bool.and_eq_true, Nat.ble_eq] at h
  exact h
theorem x_blind {G : XG} {as : List Value} : FrameBlind (va_Pc as (fun U => x_at G h U.heap ∧ x_K G U)) := fun a U g mk q => ⟨q.1, q.2.1, q.2.2.same rfl⟩
theorem x_toL {G : XG} (r : Option Value) (rest : List Value) : (r.map (x_mv G)).toList ++ rest.map (x_mv G) = (r.toList ++ rest).map (x_mv G) := by cases r <;> rfl
def x_cats (l : List Value) : Nat := (l.map fun v => v.category).sum
theorem x_catm (G : XG) (l : List Value) : ((l.map (x_mv G)).map fun v => v.category).sum = x_cats l := by
  rw [List.map_map]
  show (List.map (fun v => (x_mv G v).category) l).sum = _
  simp only [x_mv_cat]
  rfl
theorem x_call {p : Program} {l : Launch} {e : Env} {G : XG} {R : Room} {s : State} {m : MethodId} {args : Array Value} {below : List Frame} {meth : Method} {c : Code} {H : Heap} {locs : List Loc} {cells slots mc ms cu2 su2 : Nat} {rls : Array Slot} {rest st0 : List Value} {a : Array Value} {Q : State → Prop} {Qa : Option Value → XH → Prop} {H0 : Heap}
    (hr : va_Run p l e R s m args below meth c H locs cells slots mc ms (F0 m pc rls st0) (rest.map (x_mv G)) (x_Q G Qa a) (x_A G)) (hS : va_S (x_A G) H0 H locs) (h1 : cells + mc ≤ cu2) (h2 : slots + ms ≤ su2)
    (kk : ∀ (r : Option Value) (h' : XH) (H1 : Heap) (locs1 : List Loc), Qa r h' → x_at G h' H1 → va_S (x_A G) H0 H1 locs1 → W p l e R s m args below meth c H1 locs1 cu2 su2 Q (F0 m (pc + 3) rls ((r.toList ++ rest).map (x_mv G)))) :
    W p l e R s m args below meth c H locs cells slots Q (F0 m pc rls st0) := by
  intro T hT X
  obtain ⟨v, st₀, t, T', L, h0, X', hL, e1, e2, ⟨⟨r, h', hv, hq, hat, hK⟩, hz, hk⟩, stp⟩ := hr T hT X
  cases hv
  rw [h0] at hz hk
  have hS1 : va_S (x_A G) H0 T'.heap (locs ++ L) := ⟨Nat.le_trans hS.1 (by rw [e1]; exact hz), fun q q1 q2 => by rw [e1, hk q (Nat.lt_of_lt_of_le q1 hS.1) q2]; exact hS.2.1 q q1 q2, fun q hq => by
    rcases List.mem_append.mp hq with h | h
    · exact hS.2.2 q h
    · exact hL q h⟩
  have kk1 := kk r h' T'.heap (locs ++ L) hq (by rw [e1]; exact hat) hS1
  rw [← x_toL] at kk1
  obtain ⟨t2, a1, b1⟩ := W.widen h1 h2 kk1 T' rfl X'
  exact ⟨t2, stp t2 a1, b1⟩

def x_LV (own : String) (idx : Nat) (N : XM) (n : Nat) : Prop := x_N N n ∧ Cond.methodLink own idx N.1 ∈ x_gw ∧ Cond.instanceMethod N.1 ∈ x_gw ∧ Cond.selects N.1.cls N.1 N.1 ∈ x_gw
def x_LS (own : String) (idx : Nat) (N : XM) (n : Nat) : Prop := x_N N n ∧ (Cond.methodLink own idx N.1 ∈ x_gw ∨ ∃ host, (own, idx, N.1, host) ∈ x_nst) ∧ Cond.static N.1 ∈ x_gw
def x_LI (own : String) (idx : Nat) (N : XM) (n : Nat) : Prop := x_N N n ∧ (Cond.methodLink own idx N.1 ∈ x_gw ∨ ∃ host, (own, idx, N.1, host) ∈ x_nst) ∧ Cond.instanceMethod N.1 ∈ x_gw ∧ N.1.name = "<init>" ∧ N.2.2.2.1 = none
/-- a call of x by a receiver of the class C: the method N is taken -/
def x_LU (own : String) (idx : Nat) (C owner : String) (x : MethodName) (N : XM) (n : Nat) : Prop := x_N N n ∧ Cond.methodLink own idx x ∈ x_gw ∧ Cond.sameMethod x.cls owner x.name x.desc ∈ x_gw ∧ (∀ U : State, (∀ w ∈ x_gw, w.before #[] U = true) → x_X U → va_Decl U ⟨owner, x.name, x.desc⟩) ∧ Cond.selects C x N.1 ∈ x_gw ∧ Cond.instanceMethod N.1 ∈ x_gw ∧ (owner ≠ "java/lang/invoke/MethodHandle" ∧ owner ≠ "java/lang/invoke/VarHandle") ∧ (parseMethodDescriptor x.desc).map (fun d => d.parameters.length) = some n
def x_LW (own : String) (idx : Nat) (N : XM) (n : Nat) : Prop := x_N N n ∧ Cond.methodLink own idx N.1 ∈ x_gw ∧ Cond.sameMethod N.1.cls N.1.cls N.1.name N.1.desc ∈ x_gw ∧ Cond.superclass own N.1.cls ∈ x_gw ∧ Cond.instanceMethod N.1 ∈ x_gw ∧ N.1.name ≠ "<init>"
theorem x_len {d : String} {n : Nat} (hn : (parseMethodDescriptor d).map (fun d => d.parameters.length) = some n) : ∀ sig, parseMethodDescriptor d = some sig → n = sig.parameters.length := fun sig h => by
  rw [h] at hn
  exact (Option.some.inj hn).symm
theorem T_v0 {rest : List Value} {Qa : Option Value → XH → Prop} {idx k ci cu2 su2 : Nat} {fs : List Value} {F : u_T} {N0 : Nat} (hd : decode M.2.1 pc = .ok (.invokevirtual idx, 3)) (hL : x_LV M.1.cls idx N 0) (hf : x_fit M N = true) (hc : vwCl[ci]? = some (N.1.cls, F, N0)) (hk : h[k]? = some (.inr (ci, fs))) (hM : Con N ([.ref k]) h Qa) (hcat : x_cats rest ≤ 8) (h1 : cu + N.2.2.2.2.cells ≤ cu2) (h2 : su + N.2.2.2.2.slots ≤ su2) (h3 : cu2 ≤ M.2.2.2.2.cells) (h4 : su2 ≤ M.2.2.2.2.slots) (kk : ∀ (r : Option Value) (h' : XH), Qa r h' → T M E Z cu2 su2 (pc + 3) ls (r.toList ++ rest) h') : T M E Z cu su pc ls (.ref k :: rest) h := by
  intro p l e G s m args below meth c H locs rls C hE hat hS hl
  have hts := C.2.2.2.2.2.1
  obtain ⟨hN, hml, hin, hse⟩ := hL
  exact x_call (va_runV (As := []) (rest := rest.map (x_mv G)) (b := G.1 + k) (C := N.1.cls) ⟨C.1, C.2.1, C.2.2.2.1, C.2.2.2.2.1, hts⟩ (hM l G) ⟨⟨rfl, rfl, (x_fits hf).1, (x_fits hf).2, pay_in hts (x_good hN.1), List.mem_cons_self, hts _ hN.1, hts _ hN.2.1, hN.2.2.1, x_len hN.2.2.2, hts _ hml⟩, hts _ hin, hts _ hse⟩ ⟨x_blind, va_recv (q0 := k) C.2.2.2.2.2.2.2.2.1.1 hat.2 hc (x_W_at hk), fun U hU hW => ⟨rfl, by rw [hU]; exact hat, C.2.2.2.2.2.2.2.2.1.warm hW⟩⟩ rfl (show ([] : List Value).length = 0 from rfl) hl.1 rfl (lv_room (by rw [x_catm]; exact hcat)) hd ⟨Nat.le_trans h1 h3, Nat.le_trans h2 h4⟩) hS h1 h2 (fun r h' H1 locs1 hq hat1 hS1 => kk r h' hq p l e G s m args below meth c H1 locs1 rls C hE hat1 hS1 hl)
theorem T_u0 {rest : List Value} {Qa : Option Value → XH → Prop} {idx k ci cu2 su2 : Nat} {fs : List Value} {C0 owner : String} {x : MethodName} {F : u_T} {N0 : Nat} (hd : decode M.2.1 pc = .ok (.invokevirtual idx, 3)) (hL : x_LU M.1.cls idx C0 owner x N 0) (hf : x_fit M N = true) (hc : vwCl[ci]? = some (C0, F, N0)) (hk : h[k]? = some (.inr (ci, fs))) (hM : Con N ([.ref k]) h Qa) (hcat : x_cats rest ≤ 8) (h1 : cu + N.2.2.2.2.cells ≤ cu2) (h2 : su + N.2.2.2.2.slots ≤ su2) (h3 : cu2 ≤ M.2.2.2.2.cells) (h4 : su2 ≤ M.2.2.2.2.slots) (kk : ∀ (r : Option Value) (h' : XH), Qa r h' → T M E Z cu2 su2 (pc + 3) ls (r.toList ++ rest) h') : T M E Z cu su pc ls (.ref k :: rest) h := by
  intro p l e G s m args below meth c H locs rls C hE hat hS hl
  have hts := C.2.2.2.2.2.1
  obtain ⟨hN, hml, hsm, hde, hse, hin, hno, hle⟩ := hL
  have hts0 : ∀ w ∈ x_gw, w.before #[] s = true := fun w hw => by
    have h9 := good_of_word (x_gg hw)
    exact x_w0 h9 (hts w hw)
  exact x_call (va_runU (As := []) (rest := rest.map (x_mv G)) (b := G.1 + k) (C := C0) (owner := owner) (x := x) ⟨C.1, C.2.1, C.2.2.2.1, C.2.2.2.2.1, hts⟩ (hM l G) ⟨⟨rfl, rfl, (x_fits hf).1, (x_fits hf).2, pay_in hts (x_good hN.1), List.mem_cons_self⟩, hts _ hN.1, hts _ hN.2.1, hno, x_len hle, hts _ hml, hts _ hsm, hde s hts0 C.2.2.2.2.2.2.2.2.1.2.2.2.2, hts _ hse, hts _ hin⟩ ⟨x_blind, va_recv (q0 := k) C.2.2.2.2.2.2.2.2.1.1 hat.2 hc (x_W_at hk), fun U hU hW => ⟨rfl, by rw [hU]; exact hat, C.2.2.2.2.2.2.2.2.1.warm hW⟩⟩ rfl (show ([] : List Value).length = 0 from rfl) hl.1 rfl (lv_room (by rw [x_catm]; exact hcat)) hd ⟨Nat.le_trans h1 h3, Nat.le_trans h2 h4⟩) hS h1 h2 (fun r h' H1 locs1 hq hat1 hS1 => kk r h' hq p l e G s m args below meth c H1 locs1 rls C hE hat1 hS1 hl)
theorem T_w0 {rest : List Value} {Qa : Option Value → XH → Prop} {idx k ci cu2 su2 : Nat} {fs : List Value} {C0 : String} {F : u_T} {N0 : Nat} (hd : decode M.2.1 pc = .ok (.invokespecial idx, 3)) (hL : x_LW M.1.cls idx N 0) (hf : x_fit M N = true) (hc : vwCl[ci]? = some (C0, F, N0)) (hk : h[k]? = some (.inr (ci, fs))) (hM : Con N ([.ref k]) h Qa) (hcat : x_cats rest ≤ 8) (h1 : cu + N.2.2.2.2.cells ≤ cu2) (h2 : su + N.2.2.2.2.slots ≤ su2) (h3 : cu2 ≤ M.2.2.2.2.cells) (h4 : su2 ≤ M.2.2.2.2.slots) (kk : ∀ (r : Option Value) (h' : XH), Qa r h' → T M E Z cu2 su2 (pc + 3) ls (r.toList ++ rest) h') : T M E Z cu su pc ls (.ref k :: rest) h := by
  intro p l e G s m args below meth c H locs rls C hE hat hS hl
  have hts := C.2.2.2.2.2.1
  obtain ⟨hN, hml, hsm, hsu, hin, hno⟩ := hL
  exact x_call (va_runSU (As := []) (rest := rest.map (x_mv G)) (b := G.1 + k) (C := C0) (C.2.2.2.2.2.2.2.2.1.1.1 ci _ hc).2 ⟨C.1, C.2.1, C.2.2.2.1, C.2.2.2.2.1, hts⟩ (hM l G) ⟨⟨rfl, rfl, (x_fits hf).1, (x_fits hf).2, pay_in hts (x_good hN.1), List.mem_cons_self⟩, hts _ hml, hts _ hsm, hts _ hsu, hts _ hin, hts _ hN.2.1, hts _ hN.1, hno, x_len hN.2.2.2⟩ ⟨x_blind, va_recv (q0 := k) C.2.2.2.2.2.2.2.2.1.1 hat.2 hc (x_W_at hk), fun U hU hW => ⟨rfl, by rw [hU]; exact hat, C.2.2.2.2.2.2.2.2.1.warm hW⟩⟩ rfl (show ([] : List Value).length = 0 from rfl) hl.1 rfl (lv_room (by rw [x_catm]; exact hcat)) hd ⟨Nat.le_trans h1 h3, Nat.le_trans h2 h4⟩) hS h1 h2 (fun r h' H1 locs1 hq hat1 hS1 => kk r h' hq p l e G s m args below meth c H1 locs1 rls C hE hat1 hS1 hl)
theorem T_s0 {rest : List Value} {Qa : Option Value → XH → Prop} {idx cu2 su2 : Nat} (hd : decode M.2.1 pc = .ok (.invokestatic idx, 3)) (hL : x_LS M.1.cls idx N 0) (hf : x_fit M N = true) (hM : Con N ([]) h Qa) (hcat : x_cats rest ≤ 8) (h1 : cu + N.2.2.2.2.cells ≤ cu2) (h2 : su + N.2.2.2.2.slots ≤ su2) (h3 : cu2 ≤ M.2.2.2.2.cells) (h4 : su2 ≤ M.2.2.2.2.slots) (kk : ∀ (r : Option Value) (h' : XH), Qa r h' → T M E Z cu2 su2 (pc + 3) ls (r.toList ++ rest) h') : T M E Z cu su pc ls (rest) h := by
  intro p l e G s m args below meth c H locs rls C hE hat hS hl
  have hts := C.2.2.2.2.2.1
  obtain ⟨hN, hml | ⟨host, hml⟩, hss⟩ := hL
  · exact x_call (va_runS (As := []) (rest := rest.map (x_mv G)) ⟨C.1, C.2.1, C.2.2.2.1, C.2.2.2.2.1, hts⟩ (hM l G) ⟨⟨rfl, rfl, (x_fits hf).1, (x_fits hf).2, pay_in hts (x_good hN.1), List.mem_cons_self, hts _ hN.1, hts _ hN.2.1, hN.2.2.1, x_len hN.2.2.2, hts _ hml⟩, hts _ hss⟩ ⟨x_blind, fun U hU hW => ⟨rfl, by rw [hU]; exact hat, C.2.2.2.2.2.2.2.2.1.warm hW⟩⟩ rfl (show ([] : List Value).length = 0 from rfl) hl.1 rfl (lv_room (by rw [x_catm]; exact hcat)) hd ⟨Nat.le_trans h1 h3, Nat.le_trans h2 h4⟩) hS h1 h2 (fun r h' H1 locs1 hq hat1 hS1 => kk r h' hq p l e G s m args below meth c H1 locs1 rls C hE hat1 hS1 hl)
  · exact x_call (va_runSN (As := []) (rest := rest.map (x_mv G)) ⟨C.1, C.2.1, C.2.2.2.1, C.2.2.2.2.1, hts⟩ (hM l G) ⟨⟨⟨rfl, rfl, (x_fits hf).1, (x_fits hf).2, pay_in hts (x_good hN.1), List.mem_cons_self⟩, hts _ hN.1, hts _ hN.2.1, hN.2.2.1, x_len hN.2.2.2, va_Nw.use rfl (C.2.2.2.2.2.2.2.2.1.2.2.2.2.1 _ hml)⟩, hts _ hss, trivial⟩ ⟨x_blind, fun U hU hW => ⟨rfl, by rw [hU]; exact hat, C.2.2.2.2.2.2.2.2.1.warm hW⟩⟩ rfl (show ([] : List Value).length = 0 from rfl) hl.1 rfl (lv_room (by rw [x_catm]; exact hcat)) hd ⟨Nat.le_trans h1 h3, Nat.le_trans h2 h4⟩) hS h1 h2 (fun r h' H1 locs1 hq hat1 hS1 => kk r h' hq p l e G s m args below meth c H1 locs1 rls C hE hat1 hS1 hl)
theorem T_i0 {rest : List Value} {Qa : Option Value → XH → Prop} {idx k cu2 su2 : Nat} (hd : decode M.2.1 pc = .ok (.invokespecial idx, 3)) (hL : x_LI M.1.cls idx N 0) (hf : x_fit M N = true) (hM : Con N ([.ref k]) h Qa) (hcat : x_cats rest ≤ 8) (h1 : cu + N.2.2.2.2.cells ≤ cu2) (h2 : su + N.2.2.2.2.slots ≤ su2) (h3 : cu2 ≤ M.2.2.2.2.cells) (h4 : su2 ≤ M.2.2.2.2.slots) (kk : ∀ (r : Option Value) (h' : XH), Qa r h' → T M E Z cu2 su2 (pc + 3) ls (r.toList ++ rest) h') : T M E Z cu su pc ls (.ref k :: rest) h := by
  intro p l e G s m args below meth c H locs rls C hE hat hS hl
  have hts := C.2.2.2.2.2.1
  obtain ⟨hN, hml, hin, hnm, hnr⟩ := hL
  have hN1 := hN.1
  have hMl := hM l G
  obtain ⟨yN, bN, mN, rN, roN⟩ := N
  have hnr : rN = none := hnr
  subst hnr
  obtain hml | ⟨host, hml⟩ := hml
  · exact x_call (va_runI (As := []) (rest := rest.map (x_mv G)) (b := G.1 + k) ⟨C.1, C.2.1, C.2.2.2.1, C.2.2.2.2.1, hts⟩ hMl ⟨⟨rfl, rfl, (x_fits hf).1, (x_fits hf).2, pay_in hts (x_good hN.1), List.mem_cons_self, hts _ hN.1, hts _ hN.2.1, hN.2.2.1, x_len hN.2.2.2, hts _ hml⟩, hnm, hts _ hin⟩ ⟨x_blind, fun U hU hW => ⟨rfl, by rw [hU]; exact hat, C.2.2.2.2.2.2.2.2.1.warm hW⟩⟩ rfl (show ([] : List Value).length = 0 from rfl) hl.1 rfl (lv_room (by rw [x_catm]; exact hcat)) hd ⟨Nat.le_trans h1 h3, Nat.le_trans h2 h4⟩) hS h1 h2 (fun r h' H1 locs1 hq hat1 hS1 => kk r h' hq p l e G s m args below meth c H1 locs1 rls C hE hat1 hS1 hl)
  · exact x_call (va_runIN (As := []) (rest := rest.map (x_mv G)) (b := G.1 + k) ⟨C.1, C.2.1, C.2.2.2.1, C.2.2.2.2.1, hts⟩ hMl ⟨⟨⟨rfl, rfl, (x_fits hf).1, (x_fits hf).2, pay_in hts (x_good hN.1), List.mem_cons_self⟩, hts _ hN.1, hts _ hN.2.1, hN.2.2.1, x_len hN.2.2.2, va_Nw.use rfl (C.2.2.2.2.2.2.2.2.1.2.2.2.2.1 _ hml)⟩, hnm, hts _ hin⟩ ⟨x_blind, fun U hU hW => ⟨rfl, by rw [hU]; exact hat, C.2.2.2.2.2.2.2.2.1.warm hW⟩⟩ rfl (show ([] : List Value).length = 0 from rfl) hl.1 rfl (lv_room (by rw [x_catm]; exact hcat)) hd ⟨Nat.le_trans h1 h3, Nat.le_trans h2 h4⟩) hS h1 h2 (fun r h' H1 locs1 hq hat1 hS1 => kk r h' hq p l e G s m args below meth c H1 locs1 rls C hE hat1 hS1 hl)
theorem T_v1 {rest : List Value} {a1 : Value} {Qa : Option Value → XH → Prop} {idx k ci cu2 su2 : Nat} {fs : List Value} {F : u_T} {N0 : Nat} (hd : decode M.2.1 pc = .ok (.invokevirtual idx, 3)) (hL : x_LV M.1.cls idx N 1) (hf : x_fit M N = true) (hc : vwCl[ci]? = some (N.1.cls, F, N0)) (hk : h[k]? = some (.inr (ci, fs))) (hM : Con N ([.ref k, a1]) h Qa) (hcat : x_cats rest ≤ 8) (h1 : cu + N.2.2.2.2.cells ≤ cu2) (h2 : su + N.2.2.2.2.slots ≤ su2) (h3 : cu2 ≤ M.2.2.2.2.cells) (h4 : su2 ≤ M.2.2.2.2.slots) (kk : ∀ (r : Option Value) (h' : XH), Qa r h' → T M E Z cu2 su2 (pc + 3) ls (r.toList ++ rest) h') : T M E Z cu su pc ls (a1 :: .ref k :: rest) h := by
  intro p l e G s m args below meth c H locs rls C hE hat hS hl
  have hts := C.2.2.2.2.2.1
  obtain ⟨hN, hml, hin, hse⟩ := hL
  exact x_call (va_runV (As := [x_mv G a1]) (rest := rest.map (x_mv G)) (b := G.1 + k) (C := N.1.cls) ⟨C.1, C.2.1, C.2.2.2.1, C.2.2.2.2.1, hts⟩ (hM l G) ⟨⟨rfl, rfl, (x_fits hf).1, (x_fits hf).2, pay_in hts (x_good hN.1), List.mem_cons_self, hts _ hN.1, hts _ hN.2.1, hN.2.2.1, x_len hN.2.2.2, hts _ hml⟩, hts _ hin, hts _ hse⟩ ⟨x_blind, va_recv (q0 := k) C.2.2.2.2.2.2.2.2.1.1 hat.2 hc (x_W_at hk), fun U hU hW => ⟨rfl, by rw [hU]; exact hat, C.2.2.2.2.2.2.2.2.1.warm hW⟩⟩ rfl (show ([x_mv G a1] : List Value).length = 1 from rfl) hl.1 rfl (lv_room (by rw [x_catm]; exact hcat)) hd ⟨Nat.le_trans h1 h3, Nat.le_trans h2 h4⟩) hS h1 h2 (fun r h' H1 locs1 hq hat1 hS1 => kk r h' hq p l e G s m args below meth c H1 locs1 rls C hE hat1 hS1 hl)
theorem T_u1 {rest : List Value} {a1 : Value} {Qa : Option Value → XH → Prop} {idx k ci cu2 su2 : Nat} {fs : List Value} {C0 owner : String} {x : MethodName} {F : u_T} {N0 : Nat} (hd : decode M.2.1 pc = .ok (.invokevirtual idx, 3)) (hL : x_LU M.1.cls idx C0 owner x N 1) (hf : x_fit M N = true) (hc : vwCl[ci]? = some (C0, F, N0)) (hk : h[k]? = some (.inr (ci, fs))) (hM : Con N ([.ref k, a1]) h Qa) (hcat : x_cats rest ≤ 8) (h1 : cu + N.2.2.2.2.cells ≤ cu2) (h2 : su + N.2.2.2.2.slots ≤ su2) (h3 : cu2 ≤ M.2.2.2.2.cells) (h4 : su2 ≤ M.2.2.2.2.slots) (kk : ∀ (r : Option Value) (h' : XH), Qa r h' → T M E Z cu2 su2 (pc + 3) ls (r.toList ++ rest) h') : T M E Z cu su pc ls (a1 :: .ref k :: rest) h := by
  intro p l e G s m args below meth c H locs rls C hE hat hS hl
  have hts := C.2.2.2.2.2.1
  obtain ⟨hN, hml, hsm, hde, hse, hin, hno, hle⟩ := hL
  have hts0 : ∀ w ∈ x_gw, w.before #[] s = true := fun w hw => by
    have h9 := good_of_word (x_gg hw)
    exact x_w0 h9 (hts w hw)
  exact x_call (va_runU (As := [x_mv G a1]) (rest := rest.map (x_mv G)) (b := G.1 + k) (C := C0) (owner := owner) (x := x) ⟨C.1, C.2.1, C.2.2.2.1, C.2.2.2.2.1, hts⟩ (hM l G) ⟨⟨rfl, rfl, (x_fits hf).1, (x_fits hf).2, pay_in hts (x_good hN.1), List.mem_cons_self⟩, hts _ hN.1, hts _ hN.2.1, hno, x_len hle, hts _ hml, hts _ hsm, hde s hts0 C.2.2.2.2.2.2.2.2.1.2.2.2.2, hts _ hse, hts _ hin⟩ ⟨x_blind, va_recv (q0 := k) C.2.2.2.2.2.2.2.2.1.1 hat.2 hc (x_W_at hk), fun U hU hW => ⟨rfl, by rw [hU]; exact hat, C.2.2.2.2.2.2.2.2.1.warm hW⟩⟩ rfl (show ([x_mv G a1] : List Value).length = 1 from rfl) hl.1 rfl (lv_room (by rw [x_catm]; exact hcat)) hd ⟨Nat.le_trans h1 h3, Nat.le_trans h2 h4⟩) hS h1 h2 (fun r h' H1 locs1 hq hat1 hS1 => kk r h' hq p l e G s m args below meth c H1 locs1 rls C hE hat1 hS1 hl)
theorem T_w1 {rest : List Value} {a1 : Value} {Qa : Option Value → XH → Prop} {idx k ci cu2 su2 : Nat} {fs : List Value} {C0 : String} {F : u_T} {N0 : Nat} (hd : decode M.2.1 pc = .ok (.invokespecial idx, 3)) (hL : x_LW M.1.cls idx N 1) (hf : x_fit M N = true) (hc : vwCl[ci]? = some (C0, F, N0)) (hk : h[k]? = some (.inr (ci, fs))) (hM : Con N ([.ref k, a1]) h Qa) (hcat : x_cats rest ≤ 8) (h1 : cu + N.2.2.2.2.cells ≤ cu2) (h2 : su + N.2.2.2.2.slots ≤ su2) (h3 : cu2 ≤ M.2.2.2.2.cells) (h4 : su2 ≤ M.2.2.2.2.slots) (kk : ∀ (r : Option Value) (h' : XH), Qa r h' → T M E Z cu2 su2 (pc + 3) ls (r.toList ++ rest) h') : T M E Z cu su pc ls (a1 :: .ref k :: rest) h := by
  intro p l e G s m args below meth c H locs rls C hE hat hS hl
  have hts := C.2.2.2.2.2.1
  obtain ⟨hN, hml, hsm, hsu, hin, hno⟩ := hL
  exact x_call (va_runSU (As := [x_mv G a1]) (rest := rest.map (x_mv G)) (b := G.1 + k) (C := C0) (C.2.2.2.2.2.2.2.2.1.1.1 ci _ hc).2 ⟨C.1, C.2.1, C.2.2.2.1, C.2.2.2.2.1, hts⟩ (hM l G) ⟨⟨rfl, rfl, (x_fits hf).1, (x_fits hf).2, pay_in hts (x_good hN.1), List.mem_cons_self⟩, hts _ hml, hts _ hsm, hts _ hsu, hts _ hin, hts _ hN.2.1, hts _ hN.1, hno, x_len hN.2.2.2⟩ ⟨x_blind, va_recv (q0 := k) C.2.2.2.2.2.2.2.2.1.1 hat.2 hc (x_W_at hk), fun U hU hW => ⟨rfl, by rw [hU]; exact hat, C.2.2.2.2.2.2.2.2.1.warm hW⟩⟩ rfl (show ([x_mv G a1] : List Value).length = 1 from rfl) hl.1 rfl (lv_room (by rw [x_catm]; exact hcat)) hd ⟨Nat.le_trans h1 h3, Nat.le_trans h2 h4⟩) hS h1 h2 (fun r h' H1 locs1 hq hat1 hS1 => kk r h' hq p l e G s m args below meth c H1 locs1 rls C hE hat1 hS1 hl)
theorem T_s1 {rest : List Value} {a1 : Value} {Qa : Option Value → XH → Prop} {idx cu2 su2 : Nat} (hd : decode M.2.1 pc = .ok (.invokestatic idx, 3)) (hL : x_LS M.1.cls idx N 1) (hf : x_fit M N = true) (hM : Con N ([a1]) h Qa) (hcat : x_cats rest ≤ 8) (h1 : cu + N.2.2.2.2.cells ≤ cu2) (h2 : su + N.2.2.2.2.slots ≤ su2) (h3 : cu2 ≤ M.2.2.2.2.cells) (h4 : su2 ≤ M.2.2.2.2.slots) (kk : ∀ (r : Option Value) (h' : XH), Qa r h' → T M E Z cu2 su2 (pc + 3) ls (r.toList ++ rest) h') : T M E Z cu su pc ls (a1 :: rest) h := by
  intro p l e G s m args below meth c H locs rls C hE hat hS hl
  have hts := C.2.2.2.2.2.1
  obtain ⟨hN, hml | ⟨host, hml⟩, hss⟩ := hL
  · exact x_call (va_runS (As := [x_mv G a1]) (rest := rest.map (x_mv G)) ⟨C.1, C.2.1, C.2.2.2.1, C.2.2.2.2.1, hts⟩ (hM l G) ⟨⟨rfl, rfl, (x_fits hf).1, (x_fits hf).2, pay_in hts (x_good hN.1), List.mem_cons_self, hts _ hN.1, hts _ hN.2.1, hN.2.2.1, x_len hN.2.2.2, hts _ hml⟩, hts _ hss⟩ ⟨x_blind, fun U hU hW => ⟨rfl, by rw [hU]; exact hat, C.2.2.2.2.2.2.2.2.1.warm hW⟩⟩ rfl (show ([x_mv G a1] : List Value).length = 1 from rfl) hl.1 rfl (lv_room (by rw [x_catm]; exact hcat)) hd ⟨Nat.le_trans h1 h3, Nat.le_trans h2 h4⟩) hS h1 h2 (fun r h' H1 locs1 hq hat1 hS1 => kk r h' hq p l e G s m args below meth c H1 locs1 rls C hE hat1 hS1 hl)
  · exact x_call (va_runSN (As := [x_mv G a1]) (rest := rest.map (x_mv G)) ⟨C.1, C.2.1, C.2.2.2.1, C.2.2.2.2.1, hts⟩ (hM l G) ⟨⟨⟨rfl, rfl, (x_fits hf).1, (x_fits hf).2, pay_in hts (x_good hN.1), List.mem_cons_self⟩, hts _ hN.1, hts _ hN.2.1, hN.2.2.1, x_len hN.2.2.2, va_Nw.use rfl (C.2.2.2.2.2.2.2.2.1.2.2.2.2.1 _ hml)⟩, hts _ hss, trivial⟩ ⟨x_blind, fun U hU hW => ⟨rfl, by rw [hU]; exact hat, C.2.2.2.2.2.2.2.2.1.warm hW⟩⟩ rfl (show ([x_mv G a1] : List Value).length = 1 from rfl) hl.1 rfl (lv_room (by rw [x_catm]; exact hcat)) hd ⟨Nat.le_trans h1 h3, Nat.le_trans h2 h4⟩) hS h1 h2 (fun r h' H1 locs1 hq hat1 hS1 => kk r h' hq p l e G s m args below meth c H1 locs1 rls C hE hat1 hS1 hl)
theorem T_i1 {rest : List Value} {a1 : Value} {Qa : Option Value → XH → Prop} {idx k cu2 su2 : Nat} (hd : decode M.2.1 pc = .ok (.invokespecial idx, 3)) (hL : x_LI M.1.cls idx N 1) (hf : x_fit M N = true) (hM : Con N ([.ref k, a1]) h Qa) (hcat : x_cats rest ≤ 8) (h1 : cu + N.2.2.2.2.cells ≤ cu2) (h2 : su + N.2.2.2.2.slots ≤ su2) (h3 : cu2 ≤ M.2.2.2.2.cells) (h4 : su2 ≤ M.2.2.2.2.slots) (kk : ∀ (r : Option Value) (h' : XH), Qa r h' → T M E Z cu2 su2 (pc + 3) ls (r.toList ++ rest) h') : T M E Z cu su pc ls (a1 :: .ref k :: rest) h := by
  intro p l e G s m args below meth c H locs rls C hE hat hS hl
  have hts := C.2.2.2.2.2.1
  obtain ⟨hN, hml, hin, hnm, hnr⟩ := hL
  have hN1 := hN.1
  have hMl := hM l G
  obtain ⟨yN, bN, mN, rN, roN⟩ := N
  have hnr : rN = none := hnr
  subst hnr
  obtain hml | ⟨host, hml⟩ := hml
  · exact x_call (va_runI (As := [x_mv G a1]) (rest := rest.map (x_mv G)) (b := G.1 + k) ⟨C.1, C.2.1, C.2.2.2.1, C.2.2.2.2.1, hts⟩ hMl ⟨⟨rfl, rfl, (x_fits hf).1, (x_fits hf).2, pay_in hts (x_good hN.1), List.mem_cons_self, hts _ hN.1, hts _ hN.2.1, hN.2.2.1, x_len hN.2.2.2, hts _ hml⟩, hnm, hts _ hin⟩ ⟨x_blind, fun U hU hW => ⟨rfl, by rw [hU]; exact hat, C.2.2.2.2.2.2.2.2.1.warm hW⟩⟩ rfl (show ([x_mv G a1] : List Value).length = 1 from rfl) hl.1 rfl (lv_room (by rw [x_catm]; exact hcat)) hd ⟨Nat.le_trans h1 h3, Nat.le_trans h2 h4⟩) hS h1 h2 (fun r h' H1 locs1 hq hat1 hS1 => kk r h' hq p l e G s m args below meth c H1 locs1 rls C hE hat1 hS1 hl)
  · exact x_call (va_runIN (As := [x_mv G a1]) (rest := rest.map (x_mv G)) (b := G.1 + k) ⟨C.1, C.2.1, C.2.2.2.1, C.2.2.2.2.1, hts⟩ hMl ⟨⟨⟨rfl, rfl, (x_fits hf).1, (x_fits hf).2, pay_in hts (x_good hN.1), List.mem_cons_self⟩, hts _ hN.1, hts _ hN.2.1, hN.2.2.1, x_len hN.2.2.2, va_Nw.use rfl (C.2.2.2.2.2.2.2.2.1.2.2.2.2.1 _ hml)⟩, hnm, hts _ hin⟩ ⟨x_blind, fun U hU hW => ⟨rfl, by rw [hU]; exact hat, C.2.2.2.2.2.2.2.2.1.warm hW⟩⟩ rfl (show ([x_mv G a1] : List Value).length = 1 from rfl) hl.1 rfl (lv_room (by rw [x_catm]; exact hcat)) hd ⟨Nat.le_trans h1 h3, Nat.le_trans h2 h4⟩) hS h1 h2 (fun r h' H1 locs1 hq hat1 hS1 => kk r h' hq p l e G s m args below meth c H1 locs1 rls C hE hat1 hS1 hl)
theorem T_v2 {rest : List Value} {a1 a2 : Value} {Qa : Option Value → XH → Prop} {idx k ci cu2 su2 : Nat} {fs : List Value} {F : u_T} {N0 : Nat} (hd : decode M.2.1 pc = .ok (.invokevirtual idx, 3)) (hL : x_LV M.1.cls idx N 2) (hf : x_fit M N = true) (hc : vwCl[ci]? = some (N.1.cls, F, N0)) (hk : h[k]? = some (.inr (ci, fs))) (hM : Con N ([.ref k, a1, a2]) h Qa) (hcat : x_cats rest ≤ 8) (h1 : cu + N.2.2.2.2.cells ≤ cu2) (h2 : su + N.2.2.2.2.slots ≤ su2) (h3 : cu2 ≤ M.2.2.2.2.cells) (h4 : su2 ≤ M.2.2.2.2.slots) (kk : ∀ (r : Option Value) (h' : XH), Qa r h' → T M E Z cu2 su2 (pc + 3) ls (r.toList ++ rest) h') : T M E Z cu su pc ls (a2 :: a1 :: .ref k :: rest) h := by
  intro p l e G s m args below meth c H locs rls C hE hat hS hl
  have hts := C.2.2.2.2.2.1
  obtain ⟨hN, hml, hin, hse⟩ := hL
  exact x_call (va_runV (As := [x_mv G a1, x_mv G a2]) (rest := rest.map (x_mv G)) (b := G.1 + k) (C := N.1.cls) ⟨C.1, C.2.1, C.2.2.2.1, C.2.2.2.2.1, hts⟩ (hM l G) ⟨⟨rfl, rfl, (x_fits hf).1, (x_fits hf).2, pay_in hts (x_good hN.1), List.mem_cons_self, hts _ hN.1, hts _ hN.2.1, hN.2.2.1, x_len hN.2.2.2, hts _ hml⟩, hts _ hin, hts _ hse⟩ ⟨x_blind, va_recv (q0 := k) C.2.2.2.2.2.2.2.2.1.1 hat.2 hc (x_W_at hk), fun U hU hW => ⟨rfl, by rw [hU]; exact hat, C.2.2.2.2.2.2.2.2.1.warm hW⟩⟩ rfl (show ([x_mv G a1, x_mv G a2] : List Value).length = 2 from rfl) hl.1 rfl (lv_room (by rw [x_catm]; exact hcat)) hd ⟨Nat.le_trans h1 h3, Nat.le_trans h2 h4⟩) hS h1 h2 (fun r h' H1 locs1 hq hat1 hS1 => kk r h' hq p l e G s m args below meth c H1 locs1 rls C hE hat1 hS1 hl)
theorem T_u2 {rest : List Value} {a1 a2 : Value} {Qa : Option Value → XH → Prop} {idx k ci cu2 su2 : Nat} {fs : List Value} {C0 owner : String} {x : MethodName} {F : u_T} {N0 : Nat} (hd : decode M.2.1 pc = .ok (.invokevirtual idx, 3)) (hL : x_LU M.1.cls idx C0 owner x N 2) (hf : x_fit M N = true) (hc : vwCl[ci]? = some (C0, F, N0)) (hk : h[k]? = some (.inr (ci, fs))) (hM : Con N ([.ref k, a1, a2]) h Qa) (hcat : x_cats rest ≤ 8) (h1 : cu + N.2.2.2.2.cells ≤ cu2) (h2 : su + N.2.2.2.2.slots ≤ su2) (h3 : cu2 ≤ M.2.2.2.2.cells) (h4 : su2 ≤ M.2.2.2.2.slots) (kk : ∀ (r : Option Value) (h' : XH), Qa r h' → T M E Z cu2 su2 (pc + 3) ls (r.toList ++ rest) h') : T M E Z cu su pc ls (a2 :: a1 :: .ref k :: rest) h := by
  intro p l e G s m args below meth c H locs rls C hE hat hS hl
  have hts := C.2.2.2.2.2.1
  obtain ⟨hN, hml, hsm, hde, hse, hin, hno, hle⟩ := hL
  have hts0 : ∀ w ∈ x_gw, w.before #[] s = true := fun w hw => by
    have h9 := good_of_word (x_gg hw)
    exact x_w0 h9 (hts w hw)
  exact x_call (va_runU (As := [x_mv G a1, x_mv G a2]) (rest := rest.map (x_mv G)) (b := G.1 + k) (C := C0) (owner := owner) (x := x) ⟨C.1, C.2.1, C.2.2.2.1, C.2.2.2.2.1, hts⟩ (hM l G) ⟨⟨rfl, rfl, (x_fits hf).1, (x_fits hf).2, pay_in hts (x_good hN.1), List.mem_cons_self⟩, hts _ hN.1, hts _ hN.2.1, hno, x_len hle, hts _ hml, hts _ hsm, hde s hts0 C.2.2.2.2.2.2.2.2.1.2.2.2.2, hts _ hse, hts _ hin⟩ ⟨x_blind, va_recv (q0 := k) C.2.2.2.2.2.2.2.2.1.1 hat.2 hc (x_W_at hk), fun U hU hW => ⟨rfl, by rw [hU]; exact hat, C.2.2.2.2.2.2.2.2.1.warm hW⟩⟩ rfl (show ([x_mv G a1, x_mv G a2] : List Value).length = 2 from rfl) hl.1 rfl (lv_room (by rw [x_catm]; exact hcat)) hd ⟨Nat.le_trans h1 h3, Nat.le_trans h2 h4⟩) hS h1 h2 (fun r h' H1 locs1 hq hat1 hS1 => kk r h' hq p l e G s m args below meth c H1 locs1 rls C hE hat1 hS1 hl)
theorem T_s2 {rest : List Value} {a1 a2 : Value} {Qa : Option Value → XH → Prop} {idx cu2 su2 : Nat} (hd : decode M.2.1 pc = .ok (.invokestatic idx, 3)) (hL : x_LS M.1.cls idx N 2) (hf : x_fit M N = true) (hM : Con N ([a1, a2]) h Qa) (hcat : x_cats rest ≤ 8) (h1 : cu + N.2.2.2.2.cells ≤ cu2) (h2 : su + N.2.2.2.2.slots ≤ su2) (h3 : cu2 ≤ M.2.2.2.2.cells) (h4 : su2 ≤ M.2.2.2.2.slots) (kk : ∀ (r : Option Value) (h' : XH), Qa r h' → T M E Z cu2 su2 (pc + 3) ls (r.toList ++ rest) h') : T M E Z cu su pc ls (a2 :: a1 :: rest) h := by
  intro p l e G s m args below meth c H locs rls C hE hat hS hl
  have hts := C.2.2.2.2.2.1
  obtain ⟨hN, hml | ⟨host, hml⟩, hss⟩ := hL
  · exact x_call (va_runS (As := [x_mv G a1, x_mv G a2]) (rest := rest.map (x_mv G)) ⟨C.1, C.2.1, C.2.2.2.1, C.2.2.2.2.1, hts⟩ (hM l G) ⟨⟨rfl, rfl, (x_fits hf).1, (x_fits hf).2, pay_in hts (x_good hN.1), List.mem_cons_self, hts _ hN.1, hts _ hN.2.1, hN.2.2.1, x_len hN.2.2.2, hts _ hml⟩, hts _ hss⟩ ⟨x_blind, fun U hU hW => ⟨rfl, by rw [hU]; exact hat, C.2.2.2.2.2.2.2.2.1.warm hW⟩⟩ rfl (show ([x_mv G a1, x_mv G a2] : List Value).length = 2 from rfl) hl.1 rfl (lv_room (by rw [x_catm]; exact hcat)) hd ⟨Nat.le_trans h1 h3, Nat.le_trans h2 h4⟩) hS h1 h2 (fun r h' H1 locs1 hq hat1 hS1 => kk r h' hq p l e G s m args below meth c H1 locs1 rls C hE hat1 hS1 hl)
  · exact x_call (va_runSN (As := [x_mv G a1, x_mv G a2]) (rest := rest.map (x_mv G)) ⟨C.1, C.2.1, C.2.2.2.1, C.2.2.2.2.1, hts⟩ (hM l G) ⟨⟨⟨rfl, rfl, (x_fits hf).1, (x_fits hf).2, pay_in hts (x_good hN.1), List.mem_cons_self⟩, hts _ hN.1, hts _ hN.2.1, hN.2.2.1, x_len hN.2.2.2, va_Nw.use rfl (C.2.2.2.2.2.2.2.2.1.2.2.2.2.1 _ hml)⟩, hts _ hss, trivial⟩ ⟨x_blind, fun U hU hW => ⟨rfl, by rw [hU]; exact hat, C.2.2.2.2.2.2.2.2.1.warm hW⟩⟩ rfl (show ([x_mv G a1, x_mv G a2] : List Value).length = 2 from rfl) hl.1 rfl (lv_room (by rw [x_catm]; exact hcat)) hd ⟨Nat.le_trans h1 h3, Nat.le_trans h2 h4⟩) hS h1 h2 (fun r h' H1 locs1 hq hat1 hS1 => kk r h' hq p l e G s m args below meth c H1 locs1 rls C hE hat1 hS1 hl)
theorem T_i2 {rest : List Value} {a1 a2 : Value} {Qa : Option Value → XH → Prop} {idx k cu2 su2 : Nat} (hd : decode M.2.1 pc = .ok (.invokespecial idx, 3)) (hL : x_LI M.1.cls idx N 2) (hf : x_fit M N = true) (hM : Con N ([.ref k, a1, a2]) h Qa) (hcat : x_cats rest ≤ 8) (h1 : cu + N.2.2.2.2.cells ≤ cu2) (h2 : su + N.2.2.2.2.slots ≤ su2) (h3 : cu2 ≤ M.2.2.2.2.cells) (h4 : su2 ≤ M.2.2.2.2.slots) (kk : ∀ (r : Option Value) (h' : XH), Qa r h' → T M E Z cu2 su2 (pc + 3) ls (r.toList ++ rest) h') : T M E Z cu su pc ls (a2 :: a1 :: .ref k :: rest) h := by
  intro p l e G s m args below meth c H locs rls C hE hat hS hl
  have hts := C.2.2.2.2.2.1
  obtain ⟨hN, hml, hin, hnm, hnr⟩ := hL
  have hN1 := hN.1
  have hMl := hM l G
  obtain ⟨yN, bN, mN, rN, roN⟩ := N
  have hnr : rN = none := hnr
  subst hnr
  obtain hml | ⟨host, hml⟩ := hml
  · exact x_call (va_runI (As := [x_mv G a1, x_mv G a2]) (rest := rest.map (x_mv G)) (b := G.1 + k) ⟨C.1, C.2.1, C.2.2.2.1, C.2.2.2.2.1, hts⟩ hMl ⟨⟨rfl, rfl, (x_fits hf).1, (x_fits hf).2, pay_in hts (x_good hN.1), List.mem_cons_self, hts _ hN.1, hts _ hN.2.1, hN.2.2.1, x_len hN.2.2.2, hts _ hml⟩, hnm, hts _ hin⟩ ⟨x_blind, fun U hU hW => ⟨rfl, by rw [hU]; exact hat, C.2.2.2.2.2.2.2.2.1.warm hW⟩⟩ rfl (show ([x_mv G a1, x_mv G a2] : List Value).length = 2 from rfl) hl.1 rfl (lv_room (by rw [x_catm]; exact hcat)) hd ⟨Nat.le_trans h1 h3, Nat.le_trans h2 h4⟩) hS h1 h2 (fun r h' H1 locs1 hq hat1 hS1 => kk r h' hq p l e G s m args below meth c H1 locs1 rls C hE hat1 hS1 hl)
  · exact x_call (va_runIN (As := [x_mv G a1, x_mv G a2]) (rest := rest.map (x_mv G)) (b := G.1 + k) ⟨C.1, C.2.1, C.2.2.2.1, C.2.2.2.2.1, hts⟩ hMl ⟨⟨⟨rfl, rfl, (x_fits hf).1, (x_fits hf).2, pay_in hts (x_good hN.1), List.mem_cons_self⟩, hts _ hN.1, hts _ hN.2.1, hN.2.2.1, x_len hN.2.2.2, va_Nw.use rfl (C.2.2.2.2.2.2.2.2.1.2.2.2.2.1 _ hml)⟩, hnm, hts _ hin⟩ ⟨x_blind, fun U hU hW => ⟨rfl, by rw [hU]; exact hat, C.2.2.2.2.2.2.2.2.1.warm hW⟩⟩ rfl (show ([x_mv G a1, x_mv G a2] : List Value).length = 2 from rfl) hl.1 rfl (lv_room (by rw [x_catm]; exact hcat)) hd ⟨Nat.le_trans h1 h3, Nat.le_trans h2 h4⟩) hS h1 h2 (fun r h' H1 locs1 hq hat1 hS1 => kk r h' hq p l e G s m args below meth c H1 locs1 rls C hE hat1 hS1 hl)
theorem T_v3 {rest : List Value} {a1 a2 a3 : Value} {Qa : Option Value → XH → Prop} {idx k ci cu2 su2 : Nat} {fs : List Value} {F : u_T} {N0 : Nat} (hd : decode M.2.1 pc = .ok (.invokevirtual idx, 3)) (hL : x_LV M.1.cls idx N 3) (hf : x_fit M N = true) (hc : vwCl[ci]? = some (N.1.cls, F, N0)) (hk : h[k]? = some (.inr (ci, fs))) (hM : Con N ([.ref k, a1, a2, a3]) h Qa) (hcat : x_cats rest ≤ 8) (h1 : cu + N.2.2.2.2.cells ≤ cu2) (h2 : su + N.2.2.2.2.slots ≤ su2) (h3 : cu2 ≤ M.2.2.2.2.cells) (h4 : su2 ≤ M.2.2.2.2.slots) (kk : ∀ (r : Option Value) (h' : XH), Qa r h' → T M E Z cu2 su2 (pc + 3) ls (r.toList ++ rest) h') : T M E Z cu su pc ls (a3 :: a2 :: a1 :: .ref k :: rest) h := by
  intro p l e G s m args below meth c H locs rls C hE hat hS hl
  have hts := C.2.2.2.2.2.1
  obtain ⟨hN, hml, hin, hse⟩ := hL
  exact x_call (va_runV (As := [x_mv G a1, x_mv G a2, x_mv G a3]) (rest := rest.map (x_mv G)) (b := G.1 + k) (C := N.1.cls) ⟨C.1, C.2.1, C.2.2.2.1, C.2.2.2.2.1, hts⟩ (hM l G) ⟨⟨rfl, rfl, (x_fits hf).1, (x_fits hf).2, pay_in hts (x_good hN.1), List.mem_cons_self, hts _ hN.1, hts _ hN.2.1, hN.2.2.1, x_len hN.2.2.2, hts _ hml⟩, hts _ hin, hts _ hse⟩ ⟨x_blind, va_recv (q0 := k) C.2.2.2.2.2.2.2.2.1.1 hat.2 hc (x_W_at hk), fun U hU hW => ⟨rfl, by rw [hU]; exact hat, C.2.2.2.2.2.2.2.2.1.warm hW⟩⟩ rfl (show ([x_mv G a1, x_mv G a2, x_mv G a3] : List Value).length = 3 from rfl) hl.1 rfl (lv_room (by rw [x_catm]; exact hcat)) hd ⟨Nat.le_trans h1 h3, Nat.le_trans h2 h4⟩) hS h1 h2 (fun r h' H1 locs1 hq hat1 hS1 => kk r h' hq p l e G s m args below meth c H1 locs1 rls C hE hat1 hS1 hl)
theorem T_u3 {rest : List Value} {a1 a2 a3 : Value} {Qa : Option Value → XH → Prop} {idx k ci cu2 su2 : Nat} {fs : List Value} {C0 owner : String} {x : MethodName} {F : u_T} {N0 : Nat} (hd : decode M.2.1 pc = .ok (.invokevirtual idx, 3)) (hL : x_LU M.1.cls idx C0 owner x N 3) (hf : x_fit M N = true) (hc : vwCl[ci]? = some (C0, F, N0)) (hk : h[k]? = some (.inr (ci, fs))) (hM : Con N ([.ref k, a1, a2, a3]) h Qa) (hcat : x_cats rest ≤ 8) (h1 : cu + N.2.2.2.2.cells ≤ cu2) (h2 : su + N.2.2.2.2.slots ≤ su2) (h3 : cu2 ≤ M.2.2.2.2.cells) (h4 : su2 ≤ M.2.2.2.2.slots) (kk : ∀ (r : Option Value) (h' : XH), Qa r h' → T M E Z cu2 su2 (pc + 3) ls (r.toList ++ rest) h') : T M E Z cu su pc ls (a3 :: a2 :: a1 :: .ref k :: rest) h := by
  intro p l e G s m args below meth c H locs rls C hE hat hS hl
  have hts := C.2.2.2.2.2.1
  obtain ⟨hN, hml, hsm, hde, hse, hin, hno, hle⟩ := hL
  have hts0 : ∀ w ∈ x_gw, w.before #[] s = true := fun w hw => by
    have h9 := good_of_word (x_gg hw)
    exact x_w0 h9 (hts w hw)
  exact x_call (va_runU (As := [x_mv G a1, x_mv G a2, x_mv G a3]) (rest := rest.map (x_mv G)) (b := G.1 + k) (C := C0) (owner := owner) (x := x) ⟨C.1, C.2.1, C.2.2.2.1, C.2.2.2.2.1, hts⟩ (hM l G) ⟨⟨rfl, rfl, (x_fits hf).1, (x_fits hf).2, pay_in hts (x_good hN.1), List.mem_cons_self⟩, hts _ hN.1, hts _ hN.2.1, hno, x_len hle, hts _ hml, hts _ hsm, hde s hts0 C.2.2.2.2.2.2.2.2.1.2.2.2.2, hts _ hse, hts _ hin⟩ ⟨x_blind, va_recv (q0 := k) C.2.2.2.2.2.2.2.2.1.1 hat.2 hc (x_W_at hk), fun U hU hW => ⟨rfl, by rw [hU]; exact hat, C.2.2.2.2.2.2.2.2.1.warm hW⟩⟩ rfl (show ([x_mv G a1, x_mv G a2, x_mv G a3] : List Value).length = 3 from rfl) hl.1 rfl (lv_room (by rw [x_catm]; exact hcat)) hd ⟨Nat.le_trans h1 h3, Nat.le_trans h2 h4⟩) hS h1 h2 (fun r h' H1 locs1 hq hat1 hS1 => kk r h' hq p l e G s m args below meth c H1 locs1 rls C hE hat1 hS1 hl)
theorem T_s3 {rest : List Value} {a1 a2 a3 : Value} {Qa : Option Value → XH → Prop} {idx cu2 su2 : Nat} (hd : decode M.2.1 pc = .ok (.invokestatic idx, 3)) (hL : x_LS M.1.cls idx N 3) (hf : x_fit M N = true) (hM : Con N ([a1, a2, a3]) h Qa) (hcat : x_cats rest ≤ 8) (h1 : cu + N.2.2.2.2.cells ≤ cu2) (h2 : su + N.2.2.2.2.slots ≤ su2) (h3 : cu2 ≤ M.2.2.2.2.cells) (h4 : su2 ≤ M.2.2.2.2.slots) (kk : ∀ (r : Option Value) (h' : XH), Qa r h' → T M E Z cu2 su2 (pc + 3) ls (r.toList ++ rest) h') : T M E Z cu su pc ls (a3 :: a2 :: a1 :: rest) h := by
  intro p l e G s m args below meth c H locs rls C hE hat hS hl
  have hts := C.2.2.2.2.2.1
  obtain ⟨hN, hml | ⟨host, hml⟩, hss⟩ := hL
  · exact x_call (va_runS (As := [x_mv G a1, x_mv G a2, x_mv G a3]) (rest := rest.map (x_mv G)) ⟨C.1, C.2.1, C.2.2.2.1, C.2.2.2.2.1, hts⟩ (hM l G) ⟨⟨rfl, rfl, (x_fits hf).1, (x_fits hf).2, pay_in hts (x_good hN.1), List.mem_cons_self, hts _ hN.1, hts _ hN.2.1, hN.2.2.1, x_len hN.2.2.2, hts _ hml⟩, hts _ hss⟩ ⟨x_blind, fun U hU hW => ⟨rfl, by rw [hU]; exact hat, C.2.2.2.2.2.2.2.2.1.warm hW⟩⟩ rfl (show ([x_mv G a1, x_mv G a2, x_mv G a3] : List Value).length = 3 from rfl) hl.1 rfl (lv_room (by rw [x_catm]; exact hcat)) hd ⟨Nat.le_trans h1 h3, Nat.le_trans h2 h4⟩) hS h1 h2 (fun r h' H1 locs1 hq hat1 hS1 => kk r h' hq p l e G s m args below meth c H1 locs1 rls C hE hat1 hS1 hl)
  · exact x_call (va_runSN (As := [x_mv G a1, x_mv G a2, x_mv G a3]) (rest := rest.map (x_mv G)) ⟨C.1, C.2.1, C.2.2.2.1, C.2.2.2.2.1, hts⟩ (hM l G) ⟨⟨⟨rfl, rfl, (x_fits hf).1, (x_fits hf).2, pay_in hts (x_good hN.1), List.mem_cons_self⟩, hts _ hN.1, hts _ hN.2.1, hN.2.2.1, x_len hN.2.2.2, va_Nw.use rfl (C.2.2.2.2.2.2.2.2.1.2.2.2.2.1 _ hml)⟩, hts _ hss, trivial⟩ ⟨x_blind, fun U hU hW => ⟨rfl, by rw [hU]; exact hat, C.2.2.2.2.2.2.2.2.1.warm hW⟩⟩ rfl (show ([x_mv G a1, x_mv G a2, x_mv G a3] : List Value).length = 3 from rfl) hl.1 rfl (lv_room (by rw [x_catm]; exact hcat)) hd ⟨Nat.le_trans h1 h3, Nat.le_trans h2 h4⟩) hS h1 h2 (fun r h' H1 locs1 hq hat1 hS1 => kk r h' hq p l e G s m args below meth c H1 locs1 rls C hE hat1 hS1 hl)
theorem T_i3 {rest : List Value} {a1 a2 a3 : Value} {Qa : Option Value → XH → Prop} {idx k cu2 su2 : Nat} (hd : decode M.2.1 pc = .ok (.invokespecial idx, 3)) (hL : x_LI M.1.cls idx N 3) (hf : x_fit M N = true) (hM : Con N ([.ref k, a1, a2, a3]) h Qa) (hcat : x_cats rest ≤ 8) (h1 : cu + N.2.2.2.2.cells ≤ cu2) (h2 : su + N.2.2.2.2.slots ≤ su2) (h3 : cu2 ≤ M.2.2.2.2.cells) (h4 : su2 ≤ M.2.2.2.2.slots) (kk : ∀ (r : Option Value) (h' : XH), Qa r h' → T M E Z cu2 su2 (pc + 3) ls (r.toList ++ rest) h') : T M E Z cu su pc ls (a3 :: a2 :: a1 :: .ref k :: rest) h := by
  intro p l e G s m args below meth c H locs rls C hE hat hS hl
  have hts := C.2.2.2.2.2.1
  obtain ⟨hN, hml, hin, hnm, hnr⟩ := hL
  have hN1 := hN.1
  have hMl := hM l G
  obtain ⟨yN, bN, mN, rN, roN⟩ := N
  have hnr : rN = none := hnr
  subst hnr
  obtain hml | ⟨host, hml⟩ := hml
  · exact x_call (va_runI (As := [x_mv G a1, x_mv G a2, x_mv G a3]) (rest := rest.map (x_mv G)) (b := G.1 + k) ⟨C.1, C.2.1, C.2.2.2.1, C.2.2.2.2.1, hts⟩ hMl ⟨⟨rfl, rfl, (x_fits hf).1, (x_fits hf).2, pay_in hts (x_good hN.1), List.mem_cons_self, hts _ hN.1, hts _ hN.2.1, hN.2.2.1, x_len hN.2.2.2, hts _ hml⟩, hnm, hts _ hin⟩ ⟨x_blind, fun U hU hW => ⟨rfl, by rw [hU]; exact hat, C.2.2.2.2.2.2.2.2.1.warm hW⟩⟩ rfl (show ([x_mv G a1, x_mv G a2, x_mv G a3] : List Value).length = 3 from rfl) hl.1 rfl (lv_room (by rw [x_catm]; exact hcat)) hd ⟨Nat.le_trans h1 h3, Nat.le_trans h2 h4⟩) hS h1 h2 (fun r h' H1 locs1 hq hat1 hS1 => kk r h' hq p l e G s m args below meth c H1 locs1 rls C hE hat1 hS1 hl)
  · exact x_call (va_runIN (As := [x_mv G a1, x_mv G a2, x_mv G a3]) (rest := rest.map (x_mv G)) (b := G.1 + k) ⟨C.1, C.2.1, C.2.2.2.1, C.2.2.2.2.1, hts⟩ hMl ⟨⟨⟨rfl, rfl, (x_fits hf).1, (x_fits hf).2, pay_in hts (x_good hN.1), List.mem_cons_self⟩, hts _ hN.1, hts _ hN.2.1, hN.2.2.1, x_len hN.2.2.2, va_Nw.use rfl (C.2.2.2.2.2.2.2.2.1.2.2.2.2.1 _ hml)⟩, hnm, hts _ hin⟩ ⟨x_blind, fun U hU hW => ⟨rfl, by rw [hU]; exact hat, C.2.2.2.2.2.2.2.2.1.warm hW⟩⟩ rfl (show ([x_mv G a1, x_mv G a2, x_mv G a3] : List Value).length = 3 from rfl) hl.1 rfl (lv_room (by rw [x_catm]; exact hcat)) hd ⟨Nat.le_trans h1 h3, Nat.le_trans h2 h4⟩) hS h1 h2 (fun r h' H1 locs1 hq hat1 hS1 => kk r h' hq p l e G s m args below meth c H1 locs1 rls C hE hat1 hS1 hl)
theorem T_v4 {rest : List Value} {a1 a2 a3 a4 : Value} {Qa : Option Value → XH → Prop} {idx k ci cu2 su2 : Nat} {fs : List Value} {F : u_T} {N0 : Nat} (hd : decode M.2.1 pc = .ok (.invokevirtual idx, 3)) (hL : x_LV M.1.cls idx N 4) (hf : x_fit M N = true) (hc : vwCl[ci]? = some (N.1.cls, F, N0)) (hk : h[k]? = some (.inr (ci, fs))) (hM : Con N ([.ref k, a1, a2, a3, a4]) h Qa) (hcat : x_cats rest ≤ 8) (h1 : cu + N.2.2.2.2.cells ≤ cu2) (h2 : su + N.2.2.2.2.slots ≤ su2) (h3 : cu2 ≤ M.2.2.2.2.cells) (h4 : su2 ≤ M.2.2.2.2.slots) (kk : ∀ (r : Option Value) (h' : XH), Qa r h' → T M E Z cu2 su2 (pc + 3) ls (r.toList ++ rest) h') : T M E Z cu su pc ls (a4 :: a3 :: a2 :: a1 :: .ref k :: rest) h := by
  intro p l e G s m args below meth c H locs rls C hE hat hS hl
  have hts := C.2.2.2.2.2.1
  obtain ⟨hN, hml, hin, hse⟩ := hL
  exact x_call (va_runV (As := [x_mv G a1, x_mv G a2, x_mv G a3, x_mv G a4]) (rest := rest.map (x_mv G)) (b := G.1 + k) (C := N.1.cls) ⟨C.1, C.2.1, C.2.2.2.1, C.2.2.2.2.1, hts⟩ (hM l G) ⟨⟨rfl, rfl, (x_fits hf).1, (x_fits hf).2, pay_in hts (x_good hN.1), List.mem_cons_self, hts _ hN.1, hts _ hN.2.1, hN.2.2.1, x_len hN.2.2.2, hts _ hml⟩, hts _ hin, hts _ hse⟩ ⟨x_blind, va_recv (q0 := k) C.2.2.2.2.2.2.2.2.1.1 hat.2 hc (x_W_at hk), fun U hU hW => ⟨rfl, by rw [hU]; exact hat, C.2.2.2.2.2.2.2.2.1.warm hW⟩⟩ rfl (show ([x_mv G a1, x_mv G a2, x_mv G a3, x_mv G a4] : List Value).length = 4 from rfl) hl.1 rfl (lv_room (by rw [x_catm]; exact hcat)) hd ⟨Nat.le_trans h1 h3, Nat.le_trans h2 h4⟩) hS h1 h2 (fun r h' H1 locs1 hq hat1 hS1 => kk r h' hq p l e G s m args below meth c H1 locs1 rls C hE hat1 hS1 hl)
theorem T_u4 {rest : List Value} {a1 a2 a3 a4 : Value} {Qa : Option Value → XH → Prop} {idx k ci cu2 su2 : Nat} {fs : List Value} {C0 owner : String} {x : MethodName} {F : u_T} {N0 : Nat} (hd : decode M.2.1 pc = .ok (.invokevirtual idx, 3)) (hL : x_LU M.1.cls idx C0 owner x N 4) (hf : x_fit M N = true) (hc : vwCl[ci]? = some (C0, F, N0)) (hk : h[k]? = some (.inr (ci, fs))) (hM : Con N ([.ref k, a1, a2, a3, a4]) h Qa) (hcat : x_cats rest ≤ 8) (h1 : cu + N.2.2.2.2.cells ≤ cu2) (h2 : su + N.2.2.2.2.slots ≤ su2) (h3 : cu2 ≤ M.2.2.2.2.cells) (h4 : su2 ≤ M.2.2.2.2.slots) (kk : ∀ (r : Option Value) (h' : XH), Qa r h' → T M E Z cu2 su2 (pc + 3) ls (r.toList ++ rest) h') : T M E Z cu su pc ls (a4 :: a3 :: a2 :: a1 :: .ref k :: rest) h := by
  intro p l e G s m args below meth c H locs rls C hE hat hS hl
  have hts := C.2.2.2.2.2.1
  obtain ⟨hN, hml, hsm, hde, hse, hin, hno, hle⟩ := hL
  have hts0 : ∀ w ∈ x_gw, w.before #[] s = true := fun w hw => by
    have h9 := good_of_word (x_gg hw)
    exact x_w0 h9 (hts w hw)
  exact x_call (va_runU (As := [x_mv G a1, x_mv G a2, x_mv G a3, x_mv G a4]) (rest := rest.map (x_mv G)) (b := G.1 + k) (C := C0) (owner := owner) (x := x) ⟨C.1, C.2.1, C.2.2.2.1, C.2.2.2.2.1, hts⟩ (hM l G) ⟨⟨rfl, rfl, (x_fits hf).1, (x_fits hf).2, pay_in hts (x_good hN.1), List.mem_cons_self⟩, hts _ hN.1, hts _ hN.2.1, hno, x_len hle, hts _ hml, hts _ hsm, hde s hts0 C.2.2.2.2.2.2.2.2.1.2.2.2.2, hts _ hse, hts _ hin⟩ ⟨x_blind, va_recv (q0 := k) C.2.2.2.2.2.2.2.2.1.1 hat.2 hc (x_W_at hk), fun U hU hW => ⟨rfl, by rw [hU]; exact hat, C.2.2.2.2.2.2.2.2.1.warm hW⟩⟩ rfl (show ([x_mv G a1, x_mv G a2, x_mv G a3, x_mv G a4] : List Value).length = 4 from rfl) hl.1 rfl (lv_room (by rw [x_catm]; exact hcat)) hd ⟨Nat.le_trans h1 h3, Nat.le_trans h2 h4⟩) hS h1 h2 (fun r h' H1 locs1 hq hat1 hS1 => kk r h' hq p l e G s m args below meth c H1 locs1 rls C hE hat1 hS1 hl)
theorem T_s4 {rest : List Value} {a1 a2 a3 a4 : Value} {Qa : Option Value → XH → Prop} {idx cu2 su2 : Nat} (hd : decode M.2.1 pc = .ok (.invokestatic idx, 3)) (hL : x_LS M.1.cls idx N 4) (hf : x_fit M N = true) (hM : Con N ([a1, a2, a3, a4]) h Qa) (hcat : x_cats rest ≤ 8) (h1 : cu + N.2.2.2.2.cells ≤ cu2) (h2 : su + N.2.2.2.2.slots ≤ su2) (h3 : cu2 ≤ M.2.2.2.2.cells) (h4 : su2 ≤ M.2.2.2.2.slots) (kk : ∀ (r : Option Value) (h' : XH), Qa r h' → T M E Z cu2 su2 (pc + 3) ls (r.toList ++ rest) h') : T M E Z cu su pc ls (a4 :: a3 :: a2 :: a1 :: rest) h := by
  intro p l e G s m args below meth c H locs rls C hE hat hS hl
  have hts := C.2.2.2.2.2.1
  obtain ⟨hN, hml | ⟨host, hml⟩, hss⟩ := hL
  · exact x_call (va_runS (As := [x_mv G a1, x_mv G a2, x_mv G a3, x_mv G a4]) (rest := rest.map (x_mv G)) ⟨C.1, C.2.1, C.2.2.2.1, C.2.2.2.2.1, hts⟩ (hM l G) ⟨⟨rfl, rfl, (x_fits hf).1, (x_fits hf).2, pay_in hts (x_good hN.1), List.mem_cons_self, hts _ hN.1, hts _ hN.2.1, hN.2.2.1, x_len hN.2.2.2, hts _ hml⟩, hts _ hss⟩ ⟨x_blind, fun U hU hW => ⟨rfl, by rw [hU]; exact hat, C.2.2.2.2.2.2.2.2.1.warm hW⟩⟩ rfl (show ([x_mv G a1, x_mv G a2, x_mv G a3, x_mv G a4] : List Value).length = 4 from rfl) hl.1 rfl (lv_room (by rw [x_catm]; exact hcat)) hd ⟨Nat.le_trans h1 h3, Nat.le_trans h2 h4⟩) hS h1 h2 (fun r h' H1 locs1 hq hat1 hS1 => kk r h' hq p l e G s m args below meth c H1 locs1 rls C hE hat1 hS1 hl)
  · exact x_call (va_runSN (As := [x_mv G a1, x_mv G a2, x_mv G a3, x_mv G a4]) (rest := rest.map (x_mv G)) ⟨C.1, C.2.1, C.2.2.2.1, C.2.2.2.2.1, hts⟩ (hM l G) ⟨⟨⟨rfl, rfl, (x_fits hf).1, (x_fits hf).2, pay_in hts (x_good hN.1), List.mem_cons_self⟩, hts _ hN.1, hts _ hN.2.1, hN.2.2.1, x_len hN.2.2.2, va_Nw.use rfl (C.2.2.2.2.2.2.2.2.1.2.2.2.2.1 _ hml)⟩, hts _ hss, trivial⟩ ⟨x_blind, fun U hU hW => ⟨rfl, by rw [hU]; exact hat, C.2.2.2.2.2.2.2.2.1.warm hW⟩⟩ rfl (show ([x_mv G a1, x_mv G a2, x_mv G a3, x_mv G a4] : List Value).length = 4 from rfl) hl.1 rfl (lv_room (by rw [x_catm]; exact hcat)) hd ⟨Nat.le_trans h1 h3, Nat.le_trans h2 h4⟩) hS h1 h2 (fun r h' H1 locs1 hq hat1 hS1 => kk r h' hq p l e G s m args below meth c H1 locs1 rls C hE hat1 hS1 hl)
theorem T_v5 {rest : List Value} {a1 a2 a3 a4 a5 : Value} {Qa : Option Value → XH → Prop} {idx k ci cu2 su2 : Nat} {fs : List Value} {F : u_T} {N0 : Nat} (hd : decode M.2.1 pc = .ok (.invokevirtual idx, 3)) (hL : x_LV M.1.cls idx N 5) (hf : x_fit M N = true) (hc : vwCl[ci]? = some (N.1.cls, F, N0)) (hk : h[k]? = some (.inr (ci, fs))) (hM : Con N ([.ref k, a1, a2, a3, a4, a5]) h Qa) (hcat : x_cats rest ≤ 8) (h1 : cu + N.2.2.2.2.cells ≤ cu2) (h2 : su + N.2.2.2.2.slots ≤ su2) (h3 : cu2 ≤ M.2.2.2.2.cells) (h4 : su2 ≤ M.2.2.2.2.slots) (kk : ∀ (r : Option Value) (h' : XH), Qa r h' → T M E Z cu2 su2 (pc + 3) ls (r.toList ++ rest) h') : T M E Z cu su pc ls (a5 :: a4 :: a3 :: a2 :: a1 :: .ref k :: rest) h := by
  intro p l e G s m args below meth c H locs rls C hE hat hS hl
  have hts := C.2.2.2.2.2.1
  obtain ⟨hN, hml, hin, hse⟩ := hL
  exact x_call (va_runV (As := [x_mv G a1, x_mv G a2, x_mv G a3, x_mv G a4, x_mv G a5]) (rest := rest.map (x_mv G)) (b := G.1 + k) (C := N.1.cls) ⟨C.1, C.2.1, C.2.2.2.1, C.2.2.2.2.1, hts⟩ (hM l G) ⟨⟨rfl, rfl, (x_fits hf).1, (x_fits hf).2, pay_in hts (x_good hN.1), List.mem_cons_self, hts _ hN.1, hts _ hN.2.1, hN.2.2.1, x_len hN.2.2.2, hts _ hml⟩, hts _ hin, hts _ hse⟩ ⟨x_blind, va_recv (q0 := k) C.2.2.2.2.2.2.2.2.1.1 hat.2 hc (x_W_at hk), fun U hU hW => ⟨rfl, by rw [hU]; exact hat, C.2.2.2.2.2.2.2.2.1.warm hW⟩⟩ rfl (show ([x_mv G a1, x_mv G a2, x_mv G a3, x_mv G a4, x_mv G a5] : List Value).length = 5 from rfl) hl.1 rfl (lv_room (by rw [x_catm]; exact hcat)) hd ⟨Nat.le_trans h1 h3, Nat.le_trans h2 h4⟩) hS h1 h2 (fun r h' H1 locs1 hq hat1 hS1 => kk r h' hq p l e G s m args below meth c H1 locs1 rls C hE hat1 hS1 hl)
theorem T_u5 {rest : List Value} {a1 a2 a3 a4 a5 : Value} {Qa : Option Value → XH → Prop} {idx k ci cu2 su2 : Nat} {fs : List Value} {C0 owner : String} {x : MethodName} {F : u_T} {N0 : Nat} (hd : decode M.2.1 pc = .ok (.invokevirtual idx, 3)) (hL : x_LU M.1.cls idx C0 owner x N 5) (hf : x_fit M N = true) (hc : vwCl[ci]? = some (C0, F, N0)) (hk : h[k]? = some (.inr (ci, fs))) (hM : Con N ([.ref k, a1, a2, a3, a4, a5]) h Qa) (hcat : x_cats rest ≤ 8) (h1 : cu + N.2.2.2.2.cells ≤ cu2) (h2 : su + N.2.2.2.2.slots ≤ su2) (h3 : cu2 ≤ M.2.2.2.2.cells) (h4 : su2 ≤ M.2.2.2.2.slots) (kk : ∀ (r : Option Value) (h' : XH), Qa r h' → T M E Z cu2 su2 (pc + 3) ls (r.toList ++ rest) h') : T M E Z cu su pc ls (a5 :: a4 :: a3 :: a2 :: a1 :: .ref k :: rest) h := by
  intro p l e G s m args below meth c H locs rls C hE hat hS hl
  have hts := C.2.2.2.2.2.1
  obtain ⟨hN, hml, hsm, hde, hse, hin, hno, hle⟩ := hL
  have hts0 : ∀ w ∈ x_gw, w.before #[] s = true := fun w hw => by
    have h9 := good_of_word (x_gg hw)
    exact x_w0 h9 (hts w hw)
  exact x_call (va_runU (As := [x_mv G a1, x_mv G a2, x_mv G a3, x_mv G a4, x_mv G a5]) (rest := rest.map (x_mv G)) (b := G.1 + k) (C := C0) (owner := owner) (x := x) ⟨C.1, C.2.1, C.2.2.2.1, C.2.2.2.2.1, hts⟩ (hM l G) ⟨⟨rfl, rfl, (x_fits hf).1, (x_fits hf).2, pay_in hts (x_good hN.1), List.mem_cons_self⟩, hts _ hN.1, hts _ hN.2.1, hno, x_len hle, hts _ hml, hts _ hsm, hde s hts0 C.2.2.2.2.2.2.2.2.1.2.2.2.2, hts _ hse, hts _ hin⟩ ⟨x_blind, va_recv (q0 := k) C.2.2.2.2.2.2.2.2.1.1 hat.2 hc (x_W_at hk), fun U hU hW => ⟨rfl, by rw [hU]; exact hat, C.2.2.2.2.2.2.2.2.1.warm hW⟩⟩ rfl (show ([x_mv G a1, x_mv G a2, x_mv G a3, x_mv G a4, x_mv G a5] : List Value).length = 5 from rfl) hl.1 rfl (lv_room (by rw [x_catm]; exact hcat)) hd ⟨Nat.le_trans h1 h3, Nat.le_trans h2 h4⟩) hS h1 h2 (fun r h' H1 locs1 hq hat1 hS1 => kk r h' hq p l e G s m args below meth c H1 locs1 rls C hE hat1 hS1 hl)
theorem T_s5 {rest : List Value} {a1 a2 a3 a4 a5 : Value} {Qa : Option Value → XH → Prop} {idx cu2 su2 : Nat} (hd : decode M.2.1 pc = .ok (.invokestatic idx, 3)) (hL : x_LS M.1.cls idx N 5) (hf : x_fit M N = true) (hM : Con N ([a1, a2, a3, a4, a5]) h Qa) (hcat : x_cats rest ≤ 8) (h1 : cu + N.2.2.2.2.cells ≤ cu2) (h2 : su + N.2.2.2.2.slots ≤ su2) (h3 : cu2 ≤ M.2.2.2.2.cells) (h4 : su2 ≤ M.2.2.2.2.slots) (kk : ∀ (r : Option Value) (h' : XH), Qa r h' → T M E Z cu2 su2 (pc + 3) ls (r.toList ++ rest) h') : T M E Z cu su pc ls (a5 :: a4 :: a3 :: a2 :: a1 :: rest) h := by
  intro p l e G s m args below meth c H locs rls C hE hat hS hl
  have hts := C.2.2.2.2.2.1
  obtain ⟨hN, hml | ⟨host, hml⟩, hss⟩ := hL
  · exact x_call (va_runS (As := [x_mv G a1, x_mv G a2, x_mv G a3, x_mv G a4, x_mv G a5]) (rest := rest.map (x_mv G)) ⟨C.1, C.2.1, C.2.2.2.1, C.2.2.2.2.1, hts⟩ (hM l G) ⟨⟨rfl, rfl, (x_fits hf).1, (x_fits hf).2, pay_in hts (x_good hN.1), List.mem_cons_self, hts _ hN.1, hts _ hN.2.1, hN.2.2.1, x_len hN.2.2.2, hts _ hml⟩, hts _ hss⟩ ⟨x_blind, fun U hU hW => ⟨rfl, by rw [hU]; exact hat, C.2.2.2.2.2.2.2.2.1.warm hW⟩⟩ rfl (show ([x_mv G a1, x_mv G a2, x_mv G a3, x_mv G a4, x_mv G a5] : List Value).length = 5 from rfl) hl.1 rfl (lv_room (by rw [x_catm]; exact hcat)) hd ⟨Nat.le_trans h1 h3, Nat.le_trans h2 h4⟩) hS h1 h2 (fun r h' H1 locs1 hq hat1 hS1 => kk r h' hq p l e G s m args below meth c H1 locs1 rls C hE hat1 hS1 hl)
  · exact x_call (va_runSN (As := [x_mv G a1, x_mv G a2, x_mv G a3, x_mv G a4, x_mv G a5]) (rest := rest.map (x_mv G)) ⟨C.1, C.2.1, C.2.2.2.1, C.2.2.2.2.1, hts⟩ (hM l G) ⟨⟨⟨rfl, rfl, (x_fits hf).1, (x_fits hf).2, pay_in hts (x_good hN.1), List.mem_cons_self⟩, hts _ hN.1, hts _ hN.2.1, hN.2.2.1, x_len hN.2.2.2, va_Nw.use rfl (C.2.2.2.2.2.2.2.2.1.2.2.2.2.1 _ hml)⟩, hts _ hss, trivial⟩ ⟨x_blind, fun U hU hW => ⟨rfl, by rw [hU]; exact hat, C.2.2.2.2.2.2.2.2.1.warm hW⟩⟩ rfl (show ([x_mv G a1, x_mv G a2, x_mv G a3, x_mv G a4, x_mv G a5] : List Value).length = 5 from rfl) hl.1 rfl (lv_room (by rw [x_catm]; exact hcat)) hd ⟨Nat.le_trans h1 h3, Nat.le_trans h2 h4⟩) hS h1 h2 (fun r h' H1 locs1 hq hat1 hS1 => kk r h' hq p l e G s m args below meth c H1 locs1 rls C hE hat1 hS1 hl)
theorem T_min {idx : Nat} {x y : Int32} (hd : decode M.2.1 pc = .ok (.invokestatic idx, 3)) (w1 : Cond.methodLink M.1.cls idx Lib.Math.min.name ∈ x_gw) (w2 : Cond.static Lib.Math.min.name ∈ x_gw) (w3 : Cond.initialized "java/lang/Math" ∈ x_gw) (w4 : Cond.code Lib.Math.min.name Lib.Math.min.code 2 (some .int) ∈ x_gw) (hf : 1 ≤ M.2.2.2.2.frames) (hlo : x_cats st + 13 ≤ M.2.2.2.2.locals) (h3 : cu ≤ M.2.2.2.2.cells) (h4 : su ≤ M.2.2.2.2.slots) (k : T M E Z cu su (pc + 3) ls (.int (if y < x then y else x) :: st) h) : T M E Z cu su pc ls (.int y :: .int x :: st) h := by
  intro p l e G s m args below meth c H locs rls C hE hat hS hl
  have hts := C.2.2.2.2.2.1
  exact va_mmin C.1 C.2.1 (by rw [C.2.2.2.1]; exact hl.1.symm) C.2.2.2.2.1 (hts _ w1) (hts _ w2) (hts _ w3) (hts _ w4) hf (by rw [x_catm]; exact hlo) h3 h4 hd (k p l e G s m args below meth c H locs rls C hE hat hS hl)
theorem T_max {idx : Nat} {x y : Int32} (hd : decode M.2.1 pc = .ok (.invokestatic idx, 3)) (w1 : Cond.methodLink M.1.cls idx Lib.Math.max.name ∈ x_gw) (w2 : Cond.static Lib.Math.max.name ∈ x_gw) (w3 : Cond.initialized "java/lang/Math" ∈ x_gw) (w4 : Cond.code Lib.Math.max.name Lib.Math.max.code 2 (some .int) ∈ x_gw) (hf : 1 ≤ M.2.2.2.2.frames) (hlo : x_cats st + 13 ≤ M.2.2.2.2.locals) (h3 : cu ≤ M.2.2.2.2.cells) (h4 : su ≤ M.2.2.2.2.slots) (k : T M E Z cu su (pc + 3) ls (.int (if x < y then y else x) :: st) h) : T M E Z cu su pc ls (.int y :: .int x :: st) h := by
  intro p l e G s m args below meth c H locs rls C hE hat hS hl
  have hts := C.2.2.2.2.2.1
  exact va_mmax C.1 C.2.1 (by rw [C.2.2.2.1]; exact hl.1.symm) C.2.2.2.2.1 (hts _ w1) (hts _ w2) (hts _ w3) (hts _ w4) hf (by rw [x_catm]; exact hlo) h3 h4 hd (k p l e G s m args below meth c H locs rls C hE hat hS hl)
theorem T_instY {idx k ci : Nat} {fs : List Value} {C0 nm : String} {F : u_T} {N0 : Nat} (hd : decode M.2.1 pc = .ok (.instanceof idx, 3)) (w1 : Cond.classLink M.1.cls idx nm ∈ x_gw) (hk : h[k]? = some (.inr (ci, fs))) (hc : vwCl[ci]? = some (C0, F, N0)) (hca : C0 = nm ∨ (C0, nm) ∈ x_cst) (kk : T M E Z cu su (pc + 3) ls (.int 1 :: st) h) : T M E Z cu su pc ls (.ref k :: st) h := by
  intro p l e G s m args below meth c H locs rls C hE hat hS hl
  have hts := C.2.2.2.2.2.1
  have hK := C.2.2.2.2.2.2.2.2.1.1
  rcases hca with rfl | hca
  · exact va_instS C.1 C.2.1 C.2.2.2.2.1 (hts _ w1) (hK.1 ci _ hc).2 (va_recv (q0 := k) hK hat.2 hc (x_W_at hk)) hd (kk p l e G s m args below meth c H locs rls C hE hat hS hl)
  · exact va_instY C.1 C.2.1 C.2.2.2.2.1 (hts _ w1) (C.2.2.2.2.2.2.2.2.1.2.2.2.2.2.1 _ hca) (va_recv (q0 := k) hK hat.2 hc (x_W_at hk)) hd (kk p l e G s m args below meth c H locs rls C hE hat hS hl)
theorem T_instN {idx k ci : Nat} {fs : List Value} {C0 nm : String} {F : u_T} {N0 : Nat} (hd : decode M.2.1 pc = .ok (.instanceof idx, 3)) (w1 : Cond.classLink M.1.cls idx nm ∈ x_gw) (hk : h[k]? = some (.inr (ci, fs))) (hc : vwCl[ci]? = some (C0, F, N0)) (hca : ∀ (G : XG) (U : State), x_K G U → va_Nc C0 nm U) (kk : T M E Z cu su (pc + 3) ls (.int 0 :: st) h) : T M E Z cu su pc ls (.ref k :: st) h := by
  intro p l e G s m args below meth c H locs rls C hE hat hS hl
  have hts := C.2.2.2.2.2.1
  have hK := C.2.2.2.2.2.2.2.2.1.1
  exact va_instNo C.1 C.2.1 C.2.2.2.2.1 (hts _ w1) (hca G s C.2.2.2.2.2.2.2.2.1) (va_recv (q0 := k) hK hat.2 hc (x_W_at hk)) hd (kk p l e G s m args below meth c H locs rls C hE hat hS hl)
/-- a contract's end weakened -/
theorem Con.mono {as : List Value} {Qa Qb : Option Value → XH → Prop} (hM : Con N as h Qa) (hq : ∀ r h', Qa r h' → Qb r h') : Con N as h Qb := by
  intro l G
  have h1 := hM l G
  intro p e
  intro ha hc hk s m args below hf happ hP ht
  obtain ⟨k, o, a1, a2, a3, ⟨⟨r, h', b1, b2, b3⟩, b4⟩, b5⟩ := h1 p e ha hc hk s m args below hf happ hP ht
  exact ⟨k, o, a1, a2, a3, ⟨⟨r, h', b1, hq r h' b2, b3⟩, b4⟩, b5⟩
end TC
end
section
/-! methods, by program: name, code, locals, answer, room; then the links of fields and methods -/
abbrev M_X0_init : XM := (yX0_init, cX0_init, 4, none, { frames := 1, cells := 0, slots := 0, locals := 20 })
abbrev M_X0_kindNumber : XM := (yX0_kindNumber, cX0_kindNumber, 1, some .int, { frames := 0, cells := 0, slots := 0, locals := 0 })
abbrev M_X0_goesAgainst : XM := (yX0_goesAgainst, cX0_goesAgainst, 1, some .int, { frames := 0, cells := 0, slots := 0, locals := 0 })
abbrev M_X0_counts : XM := (yX0_counts, cX0_counts, 1, some .boolean, { frames := 0, cells := 0, slots := 0, locals := 0 })
abbrev M_X0_telling : XM := (yX0_telling, cX0_telling, 2, some .int, { frames := 2, cells := 0, slots := 0, locals := 42 })
abbrev M_X0_tellingOfBoat : XM := (yX0_tellingOfBoat, cX0_tellingOfBoat, 2, some .int, { frames := 1, cells := 0, slots := 0, locals := 21 })
abbrev M_X0_hailing : XM := (yX0_hailing, cX0_hailing, 2, some .int, { frames := 1, cells := 0, slots := 0, locals := 21 })
abbrev M_X1_init : XM := (yX1_init, cX1_init, 2, none, { frames := 2, cells := 5, slots := 22, locals := 43 })
abbrev M_X1_drain : XM := (yX1_drain, cX1_drain, 1, none, { frames := 0, cells := 0, slots := 0, locals := 0 })
abbrev M_X1_isThere : XM := (yX1_isThere, cX1_isThere, 1, some .boolean, { frames := 0, cells := 0, slots := 0, locals := 0 })
abbrev M_X1_allBoats : XM := (yX1_allBoats, cX1_allBoats, 1, some .int, { frames := 0, cells := 0, slots := 0, locals := 0 })
abbrev M_X1_hasIsle : XM := (yX1_hasIsle, cX1_hasIsle, 2, some .boolean, { frames := 0, cells := 0, slots := 0, locals := 0 })
abbrev M_X1_startOf : XM := (yX1_startOf, cX1_startOf, 2, some .int, { frames := 0, cells := 0, slots := 0, locals := 0 })
abbrev M_X1_goalOf : XM := (yX1_goalOf, cX1_goalOf, 2, some .int, { frames := 0, cells := 0, slots := 0, locals := 0 })
abbrev M_X1_isWith : XM := (yX1_isWith, cX1_isWith, 3, some .boolean, { frames := 0, cells := 0, slots := 0, locals := 0 })
abbrev M_X1_countsWith : XM := (yX1_countsWith, cX1_countsWith, 3, some .boolean, { frames := 1, cells := 0, slots := 0, locals := 22 })
abbrev M_X1_cellAfter : XM := (yX1_cellAfter, cX1_cellAfter, 6, some .int, { frames := 1, cells := 0, slots := 0, locals := 22 })
abbrev M_X1_states : XM := (yX1_states, cX1_states, 3, some .int, { frames := 0, cells := 0, slots := 0, locals := 0 })
abbrev M_X2_init : XM := (yX2_init, cX2_init, 4, none, { frames := 2, cells := 0, slots := 0, locals := 43 })
abbrev M_X2_kindNumber : XM := (yX2_kindNumber, cX2_kindNumber, 1, some .int, { frames := 0, cells := 0, slots := 0, locals := 0 })
abbrev M_X2_goesAgainst : XM := (yX2_goesAgainst, cX2_goesAgainst, 1, some .int, { frames := 0, cells := 0, slots := 0, locals := 0 })
abbrev M_X2_telling : XM := (yX2_telling, cX2_telling, 2, some .int, { frames := 3, cells := 0, slots := 0, locals := 63 })
abbrev M_X3_init : XM := (yX3_init, cX3_init, 1, none, { frames := 1, cells := 3, slots := 24, locals := 20 })
abbrev M_X3_add : XM := (yX3_add, cX3_add, 4, some .int, { frames := 0, cells := 0, slots := 0, locals := 0 })
abbrev M_X3_areWithin : XM := (yX3_areWithin, cX3_areWithin, 3, some .boolean, { frames := 0, cells := 0, slots := 0, locals := 0 })
abbrev M_X3_areSo : XM := (yX3_areSo, cX3_areSo, 4, some .boolean, { frames := 0, cells := 0, slots := 0, locals := 0 })
abbrev M_X4_init : XM := (yX4_init, cX4_init, 2, none, { frames := 2, cells := 32, slots := 715, locals := 40 })
abbrev M_X4_fewestHours : XM := (yX4_fewestHours, cX4_fewestHours, 4, some .int, { frames := 5, cells := 0, slots := 0, locals := 127 })
abbrev M_X4_fewestHats : XM := (yX4_fewestHats, cX4_fewestHats, 5, some .int, { frames := 5, cells := 0, slots := 0, locals := 127 })
abbrev M_X4_leastHat : XM := (yX4_leastHat, cX4_leastHat, 4, some .int, { frames := 3, cells := 0, slots := 0, locals := 73 })
abbrev M_X4_leastTwoHats : XM := (yX4_leastTwoHats, cX4_leastTwoHats, 6, some .int, { frames := 3, cells := 0, slots := 0, locals := 73 })
abbrev M_X4_startNow : XM := (yX4_startNow, cX4_startNow, 1, none, { frames := 1, cells := 0, slots := 0, locals := 21 })
abbrev M_X4_isOverInSome : XM := (yX4_isOverInSome, cX4_isOverInSome, 4, some .boolean, { frames := 1, cells := 0, slots := 0, locals := 21 })
abbrev M_X4_fillGood : XM := (yX4_fillGood, cX4_fillGood, 5, none, { frames := 2, cells := 0, slots := 0, locals := 49 })
abbrev M_X4_fillGoodAhead : XM := (yX4_fillGoodAhead, cX4_fillGoodAhead, 6, none, { frames := 1, cells := 0, slots := 0, locals := 24 })
abbrev M_X4_advance : XM := (yX4_advance, cX4_advance, 3, none, { frames := 2, cells := 0, slots := 0, locals := 49 })
abbrev M_X4_throwHat : XM := (yX4_throwHat, cX4_throwHat, 5, none, { frames := 2, cells := 0, slots := 0, locals := 49 })
abbrev M_X4_addAfter : XM := (yX4_addAfter, cX4_addAfter, 6, none, { frames := 1, cells := 0, slots := 0, locals := 24 })
abbrev M_X4_rowOf : XM := (yX4_rowOf, cX4_rowOf, 1, some .int, { frames := 0, cells := 0, slots := 0, locals := 0 })
abbrev M_X4_prepare : XM := (yX4_prepare, cX4_prepare, 3, none, { frames := 4, cells := 0, slots := 0, locals := 105 })
abbrev M_X4_fillAfter : XM := (yX4_fillAfter, cX4_fillAfter, 6, none, { frames := 3, cells := 0, slots := 0, locals := 80 })
abbrev M_X4_findEnds : XM := (yX4_findEnds, cX4_findEnds, 14, some .int, { frames := 2, cells := 0, slots := 0, locals := 47 })
abbrev M_X5_init : XM := (yX5_init, cX5_init, 1, none, { frames := 1, cells := 1, slots := 60, locals := 20 })
abbrev M_X5_hasRow : XM := (yX5_hasRow, cX5_hasRow, 1, some .boolean, { frames := 0, cells := 0, slots := 0, locals := 0 })
abbrev M_X5_renew : XM := (yX5_renew, cX5_renew, 3, none, { frames := 1, cells := 0, slots := 0, locals := 23 })
abbrev M_X5_faultAs : XM := (yX5_faultAs, cX5_faultAs, 2, some .int, { frames := 1, cells := 0, slots := 0, locals := 20 })
abbrev M_X5_holds : XM := (yX5_holds, cX5_holds, 3, some .boolean, { frames := 0, cells := 0, slots := 0, locals := 0 })
abbrev M_X5_cut : XM := (yX5_cut, cX5_cut, 2, some .int, { frames := 0, cells := 0, slots := 0, locals := 0 })
abbrev M_X6_init : XM := (yX6_init, cX6_init, 1, none, { frames := 1, cells := 0, slots := 0, locals := 20 })
abbrev M_X6_clear : XM := (yX6_clear, cX6_clear, 1, none, { frames := 0, cells := 0, slots := 0, locals := 0 })
abbrev M_X6_become : XM := (yX6_become, cX6_become, 2, none, { frames := 0, cells := 0, slots := 0, locals := 0 })
abbrev M_X6_add : XM := (yX6_add, cX6_add, 2, none, { frames := 0, cells := 0, slots := 0, locals := 0 })
abbrev M_X6_addAll : XM := (yX6_addAll, cX6_addAll, 5, none, { frames := 0, cells := 0, slots := 0, locals := 0 })
abbrev M_X6_has : XM := (yX6_has, cX6_has, 2, some .boolean, { frames := 0, cells := 0, slots := 0, locals := 0 })
abbrev M_X6_meets : XM := (yX6_meets, cX6_meets, 5, some .boolean, { frames := 0, cells := 0, slots := 0, locals := 0 })
abbrev M_X7_init : XM := (yX7_init, cX7_init, 1, none, { frames := 1, cells := 1, slots := 0, locals := 20 })
abbrev M_X7_begin : XM := (yX7_begin, cX7_begin, 4, none, { frames := 0, cells := 0, slots := 0, locals := 0 })
abbrev M_X7_readWater : XM := (yX7_readWater, cX7_readWater, 5, some .boolean, { frames := 3, cells := 0, slots := 0, locals := 65 })
abbrev M_X7_readWinds : XM := (yX7_readWinds, cX7_readWinds, 4, some .boolean, { frames := 3, cells := 0, slots := 0, locals := 62 })
abbrev M_X7_readBoats : XM := (yX7_readBoats, cX7_readBoats, 3, some .boolean, { frames := 6, cells := 3, slots := 9, locals := 137 })
abbrev M_X7_readBoat : XM := (yX7_readBoat, cX7_readBoat, 6, some .boolean, { frames := 5, cells := 1, slots := 3, locals := 112 })
abbrev M_X7_isNext : XM := (yX7_isNext, cX7_isNext, 2, some .boolean, { frames := 0, cells := 0, slots := 0, locals := 0 })
abbrev M_X7_skip : XM := (yX7_skip, cX7_skip, 2, some .boolean, { frames := 1, cells := 0, slots := 0, locals := 21 })
abbrev M_X7_digit : XM := (yX7_digit, cX7_digit, 4, some .int, { frames := 2, cells := 0, slots := 0, locals := 42 })
abbrev M_X7_windSign : XM := (yX7_windSign, cX7_windSign, 1, some .int, { frames := 2, cells := 0, slots := 0, locals := 42 })
abbrev M_X7_kindLetter : XM := (yX7_kindLetter, cX7_kindLetter, 1, some .int, { frames := 2, cells := 0, slots := 0, locals := 42 })
abbrev M_X8_init : XM := (yX8_init, cX8_init, 4, none, { frames := 3, cells := 0, slots := 0, locals := 66 })
abbrev M_X8_kindNumber : XM := (yX8_kindNumber, cX8_kindNumber, 1, some .int, { frames := 0, cells := 0, slots := 0, locals := 0 })
abbrev M_X8_goesAgainst : XM := (yX8_goesAgainst, cX8_goesAgainst, 1, some .int, { frames := 0, cells := 0, slots := 0, locals := 0 })
abbrev M_X8_counts : XM := (yX8_counts, cX8_counts, 1, some .boolean, { frames := 0, cells := 0, slots := 0, locals := 0 })
abbrev M_X8_telling : XM := (yX8_telling, cX8_telling, 3, some .int, { frames := 4, cells := 0, slots := 0, locals := 84 })
abbrev M_X8_hailing : XM := (yX8_hailing, cX8_hailing, 2, some .int, { frames := 1, cells := 0, slots := 0, locals := 21 })
abbrev M_X9_init : XM := (yX9_init, cX9_init, 1, none, { frames := 1, cells := 0, slots := 0, locals := 20 })
abbrev M_X9_leave : XM := (yX9_leave, cX9_leave, 2, none, { frames := 0, cells := 0, slots := 0, locals := 0 })
abbrev M_X10_init : XM := (yX10_init, cX10_init, 1, none, { frames := 1, cells := 1, slots := 3, locals := 20 })
abbrev M_X10_begin : XM := (yX10_begin, cX10_begin, 3, none, { frames := 1, cells := 0, slots := 0, locals := 21 })
abbrev M_X10_sail : XM := (yX10_sail, cX10_sail, 8, some .int, { frames := 2, cells := 0, slots := 0, locals := 47 })
abbrev M_X10_sailAll : XM := (yX10_sailAll, cX10_sailAll, 6, none, { frames := 3, cells := 0, slots := 0, locals := 74 })
abbrev M_X10_overSet : XM := (yX10_overSet, cX10_overSet, 4, some .int, { frames := 1, cells := 0, slots := 0, locals := 21 })
abbrev M_X10_stateNumber : XM := (yX10_stateNumber, cX10_stateNumber, 4, some .int, { frames := 0, cells := 0, slots := 0, locals := 0 })
abbrev M_X10_place : XM := (yX10_place, cX10_place, 5, none, { frames := 0, cells := 0, slots := 0, locals := 0 })
abbrev M_X11_init : XM := (yX11_init, cX11_init, 2, none, { frames := 3, cells := 100, slots := 2000, locals := 64 })
abbrev M_X11_lake : XM := (yX11_lake, cX11_lake, 7, some .int, { frames := 7, cells := 3, slots := 9, locals := 159 })
abbrev M_X11_faultOfText : XM := (yX11_faultOfText, cX11_faultOfText, 5, some .int, { frames := 2, cells := 0, slots := 0, locals := 41 })
abbrev M_X11_takeSpareWater : XM := (yX11_takeSpareWater, cX11_takeSpareWater, 2, none, { frames := 0, cells := 0, slots := 0, locals := 0 })
abbrev M_X11_ofBoat : XM := (yX11_ofBoat, cX11_ofBoat, 4, some .int, { frames := 1, cells := 0, slots := 0, locals := 21 })
abbrev M_X11_wind : XM := (yX11_wind, cX11_wind, 4, some .int, { frames := 1, cells := 0, slots := 0, locals := 21 })
abbrev M_X11_isle : XM := (yX11_isle, cX11_isle, 3, some .int, { frames := 1, cells := 0, slots := 0, locals := 21 })
abbrev M_X11_plan : XM := (yX11_plan, cX11_plan, 7, some .int, { frames := 4, cells := 0, slots := 0, locals := 99 })
abbrev M_X11_isQuestion : XM := (yX11_isQuestion, cX11_isQuestion, 1, some .boolean, { frames := 0, cells := 0, slots := 0, locals := 0 })
abbrev M_X11_answerOfVoyage : XM := (yX11_answerOfVoyage, cX11_answerOfVoyage, 2, some .int, { frames := 2, cells := 0, slots := 0, locals := 44 })
abbrev M_X11_refusalOfRow : XM := (yX11_refusalOfRow, cX11_refusalOfRow, 4, some .int, { frames := 1, cells := 0, slots := 0, locals := 20 })
abbrev M_X11_takeOrders : XM := (yX11_takeOrders, cX11_takeOrders, 8, some .int, { frames := 2, cells := 0, slots := 0, locals := 41 })
abbrev M_X11_soonest : XM := (yX11_soonest, cX11_soonest, 2, some .int, { frames := 6, cells := 0, slots := 0, locals := 150 })
abbrev M_X11_hats : XM := (yX11_hats, cX11_hats, 3, some .int, { frames := 6, cells := 0, slots := 0, locals := 151 })
abbrev M_X11_rid : XM := (yX11_rid, cX11_rid, 3, some .int, { frames := 6, cells := 0, slots := 0, locals := 150 })
abbrev M_X11_reading : XM := (yX11_reading, cX11_reading, 4, some .int, { frames := 1, cells := 0, slots := 0, locals := 23 })
abbrev M_X11_back : XM := (yX11_back, cX11_back, 2, some .int, { frames := 0, cells := 0, slots := 0, locals := 0 })
abbrev M_X11_winds : XM := (yX11_winds, cX11_winds, 10, some .int, { frames := 4, cells := 0, slots := 0, locals := 97 })
abbrev M_X11_kinds : XM := (yX11_kinds, cX11_kinds, 10, some .int, { frames := 5, cells := 3, slots := 9, locals := 112 })
abbrev M_X11_speeds : XM := (yX11_speeds, cX11_speeds, 10, some .int, { frames := 5, cells := 3, slots := 9, locals := 112 })
abbrev M_X11_refusalOfBoatPlan : XM := (yX11_refusalOfBoatPlan, cX11_refusalOfBoatPlan, 7, some .int, { frames := 3, cells := 0, slots := 0, locals := 68 })
abbrev M_X11_bitIfAsRead : XM := (yX11_bitIfAsRead, cX11_bitIfAsRead, 4, some .int, { frames := 3, cells := 0, slots := 0, locals := 74 })
abbrev M_X11_odds : XM := (yX11_odds, cX11_odds, 9, some .long, { frames := 5, cells := 0, slots := 0, locals := 121 })
abbrev M_X11_waysWithoutFine : XM := (yX11_waysWithoutFine, cX11_waysWithoutFine, 5, some .int, { frames := 4, cells := 0, slots := 0, locals := 97 })
abbrev M_X11_sailByChance : XM := (yX11_sailByChance, cX11_sailByChance, 4, none, { frames := 3, cells := 0, slots := 0, locals := 74 })
abbrev M_X11_sheet : XM := (yX11_sheet, cX11_sheet, 4, some .int, { frames := 2, cells := 0, slots := 0, locals := 45 })
abbrev M_X11_lose : XM := (yX11_lose, cX11_lose, 2, some .int, { frames := 1, cells := 0, slots := 0, locals := 20 })
abbrev M_X11_put : XM := (yX11_put, cX11_put, 5, some .int, { frames := 1, cells := 0, slots := 0, locals := 22 })
abbrev M_X11_cell : XM := (yX11_cell, cX11_cell, 6, some .long, { frames := 2, cells := 0, slots := 0, locals := 41 })
abbrev M_X11_copy : XM := (yX11_copy, cX11_copy, 8, some .int, { frames := 1, cells := 0, slots := 0, locals := 40 })
abbrev M_X11_tell : XM := (yX11_tell, cX11_tell, 2, some .int, { frames := 5, cells := 0, slots := 0, locals := 106 })
abbrev M_X11_hail : XM := (yX11_hail, cX11_hail, 2, some .int, { frames := 2, cells := 0, slots := 0, locals := 42 })
abbrev M_X11_as : XM := (yX11_as, cX11_as, 3, some .int, { frames := 1, cells := 0, slots := 0, locals := 21 })
abbrev M_X11_isOfKind : XM := (yX11_isOfKind, cX11_isOfKind, 2, some .boolean, { frames := 0, cells := 0, slots := 0, locals := 0 })
abbrev M_X11_trace : XM := (yX11_trace, cX11_trace, 1, some .int, { frames := 0, cells := 0, slots := 0, locals := 0 })
abbrev M_X11_fault : XM := (yX11_fault, cX11_fault, 1, some .int, { frames := 0, cells := 0, slots := 0, locals := 0 })
abbrev M_X11_many : XM := (yX11_many, cX11_many, 2, some .int, { frames := 0, cells := 0, slots := 0, locals := 0 })
abbrev M_X11_faulted : XM := (yX11_faulted, cX11_faulted, 2, some .int, { frames := 0, cells := 0, slots := 0, locals := 0 })
abbrev M_X11_isSheet : XM := (yX11_isSheet, cX11_isSheet, 1, some .boolean, { frames := 0, cells := 0, slots := 0, locals := 0 })
abbrev M_X11_isLane : XM := (yX11_isLane, cX11_isLane, 1, some .boolean, { frames := 0, cells := 0, slots := 0, locals := 0 })
abbrev M_X11_isBoat : XM := (yX11_isBoat, cX11_isBoat, 2, some .boolean, { frames := 0, cells := 0, slots := 0, locals := 0 })
abbrev M_X11_isHour : XM := (yX11_isHour, cX11_isHour, 2, some .boolean, { frames := 0, cells := 0, slots := 0, locals := 0 })
abbrev M_X11_isSet : XM := (yX11_isSet, cX11_isSet, 2, some .boolean, { frames := 1, cells := 0, slots := 0, locals := 20 })
abbrev M_X11_newBoat : XM := (yX11_newBoat, cX11_newBoat, 4, some (.object "LakeWind$Boat"), { frames := 4, cells := 1, slots := 3, locals := 89 })
abbrev M_X12_init : XM := (yX12_init, cX12_init, 1, none, { frames := 1, cells := 40, slots := 2000, locals := 20 })
abbrev M_X12_fails : XM := (yX12_fails, cX12_fails, 2, some .int, { frames := 0, cells := 0, slots := 0, locals := 0 })
abbrev M_X12_lost : XM := (yX12_lost, cX12_lost, 2, some .long, { frames := 0, cells := 0, slots := 0, locals := 0 })
abbrev M_X12_within : XM := (yX12_within, cX12_within, 3, some .boolean, { frames := 0, cells := 0, slots := 0, locals := 0 })
abbrev M_X12_isSheet : XM := (yX12_isSheet, cX12_isSheet, 1, some .boolean, { frames := 1, cells := 0, slots := 0, locals := 22 })
abbrev M_X12_isSort : XM := (yX12_isSort, cX12_isSort, 1, some .boolean, { frames := 1, cells := 0, slots := 0, locals := 22 })
abbrev M_X12_against : XM := (yX12_against, cX12_against, 5, some .int, { frames := 0, cells := 0, slots := 0, locals := 0 })
abbrev M_X12_isBoat : XM := (yX12_isBoat, cX12_isBoat, 2, some .boolean, { frames := 0, cells := 0, slots := 0, locals := 0 })
abbrev M_X12_isHour : XM := (yX12_isHour, cX12_isHour, 2, some .boolean, { frames := 0, cells := 0, slots := 0, locals := 0 })
abbrev M_X12_all : XM := (yX12_all, cX12_all, 1, some .int, { frames := 0, cells := 0, slots := 0, locals := 0 })
abbrev M_X12_digit : XM := (yX12_digit, cX12_digit, 4, some .int, { frames := 1, cells := 0, slots := 0, locals := 22 })
abbrev M_X12_isSign : XM := (yX12_isSign, cX12_isSign, 3, some .boolean, { frames := 0, cells := 0, slots := 0, locals := 0 })
abbrev M_X12_lake : XM := (yX12_lake, cX12_lake, 7, some .int, { frames := 4, cells := 0, slots := 0, locals := 90 })
abbrev M_X12_takeLake : XM := (yX12_takeLake, cX12_takeLake, 2, none, { frames := 0, cells := 0, slots := 0, locals := 0 })
abbrev M_X12_windBy : XM := (yX12_windBy, cX12_windBy, 1, some .int, { frames := 0, cells := 0, slots := 0, locals := 0 })
abbrev M_X12_readLake : XM := (yX12_readLake, cX12_readLake, 3, some .boolean, { frames := 3, cells := 0, slots := 0, locals := 68 })
abbrev M_X12_readBoat : XM := (yX12_readBoat, cX12_readBoat, 4, some .boolean, { frames := 2, cells := 0, slots := 0, locals := 45 })
abbrev M_X12_ofBoat : XM := (yX12_ofBoat, cX12_ofBoat, 3, some .int, { frames := 1, cells := 0, slots := 0, locals := 21 })
abbrev M_X12_wind : XM := (yX12_wind, cX12_wind, 4, some .int, { frames := 1, cells := 0, slots := 0, locals := 22 })
abbrev M_X12_isle : XM := (yX12_isle, cX12_isle, 4, some .int, { frames := 1, cells := 0, slots := 0, locals := 22 })
abbrev M_X12_asNumber : XM := (yX12_asNumber, cX12_asNumber, 3, some .int, { frames := 0, cells := 0, slots := 0, locals := 0 })
abbrev M_X12_asPlaces : XM := (yX12_asPlaces, cX12_asPlaces, 4, none, { frames := 0, cells := 0, slots := 0, locals := 0 })
abbrev M_X12_begins : XM := (yX12_begins, cX12_begins, 3, some .int, { frames := 1, cells := 0, slots := 0, locals := 22 })
abbrev M_X12_isOver : XM := (yX12_isOver, cX12_isOver, 2, some .boolean, { frames := 0, cells := 0, slots := 0, locals := 0 })
abbrev M_X12_over : XM := (yX12_over, cX12_over, 3, some .int, { frames := 1, cells := 0, slots := 0, locals := 21 })
abbrev M_X12_isWith : XM := (yX12_isWith, cX12_isWith, 3, some .boolean, { frames := 0, cells := 0, slots := 0, locals := 0 })
abbrev M_X12_finedBy : XM := (yX12_finedBy, cX12_finedBy, 5, some .int, { frames := 1, cells := 0, slots := 0, locals := 22 })
abbrev M_X12_bounded : XM := (yX12_bounded, cX12_bounded, 2, some .int, { frames := 0, cells := 0, slots := 0, locals := 0 })
abbrev M_X12_goHour : XM := (yX12_goHour, cX12_goHour, 6, none, { frames := 1, cells := 0, slots := 0, locals := 22 })
abbrev M_X12_layPlan : XM := (yX12_layPlan, cX12_layPlan, 7, some .int, { frames := 1, cells := 0, slots := 0, locals := 24 })
abbrev M_X12_isRow : XM := (yX12_isRow, cX12_isRow, 2, some .boolean, { frames := 2, cells := 0, slots := 0, locals := 42 })
abbrev M_X12_goPlan : XM := (yX12_goPlan, cX12_goPlan, 3, none, { frames := 2, cells := 0, slots := 0, locals := 47 })
abbrev M_X12_plan : XM := (yX12_plan, cX12_plan, 7, some .int, { frames := 3, cells := 0, slots := 0, locals := 69 })
abbrev M_X12_isThere : XM := (yX12_isThere, cX12_isThere, 3, some .boolean, { frames := 2, cells := 0, slots := 0, locals := 43 })
abbrev M_X12_goAll : XM := (yX12_goAll, cX12_goAll, 4, none, { frames := 2, cells := 0, slots := 0, locals := 47 })
abbrev M_X12_soonestOf : XM := (yX12_soonestOf, cX12_soonestOf, 4, some .int, { frames := 3, cells := 0, slots := 0, locals := 70 })
abbrev M_X12_soonest : XM := (yX12_soonest, cX12_soonest, 2, some .int, { frames := 4, cells := 0, slots := 0, locals := 93 })
abbrev M_X12_isInTime : XM := (yX12_isInTime, cX12_isInTime, 4, some .boolean, { frames := 4, cells := 0, slots := 0, locals := 93 })
abbrev M_X12_isByTwo : XM := (yX12_isByTwo, cX12_isByTwo, 9, some .boolean, { frames := 5, cells := 0, slots := 0, locals := 116 })
abbrev M_X12_isByOne : XM := (yX12_isByOne, cX12_isByOne, 7, some .boolean, { frames := 5, cells := 0, slots := 0, locals := 116 })
abbrev M_X12_hats : XM := (yX12_hats, cX12_hats, 7, some .int, { frames := 6, cells := 0, slots := 0, locals := 144 })
abbrev M_X12_rid : XM := (yX12_rid, cX12_rid, 3, some .int, { frames := 4, cells := 0, slots := 0, locals := 93 })
abbrev M_X12_reading : XM := (yX12_reading, cX12_reading, 4, some .int, { frames := 1, cells := 0, slots := 0, locals := 22 })
abbrev M_X12_back : XM := (yX12_back, cX12_back, 2, some .int, { frames := 1, cells := 0, slots := 0, locals := 22 })
abbrev M_X12_areSo : XM := (yX12_areSo, cX12_areSo, 4, some .boolean, { frames := 2, cells := 0, slots := 0, locals := 47 })
abbrev M_X12_lay : XM := (yX12_lay, cX12_lay, 6, some .int, { frames := 3, cells := 0, slots := 0, locals := 63 })
abbrev M_X12_winds : XM := (yX12_winds, cX12_winds, 10, some .int, { frames := 4, cells := 0, slots := 0, locals := 88 })
abbrev M_X12_kinds : XM := (yX12_kinds, cX12_kinds, 10, some .int, { frames := 4, cells := 0, slots := 0, locals := 88 })
abbrev M_X12_speeds : XM := (yX12_speeds, cX12_speeds, 10, some .int, { frames := 4, cells := 0, slots := 0, locals := 88 })
abbrev M_X12_inLeastTerms : XM := (yX12_inLeastTerms, cX12_inLeastTerms, 11, some .long, { frames := 0, cells := 0, slots := 0, locals := 0 })
abbrev M_X12_isFree : XM := (yX12_isFree, cX12_isFree, 4, some .boolean, { frames := 2, cells := 0, slots := 0, locals := 47 })
abbrev M_X12_odds : XM := (yX12_odds, cX12_odds, 8, some .long, { frames := 3, cells := 0, slots := 0, locals := 70 })
abbrev M_X12_sheet : XM := (yX12_sheet, cX12_sheet, 5, some .int, { frames := 2, cells := 0, slots := 0, locals := 42 })
abbrev M_X12_lose : XM := (yX12_lose, cX12_lose, 3, some .int, { frames := 2, cells := 0, slots := 0, locals := 42 })
abbrev M_X12_put : XM := (yX12_put, cX12_put, 4, some .int, { frames := 2, cells := 0, slots := 0, locals := 42 })
abbrev M_X12_cell : XM := (yX12_cell, cX12_cell, 4, some .long, { frames := 2, cells := 0, slots := 0, locals := 42 })
abbrev M_X12_copy : XM := (yX12_copy, cX12_copy, 10, some .int, { frames := 2, cells := 0, slots := 0, locals := 42 })
abbrev M_X12_leaves : XM := (yX12_leaves, cX12_leaves, 2, none, { frames := 0, cells := 0, slots := 0, locals := 0 })
abbrev M_X12_tell : XM := (yX12_tell, cX12_tell, 3, some .int, { frames := 1, cells := 0, slots := 0, locals := 21 })
abbrev M_X12_hail : XM := (yX12_hail, cX12_hail, 2, some .int, { frames := 1, cells := 0, slots := 0, locals := 21 })
abbrev M_X12_as : XM := (yX12_as, cX12_as, 3, some .int, { frames := 1, cells := 0, slots := 0, locals := 22 })
abbrev M_X12_trace : XM := (yX12_trace, cX12_trace, 1, some .int, { frames := 0, cells := 0, slots := 0, locals := 0 })
abbrev M_X12_fault : XM := (yX12_fault, cX12_fault, 1, some .int, { frames := 0, cells := 0, slots := 0, locals := 0 })
abbrev M_X12_many : XM := (yX12_many, cX12_many, 2, some .int, { frames := 0, cells := 0, slots := 0, locals := 0 })
abbrev M_A_fill : XM := (⟨"java/util/Arrays", "fill", "([II)V"⟩, prog_17_method_103_code, 4, none, { frames := 0, cells := 0, slots := 0, locals := 0 })
theorem xn_X0_init : x_N M_X0_init 3 := ⟨x_gm (List.mem_append_right _ (List.mem_of_getElem? (i := 180) (by decide +kernel))) rfl, x_gm (List.mem_append_right _ (List.mem_of_getElem? (i := 9) (by decide +kernel))) rfl, ⟨by decide +kernel, by decide +kernel⟩, by decide +kernel⟩
theorem xn_X0_kindNumber : x_N M_X0_kindNumber 0 := ⟨x_gm (List.mem_append_right _ (List.mem_of_getElem? (i := 414) (by decide +kernel))) rfl, x_gm (List.mem_append_right _ (List.mem_of_getElem? (i := 9) (by decide +kernel))) rfl, ⟨by decide +kernel, by decide +kernel⟩, by decide +kernel⟩
theorem xn_X0_goesAgainst : x_N M_X0_goesAgainst 0 := ⟨x_gm (List.mem_append_right _ (List.mem_of_getElem? (i := 425) (by decide +kernel))) rfl, x_gm (List.mem_append_right _ (List.mem_of_getElem? (i := 9) (by decide +kernel))) rfl, ⟨by decide +kernel, by decide +kernel⟩, by decide +kernel⟩
theorem xn_X0_counts : x_N M_X0_counts 0 := ⟨x_gm (List.mem_append_right _ (List.mem_of_getElem? (i := 501) (by decide +kernel))) rfl, x_gm (List.mem_append_right _ (List.mem_of_getElem? (i := 9) (by decide +kernel))) rfl, ⟨by decide +kernel, by decide +kernel⟩, by decide +kernel⟩
theorem xn_X0_telling : x_N M_X0_telling 1 := ⟨x_gm (List.mem_append_right _ (List.mem_of_getElem? (i := 765) (by decide +kernel))) rfl, x_gm (List.mem_append_right _ (List.mem_of_getElem? (i := 9) (by decide +kernel))) rfl, ⟨by decide +kernel, by decide +kernel⟩, by decide +kernel⟩
theorem xn_X0_tellingOfBoat : x_N M_X0_tellingOfBoat 1 := ⟨x_gm (List.mem_append_right _ (List.mem_of_getElem? (i := 763) (by decide +kernel))) rfl, x_gm (List.mem_append_right _ (List.mem_of_getElem? (i := 9) (by decide +kernel))) rfl, ⟨by decide +kernel, by decide +kernel⟩, by decide +kernel⟩
theorem xn_X0_hailing : x_N M_X0_hailing 1 := ⟨x_gm (List.mem_append_right _ (List.mem_of_getElem? (i := 779) (by decide +kernel))) rfl, x_gm (List.mem_append_right _ (List.mem_of_getElem? (i := 9) (by decide +kernel))) rfl, ⟨by decide +kernel, by decide +kernel⟩, by decide +kernel⟩
theorem xn_X1_init : x_N M_X1_init 0 := ⟨x_gm (List.mem_append_right _ (List.mem_of_getElem? (i := 173) (by decide +kernel))) rfl, x_gm (List.mem_append_right _ (List.mem_of_getElem? (i := 8) (by decide +kernel))) rfl, ⟨by decide +kernel, by decide +kernel⟩, by decide +kernel⟩
theorem xn_X1_drain : x_N M_X1_drain 0 := ⟨x_gm (List.mem_append_right _ (List.mem_of_getElem? (i := 330) (by decide +kernel))) rfl, x_gm (List.mem_append_right _ (List.mem_of_getElem? (i := 8) (by decide +kernel))) rfl, ⟨by decide +kernel, by decide +kernel⟩, by decide +kernel⟩
theorem xn_X1_isThere : x_N M_X1_isThere 0 := ⟨x_gm (List.mem_append_right _ (List.mem_of_getElem? (i := 433) (by decide +kernel))) rfl, x_gm (List.mem_append_right _ (List.mem_of_getElem? (i := 8) (by decide +kernel))) rfl, ⟨by decide +kernel, by decide +kernel⟩, by decide +kernel⟩
theorem xn_X1_allBoats : x_N M_X1_allBoats 0 := ⟨x_gm (List.mem_append_right _ (List.mem_of_getElem? (i := 468) (by decide +kernel))) rfl, x_gm (List.mem_append_right _ (List.mem_of_getElem? (i := 8) (by decide +kernel))) rfl, ⟨by decide +kernel, by decide +kernel⟩, by decide +kernel⟩
theorem xn_X1_hasIsle : x_N M_X1_hasIsle 1 := ⟨x_gm (List.mem_append_right _ (List.mem_of_getElem? (i := 445) (by decide +kernel))) rfl, x_gm (List.mem_append_right _ (List.mem_of_getElem? (i := 8) (by decide +kernel))) rfl, ⟨by decide +kernel, by decide +kernel⟩, by decide +kernel⟩
theorem xn_X1_startOf : x_N M_X1_startOf 1 := ⟨x_gm (List.mem_append_right _ (List.mem_of_getElem? (i := 480) (by decide +kernel))) rfl, x_gm (List.mem_append_right _ (List.mem_of_getElem? (i := 8) (by decide +kernel))) rfl, ⟨by decide +kernel, by decide +kernel⟩, by decide +kernel⟩
theorem xn_X1_goalOf : x_N M_X1_goalOf 1 := ⟨x_gm (List.mem_append_right _ (List.mem_of_getElem? (i := 488) (by decide +kernel))) rfl, x_gm (List.mem_append_right _ (List.mem_of_getElem? (i := 8) (by decide +kernel))) rfl, ⟨by decide +kernel, by decide +kernel⟩, by decide +kernel⟩
theorem xn_X1_isWith : x_N M_X1_isWith 2 := ⟨x_gm (List.mem_append_right _ (List.mem_of_getElem? (i := 505) (by decide +kernel))) rfl, x_gm (List.mem_append_right _ (List.mem_of_getElem? (i := 8) (by decide +kernel))) rfl, ⟨by decide +kernel, by decide +kernel⟩, by decide +kernel⟩
theorem xn_X1_countsWith : x_N M_X1_countsWith 2 := ⟨x_gm (List.mem_append_right _ (List.mem_of_getElem? (i := 492) (by decide +kernel))) rfl, x_gm (List.mem_append_right _ (List.mem_of_getElem? (i := 8) (by decide +kernel))) rfl, ⟨by decide +kernel, by decide +kernel⟩, by decide +kernel⟩
theorem xn_X1_cellAfter : x_N M_X1_cellAfter 4 := ⟨x_gm (List.mem_append_right _ (List.mem_of_getElem? (i := 509) (by decide +kernel))) rfl, x_gm (List.mem_append_right _ (List.mem_of_getElem? (i := 8) (by decide +kernel))) rfl, ⟨by decide +kernel, by decide +kernel⟩, by decide +kernel⟩
theorem xn_X1_states : x_N M_X1_states 0 := ⟨x_gm (List.mem_append_right _ (List.mem_of_getElem? (i := 544) (by decide +kernel))) rfl, x_gm (List.mem_append_right _ (List.mem_of_getElem? (i := 8) (by decide +kernel))) rfl, ⟨by decide +kernel, by decide +kernel⟩, by decide +kernel⟩
theorem xn_X2_init : x_N M_X2_init 3 := ⟨x_gm (List.mem_append_right _ (List.mem_of_getElem? (i := 374) (by decide +kernel))) rfl, x_gm (List.mem_append_right _ (List.mem_of_getElem? (i := 12) (by decide +kernel))) rfl, ⟨by decide +kernel, by decide +kernel⟩, by decide +kernel⟩
theorem xn_X2_kindNumber : x_N M_X2_kindNumber 0 := ⟨x_gm (List.mem_append_right _ (List.mem_of_getElem? (i := 410) (by decide +kernel))) rfl, x_gm (List.mem_append_right _ (List.mem_of_getElem? (i := 12) (by decide +kernel))) rfl, ⟨by decide +kernel, by decide +kernel⟩, by decide +kernel⟩
theorem xn_X2_goesAgainst : x_N M_X2_goesAgainst 0 := ⟨x_gm (List.mem_append_right _ (List.mem_of_getElem? (i := 421) (by decide +kernel))) rfl, x_gm (List.mem_append_right _ (List.mem_of_getElem? (i := 12) (by decide +kernel))) rfl, ⟨by decide +kernel, by decide +kernel⟩, by decide +kernel⟩
theorem xn_X2_telling : x_N M_X2_telling 1 := ⟨x_gm (List.mem_append_right _ (List.mem_of_getElem? (i := 747) (by decide +kernel))) rfl, x_gm (List.mem_append_right _ (List.mem_of_getElem? (i := 12) (by decide +kernel))) rfl, ⟨by decide +kernel, by decide +kernel⟩, by decide +kernel⟩
theorem xn_X3_init : x_N M_X3_init 0 := ⟨x_gm (List.mem_append_right _ (List.mem_of_getElem? (i := 52) (by decide +kernel))) rfl, x_gm (List.mem_append_right _ (List.mem_of_getElem? (i := 3) (by decide +kernel))) rfl, ⟨by decide +kernel, by decide +kernel⟩, by decide +kernel⟩
theorem xn_X3_add : x_N M_X3_add 3 := ⟨x_gm (List.mem_append_right _ (List.mem_of_getElem? (i := 649) (by decide +kernel))) rfl, x_gm (List.mem_append_right _ (List.mem_of_getElem? (i := 3) (by decide +kernel))) rfl, ⟨by decide +kernel, by decide +kernel⟩, by decide +kernel⟩
theorem xn_X3_areWithin : x_N M_X3_areWithin 1 := ⟨x_gm (List.mem_append_right _ (List.mem_of_getElem? (i := 665) (by decide +kernel))) rfl, x_gm (List.mem_append_right _ (List.mem_of_getElem? (i := 3) (by decide +kernel))) rfl, ⟨by decide +kernel, by decide +kernel⟩, by decide +kernel⟩
theorem xn_X3_areSo : x_N M_X3_areSo 2 := ⟨x_gm (List.mem_append_right _ (List.mem_of_getElem? (i := 671) (by decide +kernel))) rfl, x_gm (List.mem_append_right _ (List.mem_of_getElem? (i := 3) (by decide +kernel))) rfl, ⟨by decide +kernel, by decide +kernel⟩, by decide +kernel⟩
theorem xn_X4_init : x_N M_X4_init 0 := ⟨x_gm (List.mem_append_right _ (List.mem_of_getElem? (i := 96) (by decide +kernel))) rfl, x_gm (List.mem_append_right _ (List.mem_of_getElem? (i := 5) (by decide +kernel))) rfl, ⟨by decide +kernel, by decide +kernel⟩, by decide +kernel⟩
theorem xn_X4_fewestHours : x_N M_X4_fewestHours 2 := ⟨x_gm (List.mem_append_right _ (List.mem_of_getElem? (i := 536) (by decide +kernel))) rfl, x_gm (List.mem_append_right _ (List.mem_of_getElem? (i := 5) (by decide +kernel))) rfl, ⟨by decide +kernel, by decide +kernel⟩, by decide +kernel⟩
theorem xn_X4_fewestHats : x_N M_X4_fewestHats 3 := ⟨x_gm (List.mem_append_right _ (List.mem_of_getElem? (i := 613) (by decide +kernel))) rfl, x_gm (List.mem_append_right _ (List.mem_of_getElem? (i := 5) (by decide +kernel))) rfl, ⟨by decide +kernel, by decide +kernel⟩, by decide +kernel⟩
theorem xn_X4_leastHat : x_N M_X4_leastHat 2 := ⟨x_gm (List.mem_append_right _ (List.mem_of_getElem? (i := 629) (by decide +kernel))) rfl, x_gm (List.mem_append_right _ (List.mem_of_getElem? (i := 5) (by decide +kernel))) rfl, ⟨by decide +kernel, by decide +kernel⟩, by decide +kernel⟩
theorem xn_X4_leastTwoHats : x_N M_X4_leastTwoHats 2 := ⟨x_gm (List.mem_append_right _ (List.mem_of_getElem? (i := 637) (by decide +kernel))) rfl, x_gm (List.mem_append_right _ (List.mem_of_getElem? (i := 5) (by decide +kernel))) rfl, ⟨by decide +kernel, by decide +kernel⟩, by decide +kernel⟩
theorem xn_X4_startNow : x_N M_X4_startNow 0 := ⟨x_gm (List.mem_append_right _ (List.mem_of_getElem? (i := 580) (by decide +kernel))) rfl, x_gm (List.mem_append_right _ (List.mem_of_getElem? (i := 5) (by decide +kernel))) rfl, ⟨by decide +kernel, by decide +kernel⟩, by decide +kernel⟩
theorem xn_X4_isOverInSome : x_N M_X4_isOverInSome 2 := ⟨x_gm (List.mem_append_right _ (List.mem_of_getElem? (i := 584) (by decide +kernel))) rfl, x_gm (List.mem_append_right _ (List.mem_of_getElem? (i := 5) (by decide +kernel))) rfl, ⟨by decide +kernel, by decide +kernel⟩, by decide +kernel⟩
theorem xn_X4_fillGood : x_N M_X4_fillGood 3 := ⟨x_gm (List.mem_append_right _ (List.mem_of_getElem? (i := 617) (by decide +kernel))) rfl, x_gm (List.mem_append_right _ (List.mem_of_getElem? (i := 5) (by decide +kernel))) rfl, ⟨by decide +kernel, by decide +kernel⟩, by decide +kernel⟩
theorem xn_X4_fillGoodAhead : x_N M_X4_fillGoodAhead 3 := ⟨x_gm (List.mem_append_right _ (List.mem_of_getElem? (i := 621) (by decide +kernel))) rfl, x_gm (List.mem_append_right _ (List.mem_of_getElem? (i := 5) (by decide +kernel))) rfl, ⟨by decide +kernel, by decide +kernel⟩, by decide +kernel⟩
theorem xn_X4_advance : x_N M_X4_advance 2 := ⟨x_gm (List.mem_append_right _ (List.mem_of_getElem? (i := 592) (by decide +kernel))) rfl, x_gm (List.mem_append_right _ (List.mem_of_getElem? (i := 5) (by decide +kernel))) rfl, ⟨by decide +kernel, by decide +kernel⟩, by decide +kernel⟩
theorem xn_X4_throwHat : x_N M_X4_throwHat 3 := ⟨x_gm (List.mem_append_right _ (List.mem_of_getElem? (i := 633) (by decide +kernel))) rfl, x_gm (List.mem_append_right _ (List.mem_of_getElem? (i := 5) (by decide +kernel))) rfl, ⟨by decide +kernel, by decide +kernel⟩, by decide +kernel⟩
theorem xn_X4_addAfter : x_N M_X4_addAfter 3 := ⟨x_gm (List.mem_append_right _ (List.mem_of_getElem? (i := 596) (by decide +kernel))) rfl, x_gm (List.mem_append_right _ (List.mem_of_getElem? (i := 5) (by decide +kernel))) rfl, ⟨by decide +kernel, by decide +kernel⟩, by decide +kernel⟩
theorem xn_X4_rowOf : x_N M_X4_rowOf 1 := ⟨x_gm (List.mem_append_right _ (List.mem_of_getElem? (i := 576) (by decide +kernel))) rfl, x_gm (List.mem_append_right _ (List.mem_of_getElem? (i := 5) (by decide +kernel))) rfl, ⟨by decide +kernel, by decide +kernel⟩, by decide +kernel⟩
theorem xn_X4_prepare : x_N M_X4_prepare 1 := ⟨x_gm (List.mem_append_right _ (List.mem_of_getElem? (i := 540) (by decide +kernel))) rfl, x_gm (List.mem_append_right _ (List.mem_of_getElem? (i := 5) (by decide +kernel))) rfl, ⟨by decide +kernel, by decide +kernel⟩, by decide +kernel⟩
theorem xn_X4_fillAfter : x_N M_X4_fillAfter 3 := ⟨x_gm (List.mem_append_right _ (List.mem_of_getElem? (i := 558) (by decide +kernel))) rfl, x_gm (List.mem_append_right _ (List.mem_of_getElem? (i := 5) (by decide +kernel))) rfl, ⟨by decide +kernel, by decide +kernel⟩, by decide +kernel⟩
theorem xn_X4_findEnds : x_N M_X4_findEnds 2 := ⟨x_gm (List.mem_append_right _ (List.mem_of_getElem? (i := 562) (by decide +kernel))) rfl, x_gm (List.mem_append_right _ (List.mem_of_getElem? (i := 5) (by decide +kernel))) rfl, ⟨by decide +kernel, by decide +kernel⟩, by decide +kernel⟩
theorem xn_X5_init : x_N M_X5_init 0 := ⟨x_gm (List.mem_append_right _ (List.mem_of_getElem? (i := 243) (by decide +kernel))) rfl, x_gm (List.mem_append_right _ (List.mem_of_getElem? (i := 10) (by decide +kernel))) rfl, ⟨by decide +kernel, by decide +kernel⟩, by decide +kernel⟩
theorem xn_X5_hasRow : x_N M_X5_hasRow 0 := ⟨x_gm (List.mem_append_right _ (List.mem_of_getElem? (i := 314) (by decide +kernel))) rfl, x_gm (List.mem_append_right _ (List.mem_of_getElem? (i := 10) (by decide +kernel))) rfl, ⟨by decide +kernel, by decide +kernel⟩, by decide +kernel⟩
theorem xn_X5_renew : x_N M_X5_renew 2 := ⟨x_gm (List.mem_append_right _ (List.mem_of_getElem? (i := 711) (by decide +kernel))) rfl, x_gm (List.mem_append_right _ (List.mem_of_getElem? (i := 10) (by decide +kernel))) rfl, ⟨by decide +kernel, by decide +kernel⟩, by decide +kernel⟩
theorem xn_X5_faultAs : x_N M_X5_faultAs 1 := ⟨x_gm (List.mem_append_right _ (List.mem_of_getElem? (i := 310) (by decide +kernel))) rfl, x_gm (List.mem_append_right _ (List.mem_of_getElem? (i := 10) (by decide +kernel))) rfl, ⟨by decide +kernel, by decide +kernel⟩, by decide +kernel⟩
theorem xn_X5_holds : x_N M_X5_holds 2 := ⟨x_gm (List.mem_append_right _ (List.mem_of_getElem? (i := 318) (by decide +kernel))) rfl, x_gm (List.mem_append_right _ (List.mem_of_getElem? (i := 10) (by decide +kernel))) rfl, ⟨by decide +kernel, by decide +kernel⟩, by decide +kernel⟩
theorem xn_X5_cut : x_N M_X5_cut 1 := ⟨x_gm (List.mem_append_right _ (List.mem_of_getElem? (i := 725) (by decide +kernel))) rfl, x_gm (List.mem_append_right _ (List.mem_of_getElem? (i := 10) (by decide +kernel))) rfl, ⟨by decide +kernel, by decide +kernel⟩, by decide +kernel⟩
theorem xn_X6_init : x_N M_X6_init 0 := ⟨x_gm (List.mem_append_right _ (List.mem_of_getElem? (i := 104) (by decide +kernel))) rfl, x_gm (List.mem_append_right _ (List.mem_of_getElem? (i := 6) (by decide +kernel))) rfl, ⟨by decide +kernel, by decide +kernel⟩, by decide +kernel⟩
theorem xn_X6_clear : x_N M_X6_clear 0 := ⟨x_gm (List.mem_append_right _ (List.mem_of_getElem? (i := 569) (by decide +kernel))) rfl, x_gm (List.mem_append_right _ (List.mem_of_getElem? (i := 6) (by decide +kernel))) rfl, ⟨by decide +kernel, by decide +kernel⟩, by decide +kernel⟩
theorem xn_X6_become : x_N M_X6_become 1 := ⟨x_gm (List.mem_append_right _ (List.mem_of_getElem? (i := 604) (by decide +kernel))) rfl, x_gm (List.mem_append_right _ (List.mem_of_getElem? (i := 6) (by decide +kernel))) rfl, ⟨by decide +kernel, by decide +kernel⟩, by decide +kernel⟩
theorem xn_X6_add : x_N M_X6_add 1 := ⟨x_gm (List.mem_append_right _ (List.mem_of_getElem? (i := 573) (by decide +kernel))) rfl, x_gm (List.mem_append_right _ (List.mem_of_getElem? (i := 6) (by decide +kernel))) rfl, ⟨by decide +kernel, by decide +kernel⟩, by decide +kernel⟩
theorem xn_X6_addAll : x_N M_X6_addAll 2 := ⟨x_gm (List.mem_append_right _ (List.mem_of_getElem? (i := 600) (by decide +kernel))) rfl, x_gm (List.mem_append_right _ (List.mem_of_getElem? (i := 6) (by decide +kernel))) rfl, ⟨by decide +kernel, by decide +kernel⟩, by decide +kernel⟩
theorem xn_X6_has : x_N M_X6_has 1 := ⟨x_gm (List.mem_append_right _ (List.mem_of_getElem? (i := 588) (by decide +kernel))) rfl, x_gm (List.mem_append_right _ (List.mem_of_getElem? (i := 6) (by decide +kernel))) rfl, ⟨by decide +kernel, by decide +kernel⟩, by decide +kernel⟩
theorem xn_X6_meets : x_N M_X6_meets 2 := ⟨x_gm (List.mem_append_right _ (List.mem_of_getElem? (i := 625) (by decide +kernel))) rfl, x_gm (List.mem_append_right _ (List.mem_of_getElem? (i := 6) (by decide +kernel))) rfl, ⟨by decide +kernel, by decide +kernel⟩, by decide +kernel⟩
theorem xn_X7_init : x_N M_X7_init 0 := ⟨x_gm (List.mem_append_right _ (List.mem_of_getElem? (i := 31) (by decide +kernel))) rfl, x_gm (List.mem_append_right _ (List.mem_of_getElem? (i := 2) (by decide +kernel))) rfl, ⟨by decide +kernel, by decide +kernel⟩, by decide +kernel⟩
theorem xn_X7_begin : x_N M_X7_begin 3 := ⟨x_gm (List.mem_append_right _ (List.mem_of_getElem? (i := 326) (by decide +kernel))) rfl, x_gm (List.mem_append_right _ (List.mem_of_getElem? (i := 2) (by decide +kernel))) rfl, ⟨by decide +kernel, by decide +kernel⟩, by decide +kernel⟩
theorem xn_X7_readWater : x_N M_X7_readWater 1 := ⟨x_gm (List.mem_append_right _ (List.mem_of_getElem? (i := 334) (by decide +kernel))) rfl, x_gm (List.mem_append_right _ (List.mem_of_getElem? (i := 2) (by decide +kernel))) rfl, ⟨by decide +kernel, by decide +kernel⟩, by decide +kernel⟩
theorem xn_X7_readWinds : x_N M_X7_readWinds 1 := ⟨x_gm (List.mem_append_right _ (List.mem_of_getElem? (i := 350) (by decide +kernel))) rfl, x_gm (List.mem_append_right _ (List.mem_of_getElem? (i := 2) (by decide +kernel))) rfl, ⟨by decide +kernel, by decide +kernel⟩, by decide +kernel⟩
theorem xn_X7_readBoats : x_N M_X7_readBoats 1 := ⟨x_gm (List.mem_append_right _ (List.mem_of_getElem? (i := 358) (by decide +kernel))) rfl, x_gm (List.mem_append_right _ (List.mem_of_getElem? (i := 2) (by decide +kernel))) rfl, ⟨by decide +kernel, by decide +kernel⟩, by decide +kernel⟩
theorem xn_X7_readBoat : x_N M_X7_readBoat 2 := ⟨x_gm (List.mem_append_right _ (List.mem_of_getElem? (i := 362) (by decide +kernel))) rfl, x_gm (List.mem_append_right _ (List.mem_of_getElem? (i := 2) (by decide +kernel))) rfl, ⟨by decide +kernel, by decide +kernel⟩, by decide +kernel⟩
theorem xn_X7_isNext : x_N M_X7_isNext 1 := ⟨x_gm (List.mem_append_right _ (List.mem_of_getElem? (i := 342) (by decide +kernel))) rfl, x_gm (List.mem_append_right _ (List.mem_of_getElem? (i := 2) (by decide +kernel))) rfl, ⟨by decide +kernel, by decide +kernel⟩, by decide +kernel⟩
theorem xn_X7_skip : x_N M_X7_skip 1 := ⟨x_gm (List.mem_append_right _ (List.mem_of_getElem? (i := 338) (by decide +kernel))) rfl, x_gm (List.mem_append_right _ (List.mem_of_getElem? (i := 2) (by decide +kernel))) rfl, ⟨by decide +kernel, by decide +kernel⟩, by decide +kernel⟩
theorem xn_X7_digit : x_N M_X7_digit 2 := ⟨x_gm (List.mem_append_right _ (List.mem_of_getElem? (i := 346) (by decide +kernel))) rfl, x_gm (List.mem_append_right _ (List.mem_of_getElem? (i := 2) (by decide +kernel))) rfl, ⟨by decide +kernel, by decide +kernel⟩, by decide +kernel⟩
theorem xn_X7_windSign : x_N M_X7_windSign 0 := ⟨x_gm (List.mem_append_right _ (List.mem_of_getElem? (i := 354) (by decide +kernel))) rfl, x_gm (List.mem_append_right _ (List.mem_of_getElem? (i := 2) (by decide +kernel))) rfl, ⟨by decide +kernel, by decide +kernel⟩, by decide +kernel⟩
theorem xn_X7_kindLetter : x_N M_X7_kindLetter 0 := ⟨x_gm (List.mem_append_right _ (List.mem_of_getElem? (i := 366) (by decide +kernel))) rfl, x_gm (List.mem_append_right _ (List.mem_of_getElem? (i := 2) (by decide +kernel))) rfl, ⟨by decide +kernel, by decide +kernel⟩, by decide +kernel⟩
theorem xn_X8_init : x_N M_X8_init 3 := ⟨x_gm (List.mem_append_right _ (List.mem_of_getElem? (i := 384) (by decide +kernel))) rfl, x_gm (List.mem_append_right _ (List.mem_of_getElem? (i := 13) (by decide +kernel))) rfl, ⟨by decide +kernel, by decide +kernel⟩, by decide +kernel⟩
theorem xn_X8_kindNumber : x_N M_X8_kindNumber 0 := ⟨x_gm (List.mem_append_right _ (List.mem_of_getElem? (i := 413) (by decide +kernel))) rfl, x_gm (List.mem_append_right _ (List.mem_of_getElem? (i := 13) (by decide +kernel))) rfl, ⟨by decide +kernel, by decide +kernel⟩, by decide +kernel⟩
theorem xn_X8_goesAgainst : x_N M_X8_goesAgainst 0 := ⟨x_gm (List.mem_append_right _ (List.mem_of_getElem? (i := 424) (by decide +kernel))) rfl, x_gm (List.mem_append_right _ (List.mem_of_getElem? (i := 13) (by decide +kernel))) rfl, ⟨by decide +kernel, by decide +kernel⟩, by decide +kernel⟩
theorem xn_X8_counts : x_N M_X8_counts 0 := ⟨x_gm (List.mem_append_right _ (List.mem_of_getElem? (i := 500) (by decide +kernel))) rfl, x_gm (List.mem_append_right _ (List.mem_of_getElem? (i := 13) (by decide +kernel))) rfl, ⟨by decide +kernel, by decide +kernel⟩, by decide +kernel⟩
theorem xn_X8_telling : x_N M_X8_telling 1 := ⟨x_gm (List.mem_append_right _ (List.mem_of_getElem? (i := 755) (by decide +kernel))) rfl, x_gm (List.mem_append_right _ (List.mem_of_getElem? (i := 13) (by decide +kernel))) rfl, ⟨by decide +kernel, by decide +kernel⟩, by decide +kernel⟩
theorem xn_X8_hailing : x_N M_X8_hailing 1 := ⟨x_gm (List.mem_append_right _ (List.mem_of_getElem? (i := 778) (by decide +kernel))) rfl, x_gm (List.mem_append_right _ (List.mem_of_getElem? (i := 13) (by decide +kernel))) rfl, ⟨by decide +kernel, by decide +kernel⟩, by decide +kernel⟩
theorem xn_X9_init : x_N M_X9_init 0 := ⟨x_gm (List.mem_append_right _ (List.mem_of_getElem? (i := 162) (by decide +kernel))) rfl, x_gm (List.mem_append_right _ (List.mem_of_getElem? (i := 7) (by decide +kernel))) rfl, ⟨by decide +kernel, by decide +kernel⟩, by decide +kernel⟩
theorem xn_X9_leave : x_N M_X9_leave 1 := ⟨x_gm (List.mem_append_right _ (List.mem_of_getElem? (i := 751) (by decide +kernel))) rfl, x_gm (List.mem_append_right _ (List.mem_of_getElem? (i := 7) (by decide +kernel))) rfl, ⟨by decide +kernel, by decide +kernel⟩, by decide +kernel⟩
theorem xn_X10_init : x_N M_X10_init 0 := ⟨x_gm (List.mem_append_right _ (List.mem_of_getElem? (i := 72) (by decide +kernel))) rfl, x_gm (List.mem_append_right _ (List.mem_of_getElem? (i := 4) (by decide +kernel))) rfl, ⟨by decide +kernel, by decide +kernel⟩, by decide +kernel⟩
theorem xn_X10_begin : x_N M_X10_begin 1 := ⟨x_gm (List.mem_append_right _ (List.mem_of_getElem? (i := 476) (by decide +kernel))) rfl, x_gm (List.mem_append_right _ (List.mem_of_getElem? (i := 4) (by decide +kernel))) rfl, ⟨by decide +kernel, by decide +kernel⟩, by decide +kernel⟩
theorem xn_X10_sail : x_N M_X10_sail 3 := ⟨x_gm (List.mem_append_right _ (List.mem_of_getElem? (i := 484) (by decide +kernel))) rfl, x_gm (List.mem_append_right _ (List.mem_of_getElem? (i := 4) (by decide +kernel))) rfl, ⟨by decide +kernel, by decide +kernel⟩, by decide +kernel⟩
theorem xn_X10_sailAll : x_N M_X10_sailAll 3 := ⟨x_gm (List.mem_append_right _ (List.mem_of_getElem? (i := 472) (by decide +kernel))) rfl, x_gm (List.mem_append_right _ (List.mem_of_getElem? (i := 4) (by decide +kernel))) rfl, ⟨by decide +kernel, by decide +kernel⟩, by decide +kernel⟩
theorem xn_X10_overSet : x_N M_X10_overSet 1 := ⟨x_gm (List.mem_append_right _ (List.mem_of_getElem? (i := 522) (by decide +kernel))) rfl, x_gm (List.mem_append_right _ (List.mem_of_getElem? (i := 4) (by decide +kernel))) rfl, ⟨by decide +kernel, by decide +kernel⟩, by decide +kernel⟩
theorem xn_X10_stateNumber : x_N M_X10_stateNumber 1 := ⟨x_gm (List.mem_append_right _ (List.mem_of_getElem? (i := 549) (by decide +kernel))) rfl, x_gm (List.mem_append_right _ (List.mem_of_getElem? (i := 4) (by decide +kernel))) rfl, ⟨by decide +kernel, by decide +kernel⟩, by decide +kernel⟩
theorem xn_X10_place : x_N M_X10_place 2 := ⟨x_gm (List.mem_append_right _ (List.mem_of_getElem? (i := 553) (by decide +kernel))) rfl, x_gm (List.mem_append_right _ (List.mem_of_getElem? (i := 4) (by decide +kernel))) rfl, ⟨by decide +kernel, by decide +kernel⟩, by decide +kernel⟩
theorem xn_X11_init : x_N M_X11_init 0 := ⟨x_gm (List.mem_append_right _ (List.mem_of_getElem? (i := 21) (by decide +kernel))) rfl, x_gm (List.mem_append_right _ (List.mem_of_getElem? (i := 1) (by decide +kernel))) rfl, ⟨by decide +kernel, by decide +kernel⟩, by decide +kernel⟩
theorem xn_X11_lake : x_N M_X11_lake 4 := ⟨x_gm (List.mem_append_right _ (List.mem_of_getElem? (i := 297) (by decide +kernel))) rfl, x_gm (List.mem_append_right _ (List.mem_of_getElem? (i := 1) (by decide +kernel))) rfl, ⟨by decide +kernel, by decide +kernel⟩, by decide +kernel⟩
theorem xn_X11_faultOfText : x_N M_X11_faultOfText 4 := ⟨x_gm (List.mem_append_right _ (List.mem_of_getElem? (i := 306) (by decide +kernel))) rfl, x_gm (List.mem_append_right _ (List.mem_of_getElem? (i := 1) (by decide +kernel))) rfl, ⟨by decide +kernel, by decide +kernel⟩, by decide +kernel⟩
theorem xn_X11_takeSpareWater : x_N M_X11_takeSpareWater 0 := ⟨x_gm (List.mem_append_right _ (List.mem_of_getElem? (i := 395) (by decide +kernel))) rfl, x_gm (List.mem_append_right _ (List.mem_of_getElem? (i := 1) (by decide +kernel))) rfl, ⟨by decide +kernel, by decide +kernel⟩, by decide +kernel⟩
theorem xn_X11_ofBoat : x_N M_X11_ofBoat 2 := ⟨x_gm (List.mem_append_right _ (List.mem_of_getElem? (i := 399) (by decide +kernel))) rfl, x_gm (List.mem_append_right _ (List.mem_of_getElem? (i := 1) (by decide +kernel))) rfl, ⟨by decide +kernel, by decide +kernel⟩, by decide +kernel⟩
theorem xn_X11_wind : x_N M_X11_wind 2 := ⟨x_gm (List.mem_append_right _ (List.mem_of_getElem? (i := 429) (by decide +kernel))) rfl, x_gm (List.mem_append_right _ (List.mem_of_getElem? (i := 1) (by decide +kernel))) rfl, ⟨by decide +kernel, by decide +kernel⟩, by decide +kernel⟩
theorem xn_X11_isle : x_N M_X11_isle 2 := ⟨x_gm (List.mem_append_right _ (List.mem_of_getElem? (i := 441) (by decide +kernel))) rfl, x_gm (List.mem_append_right _ (List.mem_of_getElem? (i := 1) (by decide +kernel))) rfl, ⟨by decide +kernel, by decide +kernel⟩, by decide +kernel⟩
theorem xn_X11_plan : x_N M_X11_plan 5 := ⟨x_gm (List.mem_append_right _ (List.mem_of_getElem? (i := 449) (by decide +kernel))) rfl, x_gm (List.mem_append_right _ (List.mem_of_getElem? (i := 1) (by decide +kernel))) rfl, ⟨by decide +kernel, by decide +kernel⟩, by decide +kernel⟩
theorem xn_X11_isQuestion : x_N M_X11_isQuestion 1 := ⟨x_gm (List.mem_append_right _ (List.mem_of_getElem? (i := 456) (by decide +kernel))) rfl, x_gm (List.mem_append_right _ (List.mem_of_getElem? (i := 1) (by decide +kernel))) rfl, ⟨by decide +kernel, by decide +kernel⟩, by decide +kernel⟩
theorem xn_X11_answerOfVoyage : x_N M_X11_answerOfVoyage 1 := ⟨x_gm (List.mem_append_right _ (List.mem_of_getElem? (i := 527) (by decide +kernel))) rfl, x_gm (List.mem_append_right _ (List.mem_of_getElem? (i := 1) (by decide +kernel))) rfl, ⟨by decide +kernel, by decide +kernel⟩, by decide +kernel⟩
theorem xn_X11_refusalOfRow : x_N M_X11_refusalOfRow 3 := ⟨x_gm (List.mem_append_right _ (List.mem_of_getElem? (i := 453) (by decide +kernel))) rfl, x_gm (List.mem_append_right _ (List.mem_of_getElem? (i := 1) (by decide +kernel))) rfl, ⟨by decide +kernel, by decide +kernel⟩, by decide +kernel⟩
theorem xn_X11_takeOrders : x_N M_X11_takeOrders 4 := ⟨x_gm (List.mem_append_right _ (List.mem_of_getElem? (i := 460) (by decide +kernel))) rfl, x_gm (List.mem_append_right _ (List.mem_of_getElem? (i := 1) (by decide +kernel))) rfl, ⟨by decide +kernel, by decide +kernel⟩, by decide +kernel⟩
theorem xn_X11_soonest : x_N M_X11_soonest 1 := ⟨x_gm (List.mem_append_right _ (List.mem_of_getElem? (i := 532) (by decide +kernel))) rfl, x_gm (List.mem_append_right _ (List.mem_of_getElem? (i := 1) (by decide +kernel))) rfl, ⟨by decide +kernel, by decide +kernel⟩, by decide +kernel⟩
theorem xn_X11_hats : x_N M_X11_hats 2 := ⟨x_gm (List.mem_append_right _ (List.mem_of_getElem? (i := 608) (by decide +kernel))) rfl, x_gm (List.mem_append_right _ (List.mem_of_getElem? (i := 1) (by decide +kernel))) rfl, ⟨by decide +kernel, by decide +kernel⟩, by decide +kernel⟩
theorem xn_X11_rid : x_N M_X11_rid 1 := ⟨x_gm (List.mem_append_right _ (List.mem_of_getElem? (i := 641) (by decide +kernel))) rfl, x_gm (List.mem_append_right _ (List.mem_of_getElem? (i := 1) (by decide +kernel))) rfl, ⟨by decide +kernel, by decide +kernel⟩, by decide +kernel⟩
theorem xn_X11_reading : x_N M_X11_reading 3 := ⟨x_gm (List.mem_append_right _ (List.mem_of_getElem? (i := 645) (by decide +kernel))) rfl, x_gm (List.mem_append_right _ (List.mem_of_getElem? (i := 1) (by decide +kernel))) rfl, ⟨by decide +kernel, by decide +kernel⟩, by decide +kernel⟩
theorem xn_X11_back : x_N M_X11_back 1 := ⟨x_gm (List.mem_append_right _ (List.mem_of_getElem? (i := 653) (by decide +kernel))) rfl, x_gm (List.mem_append_right _ (List.mem_of_getElem? (i := 1) (by decide +kernel))) rfl, ⟨by decide +kernel, by decide +kernel⟩, by decide +kernel⟩
theorem xn_X11_winds : x_N M_X11_winds 5 := ⟨x_gm (List.mem_append_right _ (List.mem_of_getElem? (i := 657) (by decide +kernel))) rfl, x_gm (List.mem_append_right _ (List.mem_of_getElem? (i := 1) (by decide +kernel))) rfl, ⟨by decide +kernel, by decide +kernel⟩, by decide +kernel⟩
theorem xn_X11_kinds : x_N M_X11_kinds 5 := ⟨x_gm (List.mem_append_right _ (List.mem_of_getElem? (i := 675) (by decide +kernel))) rfl, x_gm (List.mem_append_right _ (List.mem_of_getElem? (i := 1) (by decide +kernel))) rfl, ⟨by decide +kernel, by decide +kernel⟩, by decide +kernel⟩
theorem xn_X11_speeds : x_N M_X11_speeds 5 := ⟨x_gm (List.mem_append_right _ (List.mem_of_getElem? (i := 684) (by decide +kernel))) rfl, x_gm (List.mem_append_right _ (List.mem_of_getElem? (i := 1) (by decide +kernel))) rfl, ⟨by decide +kernel, by decide +kernel⟩, by decide +kernel⟩
theorem xn_X11_refusalOfBoatPlan : x_N M_X11_refusalOfBoatPlan 5 := ⟨x_gm (List.mem_append_right _ (List.mem_of_getElem? (i := 679) (by decide +kernel))) rfl, x_gm (List.mem_append_right _ (List.mem_of_getElem? (i := 1) (by decide +kernel))) rfl, ⟨by decide +kernel, by decide +kernel⟩, by decide +kernel⟩
theorem xn_X11_bitIfAsRead : x_N M_X11_bitIfAsRead 2 := ⟨x_gm (List.mem_append_right _ (List.mem_of_getElem? (i := 661) (by decide +kernel))) rfl, x_gm (List.mem_append_right _ (List.mem_of_getElem? (i := 1) (by decide +kernel))) rfl, ⟨by decide +kernel, by decide +kernel⟩, by decide +kernel⟩
theorem xn_X11_odds : x_N M_X11_odds 5 := ⟨x_gm (List.mem_append_right _ (List.mem_of_getElem? (i := 688) (by decide +kernel))) rfl, x_gm (List.mem_append_right _ (List.mem_of_getElem? (i := 1) (by decide +kernel))) rfl, ⟨by decide +kernel, by decide +kernel⟩, by decide +kernel⟩
theorem xn_X11_waysWithoutFine : x_N M_X11_waysWithoutFine 1 := ⟨x_gm (List.mem_append_right _ (List.mem_of_getElem? (i := 693) (by decide +kernel))) rfl, x_gm (List.mem_append_right _ (List.mem_of_getElem? (i := 1) (by decide +kernel))) rfl, ⟨by decide +kernel, by decide +kernel⟩, by decide +kernel⟩
theorem xn_X11_sailByChance : x_N M_X11_sailByChance 2 := ⟨x_gm (List.mem_append_right _ (List.mem_of_getElem? (i := 702) (by decide +kernel))) rfl, x_gm (List.mem_append_right _ (List.mem_of_getElem? (i := 1) (by decide +kernel))) rfl, ⟨by decide +kernel, by decide +kernel⟩, by decide +kernel⟩
theorem xn_X11_sheet : x_N M_X11_sheet 3 := ⟨x_gm (List.mem_append_right _ (List.mem_of_getElem? (i := 707) (by decide +kernel))) rfl, x_gm (List.mem_append_right _ (List.mem_of_getElem? (i := 1) (by decide +kernel))) rfl, ⟨by decide +kernel, by decide +kernel⟩, by decide +kernel⟩
theorem xn_X11_lose : x_N M_X11_lose 1 := ⟨x_gm (List.mem_append_right _ (List.mem_of_getElem? (i := 716) (by decide +kernel))) rfl, x_gm (List.mem_append_right _ (List.mem_of_getElem? (i := 1) (by decide +kernel))) rfl, ⟨by decide +kernel, by decide +kernel⟩, by decide +kernel⟩
theorem xn_X11_put : x_N M_X11_put 3 := ⟨x_gm (List.mem_append_right _ (List.mem_of_getElem? (i := 721) (by decide +kernel))) rfl, x_gm (List.mem_append_right _ (List.mem_of_getElem? (i := 1) (by decide +kernel))) rfl, ⟨by decide +kernel, by decide +kernel⟩, by decide +kernel⟩
theorem xn_X11_cell : x_N M_X11_cell 3 := ⟨x_gm (List.mem_append_right _ (List.mem_of_getElem? (i := 729) (by decide +kernel))) rfl, x_gm (List.mem_append_right _ (List.mem_of_getElem? (i := 1) (by decide +kernel))) rfl, ⟨by decide +kernel, by decide +kernel⟩, by decide +kernel⟩
theorem xn_X11_copy : x_N M_X11_copy 5 := ⟨x_gm (List.mem_append_right _ (List.mem_of_getElem? (i := 733) (by decide +kernel))) rfl, x_gm (List.mem_append_right _ (List.mem_of_getElem? (i := 1) (by decide +kernel))) rfl, ⟨by decide +kernel, by decide +kernel⟩, by decide +kernel⟩
theorem xn_X11_tell : x_N M_X11_tell 1 := ⟨x_gm (List.mem_append_right _ (List.mem_of_getElem? (i := 740) (by decide +kernel))) rfl, x_gm (List.mem_append_right _ (List.mem_of_getElem? (i := 1) (by decide +kernel))) rfl, ⟨by decide +kernel, by decide +kernel⟩, by decide +kernel⟩
theorem xn_X11_hail : x_N M_X11_hail 1 := ⟨x_gm (List.mem_append_right _ (List.mem_of_getElem? (i := 770) (by decide +kernel))) rfl, x_gm (List.mem_append_right _ (List.mem_of_getElem? (i := 1) (by decide +kernel))) rfl, ⟨by decide +kernel, by decide +kernel⟩, by decide +kernel⟩
theorem xn_X11_as : x_N M_X11_as 2 := ⟨x_gm (List.mem_append_right _ (List.mem_of_getElem? (i := 783) (by decide +kernel))) rfl, x_gm (List.mem_append_right _ (List.mem_of_getElem? (i := 1) (by decide +kernel))) rfl, ⟨by decide +kernel, by decide +kernel⟩, by decide +kernel⟩
theorem xn_X11_isOfKind : x_N M_X11_isOfKind 2 := ⟨x_gm (List.mem_append_right _ (List.mem_of_getElem? (i := 786) (by decide +kernel))) rfl, x_gm (List.mem_append_right _ (List.mem_of_getElem? (i := 1) (by decide +kernel))) rfl, ⟨by decide +kernel, by decide +kernel⟩, by decide +kernel⟩
theorem xn_X11_trace : x_N M_X11_trace 0 := ⟨x_gm (List.mem_append_right _ (List.mem_of_getElem? (i := 790) (by decide +kernel))) rfl, x_gm (List.mem_append_right _ (List.mem_of_getElem? (i := 1) (by decide +kernel))) rfl, ⟨by decide +kernel, by decide +kernel⟩, by decide +kernel⟩
theorem xn_X11_fault : x_N M_X11_fault 0 := ⟨x_gm (List.mem_append_right _ (List.mem_of_getElem? (i := 794) (by decide +kernel))) rfl, x_gm (List.mem_append_right _ (List.mem_of_getElem? (i := 1) (by decide +kernel))) rfl, ⟨by decide +kernel, by decide +kernel⟩, by decide +kernel⟩
theorem xn_X11_many : x_N M_X11_many 1 := ⟨x_gm (List.mem_append_right _ (List.mem_of_getElem? (i := 798) (by decide +kernel))) rfl, x_gm (List.mem_append_right _ (List.mem_of_getElem? (i := 1) (by decide +kernel))) rfl, ⟨by decide +kernel, by decide +kernel⟩, by decide +kernel⟩
theorem xn_X11_faulted : x_N M_X11_faulted 1 := ⟨x_gm (List.mem_append_right _ (List.mem_of_getElem? (i := 322) (by decide +kernel))) rfl, x_gm (List.mem_append_right _ (List.mem_of_getElem? (i := 1) (by decide +kernel))) rfl, ⟨by decide +kernel, by decide +kernel⟩, by decide +kernel⟩
theorem xn_X11_isSheet : x_N M_X11_isSheet 1 := ⟨x_gm (List.mem_append_right _ (List.mem_of_getElem? (i := 300) (by decide +kernel))) rfl, x_gm (List.mem_append_right _ (List.mem_of_getElem? (i := 1) (by decide +kernel))) rfl, ⟨by decide +kernel, by decide +kernel⟩, by decide +kernel⟩
theorem xn_X11_isLane : x_N M_X11_isLane 1 := ⟨x_gm (List.mem_append_right _ (List.mem_of_getElem? (i := 303) (by decide +kernel))) rfl, x_gm (List.mem_append_right _ (List.mem_of_getElem? (i := 1) (by decide +kernel))) rfl, ⟨by decide +kernel, by decide +kernel⟩, by decide +kernel⟩
theorem xn_X11_isBoat : x_N M_X11_isBoat 1 := ⟨x_gm (List.mem_append_right _ (List.mem_of_getElem? (i := 403) (by decide +kernel))) rfl, x_gm (List.mem_append_right _ (List.mem_of_getElem? (i := 1) (by decide +kernel))) rfl, ⟨by decide +kernel, by decide +kernel⟩, by decide +kernel⟩
theorem xn_X11_isHour : x_N M_X11_isHour 1 := ⟨x_gm (List.mem_append_right _ (List.mem_of_getElem? (i := 437) (by decide +kernel))) rfl, x_gm (List.mem_append_right _ (List.mem_of_getElem? (i := 1) (by decide +kernel))) rfl, ⟨by decide +kernel, by decide +kernel⟩, by decide +kernel⟩
theorem xn_X11_isSet : x_N M_X11_isSet 1 := ⟨x_gm (List.mem_append_right _ (List.mem_of_getElem? (i := 464) (by decide +kernel))) rfl, x_gm (List.mem_append_right _ (List.mem_of_getElem? (i := 1) (by decide +kernel))) rfl, ⟨by decide +kernel, by decide +kernel⟩, by decide +kernel⟩
theorem xn_X11_newBoat : x_N M_X11_newBoat 4 := ⟨x_gm (List.mem_append_right _ (List.mem_of_getElem? (i := 369) (by decide +kernel))) rfl, x_gm (List.mem_append_right _ (List.mem_of_getElem? (i := 1) (by decide +kernel))) rfl, ⟨by decide +kernel, by decide +kernel⟩, by decide +kernel⟩
theorem xn_X12_init : x_N M_X12_init 0 := ⟨x_gm (List.mem_append_right _ (List.mem_of_getElem? (i := 803) (by decide +kernel))) rfl, x_gm (List.mem_append_right _ (List.mem_of_getElem? (i := 11) (by decide +kernel))) rfl, ⟨by decide +kernel, by decide +kernel⟩, by decide +kernel⟩
theorem xn_X12_fails : x_N M_X12_fails 1 := ⟨x_gm (List.mem_append_right _ (List.mem_of_getElem? (i := 923) (by decide +kernel))) rfl, x_gm (List.mem_append_right _ (List.mem_of_getElem? (i := 11) (by decide +kernel))) rfl, ⟨by decide +kernel, by decide +kernel⟩, by decide +kernel⟩
theorem xn_X12_lost : x_N M_X12_lost 1 := ⟨x_gm (List.mem_append_right _ (List.mem_of_getElem? (i := 1117) (by decide +kernel))) rfl, x_gm (List.mem_append_right _ (List.mem_of_getElem? (i := 11) (by decide +kernel))) rfl, ⟨by decide +kernel, by decide +kernel⟩, by decide +kernel⟩
theorem xn_X12_within : x_N M_X12_within 3 := ⟨x_gm (List.mem_append_right _ (List.mem_of_getElem? (i := 912) (by decide +kernel))) rfl, x_gm (List.mem_append_right _ (List.mem_of_getElem? (i := 11) (by decide +kernel))) rfl, ⟨by decide +kernel, by decide +kernel⟩, by decide +kernel⟩
theorem xn_X12_isSheet : x_N M_X12_isSheet 1 := ⟨x_gm (List.mem_append_right _ (List.mem_of_getElem? (i := 909) (by decide +kernel))) rfl, x_gm (List.mem_append_right _ (List.mem_of_getElem? (i := 11) (by decide +kernel))) rfl, ⟨by decide +kernel, by decide +kernel⟩, by decide +kernel⟩
theorem xn_X12_isSort : x_N M_X12_isSort 1 := ⟨x_gm (List.mem_append_right _ (List.mem_of_getElem? (i := 915) (by decide +kernel))) rfl, x_gm (List.mem_append_right _ (List.mem_of_getElem? (i := 11) (by decide +kernel))) rfl, ⟨by decide +kernel, by decide +kernel⟩, by decide +kernel⟩
theorem xn_X12_against : x_N M_X12_against 4 := ⟨x_gm (List.mem_append_right _ (List.mem_of_getElem? (i := 919) (by decide +kernel))) rfl, x_gm (List.mem_append_right _ (List.mem_of_getElem? (i := 11) (by decide +kernel))) rfl, ⟨by decide +kernel, by decide +kernel⟩, by decide +kernel⟩
theorem xn_X12_isBoat : x_N M_X12_isBoat 1 := ⟨x_gm (List.mem_append_right _ (List.mem_of_getElem? (i := 954) (by decide +kernel))) rfl, x_gm (List.mem_append_right _ (List.mem_of_getElem? (i := 11) (by decide +kernel))) rfl, ⟨by decide +kernel, by decide +kernel⟩, by decide +kernel⟩
theorem xn_X12_isHour : x_N M_X12_isHour 1 := ⟨x_gm (List.mem_append_right _ (List.mem_of_getElem? (i := 962) (by decide +kernel))) rfl, x_gm (List.mem_append_right _ (List.mem_of_getElem? (i := 11) (by decide +kernel))) rfl, ⟨by decide +kernel, by decide +kernel⟩, by decide +kernel⟩
theorem xn_X12_all : x_N M_X12_all 0 := ⟨x_gm (List.mem_append_right _ (List.mem_of_getElem? (i := 981) (by decide +kernel))) rfl, x_gm (List.mem_append_right _ (List.mem_of_getElem? (i := 11) (by decide +kernel))) rfl, ⟨by decide +kernel, by decide +kernel⟩, by decide +kernel⟩
theorem xn_X12_digit : x_N M_X12_digit 3 := ⟨x_gm (List.mem_append_right _ (List.mem_of_getElem? (i := 935) (by decide +kernel))) rfl, x_gm (List.mem_append_right _ (List.mem_of_getElem? (i := 11) (by decide +kernel))) rfl, ⟨by decide +kernel, by decide +kernel⟩, by decide +kernel⟩
theorem xn_X12_isSign : x_N M_X12_isSign 2 := ⟨x_gm (List.mem_append_right _ (List.mem_of_getElem? (i := 931) (by decide +kernel))) rfl, x_gm (List.mem_append_right _ (List.mem_of_getElem? (i := 11) (by decide +kernel))) rfl, ⟨by decide +kernel, by decide +kernel⟩, by decide +kernel⟩
theorem xn_X12_lake : x_N M_X12_lake 4 := ⟨x_gm (List.mem_append_right _ (List.mem_of_getElem? (i := 906) (by decide +kernel))) rfl, x_gm (List.mem_append_right _ (List.mem_of_getElem? (i := 11) (by decide +kernel))) rfl, ⟨by decide +kernel, by decide +kernel⟩, by decide +kernel⟩
theorem xn_X12_takeLake : x_N M_X12_takeLake 0 := ⟨x_gm (List.mem_append_right _ (List.mem_of_getElem? (i := 946) (by decide +kernel))) rfl, x_gm (List.mem_append_right _ (List.mem_of_getElem? (i := 11) (by decide +kernel))) rfl, ⟨by decide +kernel, by decide +kernel⟩, by decide +kernel⟩
theorem xn_X12_windBy : x_N M_X12_windBy 1 := ⟨x_gm (List.mem_append_right _ (List.mem_of_getElem? (i := 938) (by decide +kernel))) rfl, x_gm (List.mem_append_right _ (List.mem_of_getElem? (i := 11) (by decide +kernel))) rfl, ⟨by decide +kernel, by decide +kernel⟩, by decide +kernel⟩
theorem xn_X12_readLake : x_N M_X12_readLake 1 := ⟨x_gm (List.mem_append_right _ (List.mem_of_getElem? (i := 927) (by decide +kernel))) rfl, x_gm (List.mem_append_right _ (List.mem_of_getElem? (i := 11) (by decide +kernel))) rfl, ⟨by decide +kernel, by decide +kernel⟩, by decide +kernel⟩
theorem xn_X12_readBoat : x_N M_X12_readBoat 1 := ⟨x_gm (List.mem_append_right _ (List.mem_of_getElem? (i := 942) (by decide +kernel))) rfl, x_gm (List.mem_append_right _ (List.mem_of_getElem? (i := 11) (by decide +kernel))) rfl, ⟨by decide +kernel, by decide +kernel⟩, by decide +kernel⟩
theorem xn_X12_ofBoat : x_N M_X12_ofBoat 2 := ⟨x_gm (List.mem_append_right _ (List.mem_of_getElem? (i := 950) (by decide +kernel))) rfl, x_gm (List.mem_append_right _ (List.mem_of_getElem? (i := 11) (by decide +kernel))) rfl, ⟨by decide +kernel, by decide +kernel⟩, by decide +kernel⟩
theorem xn_X12_wind : x_N M_X12_wind 2 := ⟨x_gm (List.mem_append_right _ (List.mem_of_getElem? (i := 958) (by decide +kernel))) rfl, x_gm (List.mem_append_right _ (List.mem_of_getElem? (i := 11) (by decide +kernel))) rfl, ⟨by decide +kernel, by decide +kernel⟩, by decide +kernel⟩
theorem xn_X12_isle : x_N M_X12_isle 2 := ⟨x_gm (List.mem_append_right _ (List.mem_of_getElem? (i := 966) (by decide +kernel))) rfl, x_gm (List.mem_append_right _ (List.mem_of_getElem? (i := 11) (by decide +kernel))) rfl, ⟨by decide +kernel, by decide +kernel⟩, by decide +kernel⟩
theorem xn_X12_asNumber : x_N M_X12_asNumber 0 := ⟨x_gm (List.mem_append_right _ (List.mem_of_getElem? (i := 993) (by decide +kernel))) rfl, x_gm (List.mem_append_right _ (List.mem_of_getElem? (i := 11) (by decide +kernel))) rfl, ⟨by decide +kernel, by decide +kernel⟩, by decide +kernel⟩
theorem xn_X12_asPlaces : x_N M_X12_asPlaces 1 := ⟨x_gm (List.mem_append_right _ (List.mem_of_getElem? (i := 1033) (by decide +kernel))) rfl, x_gm (List.mem_append_right _ (List.mem_of_getElem? (i := 11) (by decide +kernel))) rfl, ⟨by decide +kernel, by decide +kernel⟩, by decide +kernel⟩
theorem xn_X12_begins : x_N M_X12_begins 1 := ⟨x_gm (List.mem_append_right _ (List.mem_of_getElem? (i := 989) (by decide +kernel))) rfl, x_gm (List.mem_append_right _ (List.mem_of_getElem? (i := 11) (by decide +kernel))) rfl, ⟨by decide +kernel, by decide +kernel⟩, by decide +kernel⟩
theorem xn_X12_isOver : x_N M_X12_isOver 1 := ⟨x_gm (List.mem_append_right _ (List.mem_of_getElem? (i := 1001) (by decide +kernel))) rfl, x_gm (List.mem_append_right _ (List.mem_of_getElem? (i := 11) (by decide +kernel))) rfl, ⟨by decide +kernel, by decide +kernel⟩, by decide +kernel⟩
theorem xn_X12_over : x_N M_X12_over 0 := ⟨x_gm (List.mem_append_right _ (List.mem_of_getElem? (i := 1017) (by decide +kernel))) rfl, x_gm (List.mem_append_right _ (List.mem_of_getElem? (i := 11) (by decide +kernel))) rfl, ⟨by decide +kernel, by decide +kernel⟩, by decide +kernel⟩
theorem xn_X12_isWith : x_N M_X12_isWith 2 := ⟨x_gm (List.mem_append_right _ (List.mem_of_getElem? (i := 1005) (by decide +kernel))) rfl, x_gm (List.mem_append_right _ (List.mem_of_getElem? (i := 11) (by decide +kernel))) rfl, ⟨by decide +kernel, by decide +kernel⟩, by decide +kernel⟩
theorem xn_X12_finedBy : x_N M_X12_finedBy 2 := ⟨x_gm (List.mem_append_right _ (List.mem_of_getElem? (i := 997) (by decide +kernel))) rfl, x_gm (List.mem_append_right _ (List.mem_of_getElem? (i := 11) (by decide +kernel))) rfl, ⟨by decide +kernel, by decide +kernel⟩, by decide +kernel⟩
theorem xn_X12_bounded : x_N M_X12_bounded 1 := ⟨x_gm (List.mem_append_right _ (List.mem_of_getElem? (i := 1013) (by decide +kernel))) rfl, x_gm (List.mem_append_right _ (List.mem_of_getElem? (i := 11) (by decide +kernel))) rfl, ⟨by decide +kernel, by decide +kernel⟩, by decide +kernel⟩
theorem xn_X12_goHour : x_N M_X12_goHour 2 := ⟨x_gm (List.mem_append_right _ (List.mem_of_getElem? (i := 1009) (by decide +kernel))) rfl, x_gm (List.mem_append_right _ (List.mem_of_getElem? (i := 11) (by decide +kernel))) rfl, ⟨by decide +kernel, by decide +kernel⟩, by decide +kernel⟩
theorem xn_X12_layPlan : x_N M_X12_layPlan 4 := ⟨x_gm (List.mem_append_right _ (List.mem_of_getElem? (i := 977) (by decide +kernel))) rfl, x_gm (List.mem_append_right _ (List.mem_of_getElem? (i := 11) (by decide +kernel))) rfl, ⟨by decide +kernel, by decide +kernel⟩, by decide +kernel⟩
theorem xn_X12_isRow : x_N M_X12_isRow 2 := ⟨x_gm (List.mem_append_right _ (List.mem_of_getElem? (i := 973) (by decide +kernel))) rfl, x_gm (List.mem_append_right _ (List.mem_of_getElem? (i := 11) (by decide +kernel))) rfl, ⟨by decide +kernel, by decide +kernel⟩, by decide +kernel⟩
theorem xn_X12_goPlan : x_N M_X12_goPlan 0 := ⟨x_gm (List.mem_append_right _ (List.mem_of_getElem? (i := 985) (by decide +kernel))) rfl, x_gm (List.mem_append_right _ (List.mem_of_getElem? (i := 11) (by decide +kernel))) rfl, ⟨by decide +kernel, by decide +kernel⟩, by decide +kernel⟩
theorem xn_X12_plan : x_N M_X12_plan 5 := ⟨x_gm (List.mem_append_right _ (List.mem_of_getElem? (i := 970) (by decide +kernel))) rfl, x_gm (List.mem_append_right _ (List.mem_of_getElem? (i := 11) (by decide +kernel))) rfl, ⟨by decide +kernel, by decide +kernel⟩, by decide +kernel⟩
theorem xn_X12_isThere : x_N M_X12_isThere 1 := ⟨x_gm (List.mem_append_right _ (List.mem_of_getElem? (i := 1029) (by decide +kernel))) rfl, x_gm (List.mem_append_right _ (List.mem_of_getElem? (i := 11) (by decide +kernel))) rfl, ⟨by decide +kernel, by decide +kernel⟩, by decide +kernel⟩
theorem xn_X12_goAll : x_N M_X12_goAll 1 := ⟨x_gm (List.mem_append_right _ (List.mem_of_getElem? (i := 1037) (by decide +kernel))) rfl, x_gm (List.mem_append_right _ (List.mem_of_getElem? (i := 11) (by decide +kernel))) rfl, ⟨by decide +kernel, by decide +kernel⟩, by decide +kernel⟩
theorem xn_X12_soonestOf : x_N M_X12_soonestOf 1 := ⟨x_gm (List.mem_append_right _ (List.mem_of_getElem? (i := 1025) (by decide +kernel))) rfl, x_gm (List.mem_append_right _ (List.mem_of_getElem? (i := 11) (by decide +kernel))) rfl, ⟨by decide +kernel, by decide +kernel⟩, by decide +kernel⟩
theorem xn_X12_soonest : x_N M_X12_soonest 1 := ⟨x_gm (List.mem_append_right _ (List.mem_of_getElem? (i := 1021) (by decide +kernel))) rfl, x_gm (List.mem_append_right _ (List.mem_of_getElem? (i := 11) (by decide +kernel))) rfl, ⟨by decide +kernel, by decide +kernel⟩, by decide +kernel⟩
theorem xn_X12_isInTime : x_N M_X12_isInTime 2 := ⟨x_gm (List.mem_append_right _ (List.mem_of_getElem? (i := 1045) (by decide +kernel))) rfl, x_gm (List.mem_append_right _ (List.mem_of_getElem? (i := 11) (by decide +kernel))) rfl, ⟨by decide +kernel, by decide +kernel⟩, by decide +kernel⟩
theorem xn_X12_isByTwo : x_N M_X12_isByTwo 4 := ⟨x_gm (List.mem_append_right _ (List.mem_of_getElem? (i := 1053) (by decide +kernel))) rfl, x_gm (List.mem_append_right _ (List.mem_of_getElem? (i := 11) (by decide +kernel))) rfl, ⟨by decide +kernel, by decide +kernel⟩, by decide +kernel⟩
theorem xn_X12_isByOne : x_N M_X12_isByOne 3 := ⟨x_gm (List.mem_append_right _ (List.mem_of_getElem? (i := 1049) (by decide +kernel))) rfl, x_gm (List.mem_append_right _ (List.mem_of_getElem? (i := 11) (by decide +kernel))) rfl, ⟨by decide +kernel, by decide +kernel⟩, by decide +kernel⟩
theorem xn_X12_hats : x_N M_X12_hats 2 := ⟨x_gm (List.mem_append_right _ (List.mem_of_getElem? (i := 1041) (by decide +kernel))) rfl, x_gm (List.mem_append_right _ (List.mem_of_getElem? (i := 11) (by decide +kernel))) rfl, ⟨by decide +kernel, by decide +kernel⟩, by decide +kernel⟩
theorem xn_X12_rid : x_N M_X12_rid 1 := ⟨x_gm (List.mem_append_right _ (List.mem_of_getElem? (i := 1057) (by decide +kernel))) rfl, x_gm (List.mem_append_right _ (List.mem_of_getElem? (i := 11) (by decide +kernel))) rfl, ⟨by decide +kernel, by decide +kernel⟩, by decide +kernel⟩
theorem xn_X12_reading : x_N M_X12_reading 3 := ⟨x_gm (List.mem_append_right _ (List.mem_of_getElem? (i := 1061) (by decide +kernel))) rfl, x_gm (List.mem_append_right _ (List.mem_of_getElem? (i := 11) (by decide +kernel))) rfl, ⟨by decide +kernel, by decide +kernel⟩, by decide +kernel⟩
theorem xn_X12_back : x_N M_X12_back 1 := ⟨x_gm (List.mem_append_right _ (List.mem_of_getElem? (i := 1065) (by decide +kernel))) rfl, x_gm (List.mem_append_right _ (List.mem_of_getElem? (i := 11) (by decide +kernel))) rfl, ⟨by decide +kernel, by decide +kernel⟩, by decide +kernel⟩
theorem xn_X12_areSo : x_N M_X12_areSo 0 := ⟨x_gm (List.mem_append_right _ (List.mem_of_getElem? (i := 1077) (by decide +kernel))) rfl, x_gm (List.mem_append_right _ (List.mem_of_getElem? (i := 11) (by decide +kernel))) rfl, ⟨by decide +kernel, by decide +kernel⟩, by decide +kernel⟩
theorem xn_X12_lay : x_N M_X12_lay 5 := ⟨x_gm (List.mem_append_right _ (List.mem_of_getElem? (i := 1073) (by decide +kernel))) rfl, x_gm (List.mem_append_right _ (List.mem_of_getElem? (i := 11) (by decide +kernel))) rfl, ⟨by decide +kernel, by decide +kernel⟩, by decide +kernel⟩
theorem xn_X12_winds : x_N M_X12_winds 5 := ⟨x_gm (List.mem_append_right _ (List.mem_of_getElem? (i := 1069) (by decide +kernel))) rfl, x_gm (List.mem_append_right _ (List.mem_of_getElem? (i := 11) (by decide +kernel))) rfl, ⟨by decide +kernel, by decide +kernel⟩, by decide +kernel⟩
theorem xn_X12_kinds : x_N M_X12_kinds 5 := ⟨x_gm (List.mem_append_right _ (List.mem_of_getElem? (i := 1081) (by decide +kernel))) rfl, x_gm (List.mem_append_right _ (List.mem_of_getElem? (i := 11) (by decide +kernel))) rfl, ⟨by decide +kernel, by decide +kernel⟩, by decide +kernel⟩
theorem xn_X12_speeds : x_N M_X12_speeds 5 := ⟨x_gm (List.mem_append_right _ (List.mem_of_getElem? (i := 1085) (by decide +kernel))) rfl, x_gm (List.mem_append_right _ (List.mem_of_getElem? (i := 11) (by decide +kernel))) rfl, ⟨by decide +kernel, by decide +kernel⟩, by decide +kernel⟩
theorem xn_X12_inLeastTerms : x_N M_X12_inLeastTerms 3 := ⟨x_gm (List.mem_append_right _ (List.mem_of_getElem? (i := 1097) (by decide +kernel))) rfl, x_gm (List.mem_append_right _ (List.mem_of_getElem? (i := 11) (by decide +kernel))) rfl, ⟨by decide +kernel, by decide +kernel⟩, by decide +kernel⟩
theorem xn_X12_isFree : x_N M_X12_isFree 1 := ⟨x_gm (List.mem_append_right _ (List.mem_of_getElem? (i := 1094) (by decide +kernel))) rfl, x_gm (List.mem_append_right _ (List.mem_of_getElem? (i := 11) (by decide +kernel))) rfl, ⟨by decide +kernel, by decide +kernel⟩, by decide +kernel⟩
theorem xn_X12_odds : x_N M_X12_odds 5 := ⟨x_gm (List.mem_append_right _ (List.mem_of_getElem? (i := 1089) (by decide +kernel))) rfl, x_gm (List.mem_append_right _ (List.mem_of_getElem? (i := 11) (by decide +kernel))) rfl, ⟨by decide +kernel, by decide +kernel⟩, by decide +kernel⟩
theorem xn_X12_sheet : x_N M_X12_sheet 3 := ⟨x_gm (List.mem_append_right _ (List.mem_of_getElem? (i := 1101) (by decide +kernel))) rfl, x_gm (List.mem_append_right _ (List.mem_of_getElem? (i := 11) (by decide +kernel))) rfl, ⟨by decide +kernel, by decide +kernel⟩, by decide +kernel⟩
theorem xn_X12_lose : x_N M_X12_lose 1 := ⟨x_gm (List.mem_append_right _ (List.mem_of_getElem? (i := 1105) (by decide +kernel))) rfl, x_gm (List.mem_append_right _ (List.mem_of_getElem? (i := 11) (by decide +kernel))) rfl, ⟨by decide +kernel, by decide +kernel⟩, by decide +kernel⟩
theorem xn_X12_put : x_N M_X12_put 3 := ⟨x_gm (List.mem_append_right _ (List.mem_of_getElem? (i := 1109) (by decide +kernel))) rfl, x_gm (List.mem_append_right _ (List.mem_of_getElem? (i := 11) (by decide +kernel))) rfl, ⟨by decide +kernel, by decide +kernel⟩, by decide +kernel⟩
theorem xn_X12_cell : x_N M_X12_cell 3 := ⟨x_gm (List.mem_append_right _ (List.mem_of_getElem? (i := 1113) (by decide +kernel))) rfl, x_gm (List.mem_append_right _ (List.mem_of_getElem? (i := 11) (by decide +kernel))) rfl, ⟨by decide +kernel, by decide +kernel⟩, by decide +kernel⟩
theorem xn_X12_copy : x_N M_X12_copy 5 := ⟨x_gm (List.mem_append_right _ (List.mem_of_getElem? (i := 1121) (by decide +kernel))) rfl, x_gm (List.mem_append_right _ (List.mem_of_getElem? (i := 11) (by decide +kernel))) rfl, ⟨by decide +kernel, by decide +kernel⟩, by decide +kernel⟩
theorem xn_X12_leaves : x_N M_X12_leaves 1 := ⟨x_gm (List.mem_append_right _ (List.mem_of_getElem? (i := 1129) (by decide +kernel))) rfl, x_gm (List.mem_append_right _ (List.mem_of_getElem? (i := 11) (by decide +kernel))) rfl, ⟨by decide +kernel, by decide +kernel⟩, by decide +kernel⟩
theorem xn_X12_tell : x_N M_X12_tell 1 := ⟨x_gm (List.mem_append_right _ (List.mem_of_getElem? (i := 1125) (by decide +kernel))) rfl, x_gm (List.mem_append_right _ (List.mem_of_getElem? (i := 11) (by decide +kernel))) rfl, ⟨by decide +kernel, by decide +kernel⟩, by decide +kernel⟩
theorem xn_X12_hail : x_N M_X12_hail 1 := ⟨x_gm (List.mem_append_right _ (List.mem_of_getElem? (i := 1133) (by decide +kernel))) rfl, x_gm (List.mem_append_right _ (List.mem_of_getElem? (i := 11) (by decide +kernel))) rfl, ⟨by decide +kernel, by decide +kernel⟩, by decide +kernel⟩
theorem xn_X12_as : x_N M_X12_as 2 := ⟨x_gm (List.mem_append_right _ (List.mem_of_getElem? (i := 1137) (by decide +kernel))) rfl, x_gm (List.mem_append_right _ (List.mem_of_getElem? (i := 11) (by decide +kernel))) rfl, ⟨by decide +kernel, by decide +kernel⟩, by decide +kernel⟩
theorem xn_X12_trace : x_N M_X12_trace 0 := ⟨x_gm (List.mem_append_right _ (List.mem_of_getElem? (i := 1141) (by decide +kernel))) rfl, x_gm (List.mem_append_right _ (List.mem_of_getElem? (i := 11) (by decide +kernel))) rfl, ⟨by decide +kernel, by decide +kernel⟩, by decide +kernel⟩
theorem xn_X12_fault : x_N M_X12_fault 0 := ⟨x_gm (List.mem_append_right _ (List.mem_of_getElem? (i := 1145) (by decide +kernel))) rfl, x_gm (List.mem_append_right _ (List.mem_of_getElem? (i := 11) (by decide +kernel))) rfl, ⟨by decide +kernel, by decide +kernel⟩, by decide +kernel⟩
theorem xn_X12_many : x_N M_X12_many 1 := ⟨x_gm (List.mem_append_right _ (List.mem_of_getElem? (i := 1149) (by decide +kernel))) rfl, x_gm (List.mem_append_right _ (List.mem_of_getElem? (i := 11) (by decide +kernel))) rfl, ⟨by decide +kernel, by decide +kernel⟩, by decide +kernel⟩
theorem xn_A_fill : x_N M_A_fill 2 := ⟨x_gm (List.mem_append_right _ (List.mem_of_getElem? (i := 697) (by decide +kernel))) rfl, x_gm (List.mem_append_right _ (List.mem_of_getElem? (i := 15) (by decide +kernel))) rfl, ⟨by decide +kernel, by decide +kernel⟩, by decide +kernel⟩
theorem uw_0 : ∀ w ∈ u_ws RX0 TX0 3, w ∈ x_gw := by
  have e : u_ws RX0 TX0 3 = [193, 195, 197].filterMap (fun i => tables_1[i]?) := by decide +kernel
  intro w hw
  have hg := List.all_eq_true.mp (show (u_ws RX0 TX0 3).all goodWord = true by decide +kernel) w hw
  rw [e] at hw
  obtain ⟨i, -, hi⟩ := List.mem_filterMap.mp hw
  exact x_gm (List.mem_append_right _ (List.mem_of_getElem? hi)) hg
theorem uw_1 : ∀ w ∈ u_ws RX1 TX1 6, w ∈ x_gw := by
  have e : u_ws RX1 TX1 6 = [227, 229, 231, 233, 235, 237].filterMap (fun i => tables_1[i]?) := by decide +kernel
  intro w hw
  have hg := List.all_eq_true.mp (show (u_ws RX1 TX1 6).all goodWord = true by decide +kernel) w hw
  rw [e] at hw
  obtain ⟨i, -, hi⟩ := List.mem_filterMap.mp hw
  exact x_gm (List.mem_append_right _ (List.mem_of_getElem? hi)) hg
theorem uw_2 : ∀ w ∈ u_ws RX2 TX2 3, w ∈ x_gw := by
  have e : u_ws RX2 TX2 3 = [376, 377, 378].filterMap (fun i => tables_1[i]?) := by decide +kernel
  intro w hw
  have hg := List.all_eq_true.mp (show (u_ws RX2 TX2 3).all goodWord = true by decide +kernel) w hw
  rw [e] at hw
  obtain ⟨i, -, hi⟩ := List.mem_filterMap.mp hw
  exact x_gm (List.mem_append_right _ (List.mem_of_getElem? hi)) hg
theorem uw_3 : ∀ w ∈ u_ws RX3 TX3 4, w ∈ x_gw := by
  have e : u_ws RX3 TX3 4 = [59, 61, 63, 65].filterMap (fun i => tables_1[i]?) := by decide +kernel
  intro w hw
  have hg := List.all_eq_true.mp (show (u_ws RX3 TX3 4).all goodWord = true by decide +kernel) w hw
  rw [e] at hw
  obtain ⟨i, -, hi⟩ := List.mem_filterMap.mp hw
  exact x_gm (List.mem_append_right _ (List.mem_of_getElem? hi)) hg
theorem uw_4 : ∀ w ∈ u_ws RX4 TX4 13, w ∈ x_gw := by
  have e : u_ws RX4 TX4 13 = [131, 133, 135, 137, 139, 141, 143, 145, 147, 149, 151, 153, 155].filterMap (fun i => tables_1[i]?) := by decide +kernel
  intro w hw
  have hg := List.all_eq_true.mp (show (u_ws RX4 TX4 13).all goodWord = true by decide +kernel) w hw
  rw [e] at hw
  obtain ⟨i, -, hi⟩ := List.mem_filterMap.mp hw
  exact x_gm (List.mem_append_right _ (List.mem_of_getElem? hi)) hg
theorem uw_5 : ∀ w ∈ u_ws RX5 TX5 3, w ∈ x_gw := by
  have e : u_ws RX5 TX5 3 = [250, 252, 254].filterMap (fun i => tables_1[i]?) := by decide +kernel
  intro w hw
  have hg := List.all_eq_true.mp (show (u_ws RX5 TX5 3).all goodWord = true by decide +kernel) w hw
  rw [e] at hw
  obtain ⟨i, -, hi⟩ := List.mem_filterMap.mp hw
  exact x_gm (List.mem_append_right _ (List.mem_of_getElem? hi)) hg
theorem uw_6 : ∀ w ∈ u_ws RX6 TX6 2, w ∈ x_gw := by
  have e : u_ws RX6 TX6 2 = [110, 112].filterMap (fun i => tables_1[i]?) := by decide +kernel
  intro w hw
  have hg := List.all_eq_true.mp (show (u_ws RX6 TX6 2).all goodWord = true by decide +kernel) w hw
  rw [e] at hw
  obtain ⟨i, -, hi⟩ := List.mem_filterMap.mp hw
  exact x_gm (List.mem_append_right _ (List.mem_of_getElem? hi)) hg
theorem uw_7 : ∀ w ∈ u_ws RX7 TX7 4, w ∈ x_gw := by
  have e : u_ws RX7 TX7 4 = [38, 40, 42, 44].filterMap (fun i => tables_1[i]?) := by decide +kernel
  intro w hw
  have hg := List.all_eq_true.mp (show (u_ws RX7 TX7 4).all goodWord = true by decide +kernel) w hw
  rw [e] at hw
  obtain ⟨i, -, hi⟩ := List.mem_filterMap.mp hw
  exact x_gm (List.mem_append_right _ (List.mem_of_getElem? hi)) hg
theorem uw_8 : ∀ w ∈ u_ws RX8 TX8 3, w ∈ x_gw := by
  have e : u_ws RX8 TX8 3 = [386, 387, 388].filterMap (fun i => tables_1[i]?) := by decide +kernel
  intro w hw
  have hg := List.all_eq_true.mp (show (u_ws RX8 TX8 3).all goodWord = true by decide +kernel) w hw
  rw [e] at hw
  obtain ⟨i, -, hi⟩ := List.mem_filterMap.mp hw
  exact x_gm (List.mem_append_right _ (List.mem_of_getElem? hi)) hg
theorem uw_9 : ∀ w ∈ u_ws RX9 TX9 1, w ∈ x_gw := by
  have e : u_ws RX9 TX9 1 = [166].filterMap (fun i => tables_1[i]?) := by decide +kernel
  intro w hw
  have hg := List.all_eq_true.mp (show (u_ws RX9 TX9 1).all goodWord = true by decide +kernel) w hw
  rw [e] at hw
  obtain ⟨i, -, hi⟩ := List.mem_filterMap.mp hw
  exact x_gm (List.mem_append_right _ (List.mem_of_getElem? hi)) hg
theorem uw_10 : ∀ w ∈ u_ws RX10 TX10 4, w ∈ x_gw := by
  have e : u_ws RX10 TX10 4 = [83, 85, 87, 89].filterMap (fun i => tables_1[i]?) := by decide +kernel
  intro w hw
  have hg := List.all_eq_true.mp (show (u_ws RX10 TX10 4).all goodWord = true by decide +kernel) w hw
  rw [e] at hw
  obtain ⟨i, -, hi⟩ := List.mem_filterMap.mp hw
  exact x_gm (List.mem_append_right _ (List.mem_of_getElem? hi)) hg
theorem uw_11 : ∀ w ∈ u_ws RX11 TX11 12, w ∈ x_gw := by
  have e : u_ws RX11 TX11 12 = [269, 271, 273, 275, 277, 279, 281, 283, 285, 287, 289, 291].filterMap (fun i => tables_1[i]?) := by decide +kernel
  intro w hw
  have hg := List.all_eq_true.mp (show (u_ws RX11 TX11 12).all goodWord = true by decide +kernel) w hw
  rw [e] at hw
  obtain ⟨i, -, hi⟩ := List.mem_filterMap.mp hw
  exact x_gm (List.mem_append_right _ (List.mem_of_getElem? hi)) hg
theorem uw_12 : ∀ w ∈ u_ws RX12 TX12 32, w ∈ x_gw := by
  have e : u_ws RX12 TX12 32 = [837, 839, 841, 843, 845, 847, 849, 851, 853, 855, 857, 859, 861, 863, 865, 867, 869, 871, 873, 875, 877, 879, 881, 883, 885, 887, 889, 891, 893, 895, 897, 899].filterMap (fun i => tables_1[i]?) := by decide +kernel
  intro w hw
  have hg := List.all_eq_true.mp (show (u_ws RX12 TX12 32).all goodWord = true by decide +kernel) w hw
  rw [e] at hw
  obtain ⟨i, -, hi⟩ := List.mem_filterMap.mp hw
  exact x_gm (List.mem_append_right _ (List.mem_of_getElem? hi)) hg
theorem fl_X7_9_7 : x_FL RX7 9 7 0 := ⟨"LakeWind$Text", RX7, TX7, 4, rfl, by decide, uw_7, x_gm (List.mem_append_right _ (List.mem_of_getElem? (i := 33) (by decide +kernel))) rfl, Or.inl rfl⟩
theorem fp_X7_9_7 : x_FP RX7 9 7 0 .int false := ⟨"LakeWind$Text", RX7, TX7, 4, tyX7, rfl, by decide, uw_7, x_gm (List.mem_append_right _ (List.mem_of_getElem? (i := 33) (by decide +kernel))) rfl, Or.inl rfl, tyX7_ok, nmX7, rfl, by decide +kernel, fun q => by cases q⟩
theorem fl_X11_112_7 : x_FL RX11 112 7 0 := ⟨"LakeWind$Text", RX7, TX7, 4, rfl, by decide, uw_7, x_gm (List.mem_append_right _ (List.mem_of_getElem? (i := 34) (by decide +kernel))) rfl, Or.inl rfl⟩
theorem fp_X11_112_7 : x_FP RX11 112 7 0 .int false := ⟨"LakeWind$Text", RX7, TX7, 4, tyX7, rfl, by decide, uw_7, x_gm (List.mem_append_right _ (List.mem_of_getElem? (i := 34) (by decide +kernel))) rfl, Or.inl rfl, tyX7_ok, nmX7, rfl, by decide +kernel, fun q => by cases q⟩
theorem fl_X7_15_7 : x_FL RX7 15 7 1 := ⟨"LakeWind$Text", RX7, TX7, 4, rfl, by decide, uw_7, x_gm (List.mem_append_right _ (List.mem_of_getElem? (i := 35) (by decide +kernel))) rfl, Or.inl rfl⟩
theorem fp_X7_15_7 : x_FP RX7 15 7 1 (.array .int) false := ⟨"LakeWind$Text", RX7, TX7, 4, tyX7, rfl, by decide, uw_7, x_gm (List.mem_append_right _ (List.mem_of_getElem? (i := 35) (by decide +kernel))) rfl, Or.inl rfl, tyX7_ok, nmX7, rfl, by decide +kernel, fun q => by cases q⟩
theorem fl_X7_19_7 : x_FL RX7 19 7 2 := ⟨"LakeWind$Text", RX7, TX7, 4, rfl, by decide, uw_7, x_gm (List.mem_append_right _ (List.mem_of_getElem? (i := 36) (by decide +kernel))) rfl, Or.inl rfl⟩
theorem fp_X7_19_7 : x_FP RX7 19 7 2 .int false := ⟨"LakeWind$Text", RX7, TX7, 4, tyX7, rfl, by decide, uw_7, x_gm (List.mem_append_right _ (List.mem_of_getElem? (i := 36) (by decide +kernel))) rfl, Or.inl rfl, tyX7_ok, nmX7, rfl, by decide +kernel, fun q => by cases q⟩
theorem fl_X7_22_7 : x_FL RX7 22 7 3 := ⟨"LakeWind$Text", RX7, TX7, 4, rfl, by decide, uw_7, x_gm (List.mem_append_right _ (List.mem_of_getElem? (i := 37) (by decide +kernel))) rfl, Or.inl rfl⟩
theorem fp_X7_22_7 : x_FP RX7 22 7 3 .int false := ⟨"LakeWind$Text", RX7, TX7, 4, tyX7, rfl, by decide, uw_7, x_gm (List.mem_append_right _ (List.mem_of_getElem? (i := 37) (by decide +kernel))) rfl, Or.inl rfl, tyX7_ok, nmX7, rfl, by decide +kernel, fun q => by cases q⟩
theorem fl_X3_9_3 : x_FL RX3 9 3 0 := ⟨"LakeWind$Readings", RX3, TX3, 4, rfl, by decide, uw_3, x_gm (List.mem_append_right _ (List.mem_of_getElem? (i := 54) (by decide +kernel))) rfl, Or.inl rfl⟩
theorem fp_X3_9_3 : x_FP RX3 9 3 0 .int false := ⟨"LakeWind$Readings", RX3, TX3, 4, tyX3, rfl, by decide, uw_3, x_gm (List.mem_append_right _ (List.mem_of_getElem? (i := 54) (by decide +kernel))) rfl, Or.inl rfl, tyX3_ok, nmX3, rfl, by decide +kernel, fun q => by cases q⟩
theorem fl_X11_128_3 : x_FL RX11 128 3 0 := ⟨"LakeWind$Readings", RX3, TX3, 4, rfl, by decide, uw_3, x_gm (List.mem_append_right _ (List.mem_of_getElem? (i := 55) (by decide +kernel))) rfl, Or.inl rfl⟩
theorem fp_X11_128_3 : x_FP RX11 128 3 0 .int false := ⟨"LakeWind$Readings", RX3, TX3, 4, tyX3, rfl, by decide, uw_3, x_gm (List.mem_append_right _ (List.mem_of_getElem? (i := 55) (by decide +kernel))) rfl, Or.inl rfl, tyX3_ok, nmX3, rfl, by decide +kernel, fun q => by cases q⟩
theorem fl_X3_15_3 : x_FL RX3 15 3 1 := ⟨"LakeWind$Readings", RX3, TX3, 4, rfl, by decide, uw_3, x_gm (List.mem_append_right _ (List.mem_of_getElem? (i := 56) (by decide +kernel))) rfl, Or.inl rfl⟩
theorem fp_X3_15_3 : x_FP RX3 15 3 1 (.array .int) true := ⟨"LakeWind$Readings", RX3, TX3, 4, tyX3, rfl, by decide, uw_3, x_gm (List.mem_append_right _ (List.mem_of_getElem? (i := 56) (by decide +kernel))) rfl, Or.inl rfl, tyX3_ok, nmX3, rfl, by decide +kernel, fun _ => rfl⟩
theorem fl_X3_19_3 : x_FL RX3 19 3 2 := ⟨"LakeWind$Readings", RX3, TX3, 4, rfl, by decide, uw_3, x_gm (List.mem_append_right _ (List.mem_of_getElem? (i := 57) (by decide +kernel))) rfl, Or.inl rfl⟩
theorem fp_X3_19_3 : x_FP RX3 19 3 2 (.array .int) true := ⟨"LakeWind$Readings", RX3, TX3, 4, tyX3, rfl, by decide, uw_3, x_gm (List.mem_append_right _ (List.mem_of_getElem? (i := 57) (by decide +kernel))) rfl, Or.inl rfl, tyX3_ok, nmX3, rfl, by decide +kernel, fun _ => rfl⟩
theorem fl_X3_22_3 : x_FL RX3 22 3 3 := ⟨"LakeWind$Readings", RX3, TX3, 4, rfl, by decide, uw_3, x_gm (List.mem_append_right _ (List.mem_of_getElem? (i := 58) (by decide +kernel))) rfl, Or.inl rfl⟩
theorem fp_X3_22_3 : x_FP RX3 22 3 3 (.array .int) true := ⟨"LakeWind$Readings", RX3, TX3, 4, tyX3, rfl, by decide, uw_3, x_gm (List.mem_append_right _ (List.mem_of_getElem? (i := 58) (by decide +kernel))) rfl, Or.inl rfl, tyX3_ok, nmX3, rfl, by decide +kernel, fun _ => rfl⟩
theorem fl_X10_9_10 : x_FL RX10 9 10 0 := ⟨"LakeWind$Voyage", RX10, TX10, 4, rfl, by decide, uw_10, x_gm (List.mem_append_right _ (List.mem_of_getElem? (i := 74) (by decide +kernel))) rfl, Or.inl rfl⟩
theorem fp_X10_9_10 : x_FP RX10 9 10 0 (.array .int) true := ⟨"LakeWind$Voyage", RX10, TX10, 4, tyX10, rfl, by decide, uw_10, x_gm (List.mem_append_right _ (List.mem_of_getElem? (i := 74) (by decide +kernel))) rfl, Or.inl rfl, tyX10_ok, nmX10, rfl, by decide +kernel, fun _ => rfl⟩
theorem fl_X11_207_10 : x_FL RX11 207 10 0 := ⟨"LakeWind$Voyage", RX10, TX10, 4, rfl, by decide, uw_10, x_gm (List.mem_append_right _ (List.mem_of_getElem? (i := 75) (by decide +kernel))) rfl, Or.inl rfl⟩
theorem fl_X4_171_10 : x_FL RX4 171 10 0 := ⟨"LakeWind$Voyage", RX10, TX10, 4, rfl, by decide, uw_10, x_gm (List.mem_append_right _ (List.mem_of_getElem? (i := 76) (by decide +kernel))) rfl, Or.inl rfl⟩
theorem fl_X10_15_10 : x_FL RX10 15 10 1 := ⟨"LakeWind$Voyage", RX10, TX10, 4, rfl, by decide, uw_10, x_gm (List.mem_append_right _ (List.mem_of_getElem? (i := 77) (by decide +kernel))) rfl, Or.inl rfl⟩
theorem fp_X10_15_10 : x_FP RX10 15 10 1 .int false := ⟨"LakeWind$Voyage", RX10, TX10, 4, tyX10, rfl, by decide, uw_10, x_gm (List.mem_append_right _ (List.mem_of_getElem? (i := 77) (by decide +kernel))) rfl, Or.inl rfl, tyX10_ok, nmX10, rfl, by decide +kernel, fun q => by cases q⟩
theorem fl_X11_198_10 : x_FL RX11 198 10 1 := ⟨"LakeWind$Voyage", RX10, TX10, 4, rfl, by decide, uw_10, x_gm (List.mem_append_right _ (List.mem_of_getElem? (i := 78) (by decide +kernel))) rfl, Or.inl rfl⟩
theorem fp_X11_198_10 : x_FP RX11 198 10 1 .int false := ⟨"LakeWind$Voyage", RX10, TX10, 4, tyX10, rfl, by decide, uw_10, x_gm (List.mem_append_right _ (List.mem_of_getElem? (i := 78) (by decide +kernel))) rfl, Or.inl rfl, tyX10_ok, nmX10, rfl, by decide +kernel, fun q => by cases q⟩
theorem fl_X10_19_10 : x_FL RX10 19 10 2 := ⟨"LakeWind$Voyage", RX10, TX10, 4, rfl, by decide, uw_10, x_gm (List.mem_append_right _ (List.mem_of_getElem? (i := 79) (by decide +kernel))) rfl, Or.inl rfl⟩
theorem fp_X10_19_10 : x_FP RX10 19 10 2 .int false := ⟨"LakeWind$Voyage", RX10, TX10, 4, tyX10, rfl, by decide, uw_10, x_gm (List.mem_append_right _ (List.mem_of_getElem? (i := 79) (by decide +kernel))) rfl, Or.inl rfl, tyX10_ok, nmX10, rfl, by decide +kernel, fun q => by cases q⟩
theorem fl_X11_201_10 : x_FL RX11 201 10 2 := ⟨"LakeWind$Voyage", RX10, TX10, 4, rfl, by decide, uw_10, x_gm (List.mem_append_right _ (List.mem_of_getElem? (i := 80) (by decide +kernel))) rfl, Or.inl rfl⟩
theorem fp_X11_201_10 : x_FP RX11 201 10 2 .int false := ⟨"LakeWind$Voyage", RX10, TX10, 4, tyX10, rfl, by decide, uw_10, x_gm (List.mem_append_right _ (List.mem_of_getElem? (i := 80) (by decide +kernel))) rfl, Or.inl rfl, tyX10_ok, nmX10, rfl, by decide +kernel, fun q => by cases q⟩
theorem fl_X10_22_10 : x_FL RX10 22 10 3 := ⟨"LakeWind$Voyage", RX10, TX10, 4, rfl, by decide, uw_10, x_gm (List.mem_append_right _ (List.mem_of_getElem? (i := 81) (by decide +kernel))) rfl, Or.inl rfl⟩
theorem fp_X10_22_10 : x_FP RX10 22 10 3 .int false := ⟨"LakeWind$Voyage", RX10, TX10, 4, tyX10, rfl, by decide, uw_10, x_gm (List.mem_append_right _ (List.mem_of_getElem? (i := 81) (by decide +kernel))) rfl, Or.inl rfl, tyX10_ok, nmX10, rfl, by decide +kernel, fun q => by cases q⟩
theorem fl_X11_204_10 : x_FL RX11 204 10 3 := ⟨"LakeWind$Voyage", RX10, TX10, 4, rfl, by decide, uw_10, x_gm (List.mem_append_right _ (List.mem_of_getElem? (i := 82) (by decide +kernel))) rfl, Or.inl rfl⟩
theorem fp_X11_204_10 : x_FP RX11 204 10 3 .int false := ⟨"LakeWind$Voyage", RX10, TX10, 4, tyX10, rfl, by decide, uw_10, x_gm (List.mem_append_right _ (List.mem_of_getElem? (i := 82) (by decide +kernel))) rfl, Or.inl rfl, tyX10_ok, nmX10, rfl, by decide +kernel, fun q => by cases q⟩
theorem fl_X6_7_6 : x_FL RX6 7 6 0 := ⟨"LakeWind$States", RX6, TX6, 2, rfl, by decide, uw_6, x_gm (List.mem_append_right _ (List.mem_of_getElem? (i := 106) (by decide +kernel))) rfl, Or.inl rfl⟩
theorem fp_X6_7_6 : x_FP RX6 7 6 0 .long false := ⟨"LakeWind$States", RX6, TX6, 2, tyX6, rfl, by decide, uw_6, x_gm (List.mem_append_right _ (List.mem_of_getElem? (i := 106) (by decide +kernel))) rfl, Or.inl rfl, tyX6_ok, nmX6, rfl, by decide +kernel, fun q => by cases q⟩
theorem fl_X4_105_6 : x_FL RX4 105 6 0 := ⟨"LakeWind$States", RX6, TX6, 2, rfl, by decide, uw_6, x_gm (List.mem_append_right _ (List.mem_of_getElem? (i := 107) (by decide +kernel))) rfl, Or.inl rfl⟩
theorem fp_X4_105_6 : x_FP RX4 105 6 0 .long false := ⟨"LakeWind$States", RX6, TX6, 2, tyX6, rfl, by decide, uw_6, x_gm (List.mem_append_right _ (List.mem_of_getElem? (i := 107) (by decide +kernel))) rfl, Or.inl rfl, tyX6_ok, nmX6, rfl, by decide +kernel, fun q => by cases q⟩
theorem fl_X6_13_6 : x_FL RX6 13 6 1 := ⟨"LakeWind$States", RX6, TX6, 2, rfl, by decide, uw_6, x_gm (List.mem_append_right _ (List.mem_of_getElem? (i := 108) (by decide +kernel))) rfl, Or.inl rfl⟩
theorem fp_X6_13_6 : x_FP RX6 13 6 1 .long false := ⟨"LakeWind$States", RX6, TX6, 2, tyX6, rfl, by decide, uw_6, x_gm (List.mem_append_right _ (List.mem_of_getElem? (i := 108) (by decide +kernel))) rfl, Or.inl rfl, tyX6_ok, nmX6, rfl, by decide +kernel, fun q => by cases q⟩
theorem fl_X4_109_6 : x_FL RX4 109 6 1 := ⟨"LakeWind$States", RX6, TX6, 2, rfl, by decide, uw_6, x_gm (List.mem_append_right _ (List.mem_of_getElem? (i := 109) (by decide +kernel))) rfl, Or.inl rfl⟩
theorem fp_X4_109_6 : x_FP RX4 109 6 1 .long false := ⟨"LakeWind$States", RX6, TX6, 2, tyX6, rfl, by decide, uw_6, x_gm (List.mem_append_right _ (List.mem_of_getElem? (i := 109) (by decide +kernel))) rfl, Or.inl rfl, tyX6_ok, nmX6, rfl, by decide +kernel, fun q => by cases q⟩
theorem fl_X4_9_4 : x_FL RX4 9 4 0 := ⟨"LakeWind$Search", RX4, TX4, 13, rfl, by decide, uw_4, x_gm (List.mem_append_right _ (List.mem_of_getElem? (i := 117) (by decide +kernel))) rfl, Or.inl rfl⟩
theorem fp_X4_9_4 : x_FP RX4 9 4 0 .boolean false := ⟨"LakeWind$Search", RX4, TX4, 13, tyX4, rfl, by decide, uw_4, x_gm (List.mem_append_right _ (List.mem_of_getElem? (i := 117) (by decide +kernel))) rfl, Or.inl rfl, tyX4_ok, nmX4, rfl, by decide +kernel, fun q => by cases q⟩
theorem fl_X11_131_4 : x_FL RX11 131 4 0 := ⟨"LakeWind$Search", RX4, TX4, 13, rfl, by decide, uw_4, x_gm (List.mem_append_right _ (List.mem_of_getElem? (i := 118) (by decide +kernel))) rfl, Or.inl rfl⟩
theorem fp_X11_131_4 : x_FP RX11 131 4 0 .boolean false := ⟨"LakeWind$Search", RX4, TX4, 13, tyX4, rfl, by decide, uw_4, x_gm (List.mem_append_right _ (List.mem_of_getElem? (i := 118) (by decide +kernel))) rfl, Or.inl rfl, tyX4_ok, nmX4, rfl, by decide +kernel, fun q => by cases q⟩
theorem fl_X4_15_4 : x_FL RX4 15 4 1 := ⟨"LakeWind$Search", RX4, TX4, 13, rfl, by decide, uw_4, x_gm (List.mem_append_right _ (List.mem_of_getElem? (i := 119) (by decide +kernel))) rfl, Or.inl rfl⟩
theorem fp_X4_15_4 : x_FP RX4 15 4 1 .int false := ⟨"LakeWind$Search", RX4, TX4, 13, tyX4, rfl, by decide, uw_4, x_gm (List.mem_append_right _ (List.mem_of_getElem? (i := 119) (by decide +kernel))) rfl, Or.inl rfl, tyX4_ok, nmX4, rfl, by decide +kernel, fun q => by cases q⟩
theorem fl_X4_19_4 : x_FL RX4 19 4 2 := ⟨"LakeWind$Search", RX4, TX4, 13, rfl, by decide, uw_4, x_gm (List.mem_append_right _ (List.mem_of_getElem? (i := 120) (by decide +kernel))) rfl, Or.inl rfl⟩
theorem fp_X4_19_4 : x_FP RX4 19 4 2 .int false := ⟨"LakeWind$Search", RX4, TX4, 13, tyX4, rfl, by decide, uw_4, x_gm (List.mem_append_right _ (List.mem_of_getElem? (i := 120) (by decide +kernel))) rfl, Or.inl rfl, tyX4_ok, nmX4, rfl, by decide +kernel, fun q => by cases q⟩
theorem fl_X4_22_4 : x_FL RX4 22 4 3 := ⟨"LakeWind$Search", RX4, TX4, 13, rfl, by decide, uw_4, x_gm (List.mem_append_right _ (List.mem_of_getElem? (i := 121) (by decide +kernel))) rfl, Or.inl rfl⟩
theorem fp_X4_22_4 : x_FP RX4 22 4 3 (.array .long) true := ⟨"LakeWind$Search", RX4, TX4, 13, tyX4, rfl, by decide, uw_4, x_gm (List.mem_append_right _ (List.mem_of_getElem? (i := 121) (by decide +kernel))) rfl, Or.inl rfl, tyX4_ok, nmX4, rfl, by decide +kernel, fun _ => rfl⟩
theorem fl_X4_26_4 : x_FL RX4 26 4 4 := ⟨"LakeWind$Search", RX4, TX4, 13, rfl, by decide, uw_4, x_gm (List.mem_append_right _ (List.mem_of_getElem? (i := 122) (by decide +kernel))) rfl, Or.inl rfl⟩
theorem fp_X4_26_4 : x_FP RX4 26 4 4 (.array .long) true := ⟨"LakeWind$Search", RX4, TX4, 13, tyX4, rfl, by decide, uw_4, x_gm (List.mem_append_right _ (List.mem_of_getElem? (i := 122) (by decide +kernel))) rfl, Or.inl rfl, tyX4_ok, nmX4, rfl, by decide +kernel, fun _ => rfl⟩
theorem fl_X4_29_4 : x_FL RX4 29 4 5 := ⟨"LakeWind$Search", RX4, TX4, 13, rfl, by decide, uw_4, x_gm (List.mem_append_right _ (List.mem_of_getElem? (i := 123) (by decide +kernel))) rfl, Or.inl rfl⟩
theorem fp_X4_29_4 : x_FP RX4 29 4 5 (.array .int) true := ⟨"LakeWind$Search", RX4, TX4, 13, tyX4, rfl, by decide, uw_4, x_gm (List.mem_append_right _ (List.mem_of_getElem? (i := 123) (by decide +kernel))) rfl, Or.inl rfl, tyX4_ok, nmX4, rfl, by decide +kernel, fun _ => rfl⟩
theorem fl_X4_33_4 : x_FL RX4 33 4 6 := ⟨"LakeWind$Search", RX4, TX4, 13, rfl, by decide, uw_4, x_gm (List.mem_append_right _ (List.mem_of_getElem? (i := 124) (by decide +kernel))) rfl, Or.inl rfl⟩
theorem fp_X4_33_4 : x_FP RX4 33 4 6 (.array .int) true := ⟨"LakeWind$Search", RX4, TX4, 13, tyX4, rfl, by decide, uw_4, x_gm (List.mem_append_right _ (List.mem_of_getElem? (i := 124) (by decide +kernel))) rfl, Or.inl rfl, tyX4_ok, nmX4, rfl, by decide +kernel, fun _ => rfl⟩
theorem fl_X4_36_4 : x_FL RX4 36 4 7 := ⟨"LakeWind$Search", RX4, TX4, 13, rfl, by decide, uw_4, x_gm (List.mem_append_right _ (List.mem_of_getElem? (i := 125) (by decide +kernel))) rfl, Or.inl rfl⟩
theorem fp_X4_36_4 : x_FP RX4 36 4 7 (.array .int) true := ⟨"LakeWind$Search", RX4, TX4, 13, tyX4, rfl, by decide, uw_4, x_gm (List.mem_append_right _ (List.mem_of_getElem? (i := 125) (by decide +kernel))) rfl, Or.inl rfl, tyX4_ok, nmX4, rfl, by decide +kernel, fun _ => rfl⟩
theorem fl_X4_42_4 : x_FL RX4 42 4 8 := ⟨"LakeWind$Search", RX4, TX4, 13, rfl, by decide, uw_4, x_gm (List.mem_append_right _ (List.mem_of_getElem? (i := 126) (by decide +kernel))) rfl, Or.inl rfl⟩
theorem fp_X4_42_4 : x_FP RX4 42 4 8 (.object "LakeWind$Voyage") true := ⟨"LakeWind$Search", RX4, TX4, 13, tyX4, rfl, by decide, uw_4, x_gm (List.mem_append_right _ (List.mem_of_getElem? (i := 126) (by decide +kernel))) rfl, Or.inl rfl, tyX4_ok, nmX4, rfl, by decide +kernel, fun _ => rfl⟩
theorem fl_X4_49_4 : x_FL RX4 49 4 9 := ⟨"LakeWind$Search", RX4, TX4, 13, rfl, by decide, uw_4, x_gm (List.mem_append_right _ (List.mem_of_getElem? (i := 127) (by decide +kernel))) rfl, Or.inl rfl⟩
theorem fp_X4_49_4 : x_FP RX4 49 4 9 (.object "LakeWind$States") true := ⟨"LakeWind$Search", RX4, TX4, 13, tyX4, rfl, by decide, uw_4, x_gm (List.mem_append_right _ (List.mem_of_getElem? (i := 127) (by decide +kernel))) rfl, Or.inl rfl, tyX4_ok, nmX4, rfl, by decide +kernel, fun _ => rfl⟩
theorem fl_X4_53_4 : x_FL RX4 53 4 10 := ⟨"LakeWind$Search", RX4, TX4, 13, rfl, by decide, uw_4, x_gm (List.mem_append_right _ (List.mem_of_getElem? (i := 128) (by decide +kernel))) rfl, Or.inl rfl⟩
theorem fp_X4_53_4 : x_FP RX4 53 4 10 (.object "LakeWind$States") true := ⟨"LakeWind$Search", RX4, TX4, 13, tyX4, rfl, by decide, uw_4, x_gm (List.mem_append_right _ (List.mem_of_getElem? (i := 128) (by decide +kernel))) rfl, Or.inl rfl, tyX4_ok, nmX4, rfl, by decide +kernel, fun _ => rfl⟩
theorem fl_X4_56_4 : x_FL RX4 56 4 11 := ⟨"LakeWind$Search", RX4, TX4, 13, rfl, by decide, uw_4, x_gm (List.mem_append_right _ (List.mem_of_getElem? (i := 129) (by decide +kernel))) rfl, Or.inl rfl⟩
theorem fp_X4_56_4 : x_FP RX4 56 4 11 (.array (.object "LakeWind$States")) true := ⟨"LakeWind$Search", RX4, TX4, 13, tyX4, rfl, by decide, uw_4, x_gm (List.mem_append_right _ (List.mem_of_getElem? (i := 129) (by decide +kernel))) rfl, Or.inl rfl, tyX4_ok, nmX4, rfl, by decide +kernel, fun _ => rfl⟩
theorem fl_X4_60_4 : x_FL RX4 60 4 12 := ⟨"LakeWind$Search", RX4, TX4, 13, rfl, by decide, uw_4, x_gm (List.mem_append_right _ (List.mem_of_getElem? (i := 130) (by decide +kernel))) rfl, Or.inl rfl⟩
theorem fp_X4_60_4 : x_FP RX4 60 4 12 (.array (.object "LakeWind$States")) true := ⟨"LakeWind$Search", RX4, TX4, 13, tyX4, rfl, by decide, uw_4, x_gm (List.mem_append_right _ (List.mem_of_getElem? (i := 130) (by decide +kernel))) rfl, Or.inl rfl, tyX4_ok, nmX4, rfl, by decide +kernel, fun _ => rfl⟩
theorem fl_X9_7_9 : x_FL RX9 7 9 0 := ⟨"LakeWind$Trace", RX9, TX9, 1, rfl, by decide, uw_9, x_gm (List.mem_append_right _ (List.mem_of_getElem? (i := 164) (by decide +kernel))) rfl, Or.inl rfl⟩
theorem fp_X9_7_9 : x_FP RX9 7 9 0 .int false := ⟨"LakeWind$Trace", RX9, TX9, 1, tyX9, rfl, by decide, uw_9, x_gm (List.mem_append_right _ (List.mem_of_getElem? (i := 164) (by decide +kernel))) rfl, Or.inl rfl, tyX9_ok, nmX9, rfl, by decide +kernel, fun q => by cases q⟩
theorem fl_X11_316_9 : x_FL RX11 316 9 0 := ⟨"LakeWind$Trace", RX9, TX9, 1, rfl, by decide, uw_9, x_gm (List.mem_append_right _ (List.mem_of_getElem? (i := 165) (by decide +kernel))) rfl, Or.inl rfl⟩
theorem fp_X11_316_9 : x_FP RX11 316 9 0 .int false := ⟨"LakeWind$Trace", RX9, TX9, 1, tyX9, rfl, by decide, uw_9, x_gm (List.mem_append_right _ (List.mem_of_getElem? (i := 165) (by decide +kernel))) rfl, Or.inl rfl, tyX9_ok, nmX9, rfl, by decide +kernel, fun q => by cases q⟩
theorem fl_X0_7_0 : x_FL RX0 7 0 0 := ⟨"LakeWind$Boat", RX0, TX0, 3, rfl, by decide, uw_0, x_gm (List.mem_append_right _ (List.mem_of_getElem? (i := 182) (by decide +kernel))) rfl, Or.inl rfl⟩
theorem fp_X0_7_0 : x_FP RX0 7 0 0 .int true := ⟨"LakeWind$Boat", RX0, TX0, 3, tyX0, rfl, by decide, uw_0, x_gm (List.mem_append_right _ (List.mem_of_getElem? (i := 182) (by decide +kernel))) rfl, Or.inl rfl, tyX0_ok, nmX0, rfl, by decide +kernel, fun _ => rfl⟩
theorem fl_X0_7_2 : x_FL RX0 7 2 0 := ⟨"LakeWind$Boat", RX2, TX2, 3, rfl, by decide, uw_2, x_gm (List.mem_append_right _ (List.mem_of_getElem? (i := 182) (by decide +kernel))) rfl, Or.inl rfl⟩
theorem fp_X0_7_2 : x_FP RX0 7 2 0 .int true := ⟨"LakeWind$Boat", RX2, TX2, 3, tyX2, rfl, by decide, uw_2, x_gm (List.mem_append_right _ (List.mem_of_getElem? (i := 182) (by decide +kernel))) rfl, Or.inl rfl, tyX2_ok, nmX2, rfl, by decide +kernel, fun _ => rfl⟩
theorem fl_X0_7_8 : x_FL RX0 7 8 0 := ⟨"LakeWind$Boat", RX8, TX8, 3, rfl, by decide, uw_8, x_gm (List.mem_append_right _ (List.mem_of_getElem? (i := 182) (by decide +kernel))) rfl, Or.inl rfl⟩
theorem fp_X0_7_8 : x_FP RX0 7 8 0 .int true := ⟨"LakeWind$Boat", RX8, TX8, 3, tyX8, rfl, by decide, uw_8, x_gm (List.mem_append_right _ (List.mem_of_getElem? (i := 182) (by decide +kernel))) rfl, Or.inl rfl, tyX8_ok, nmX8, rfl, by decide +kernel, fun _ => rfl⟩
theorem fl_X0_13_0 : x_FL RX0 13 0 1 := ⟨"LakeWind$Boat", RX0, TX0, 3, rfl, by decide, uw_0, x_gm (List.mem_append_right _ (List.mem_of_getElem? (i := 183) (by decide +kernel))) rfl, Or.inl rfl⟩
theorem fp_X0_13_0 : x_FP RX0 13 0 1 .int true := ⟨"LakeWind$Boat", RX0, TX0, 3, tyX0, rfl, by decide, uw_0, x_gm (List.mem_append_right _ (List.mem_of_getElem? (i := 183) (by decide +kernel))) rfl, Or.inl rfl, tyX0_ok, nmX0, rfl, by decide +kernel, fun _ => rfl⟩
theorem fl_X0_13_2 : x_FL RX0 13 2 1 := ⟨"LakeWind$Boat", RX2, TX2, 3, rfl, by decide, uw_2, x_gm (List.mem_append_right _ (List.mem_of_getElem? (i := 183) (by decide +kernel))) rfl, Or.inl rfl⟩
theorem fp_X0_13_2 : x_FP RX0 13 2 1 .int true := ⟨"LakeWind$Boat", RX2, TX2, 3, tyX2, rfl, by decide, uw_2, x_gm (List.mem_append_right _ (List.mem_of_getElem? (i := 183) (by decide +kernel))) rfl, Or.inl rfl, tyX2_ok, nmX2, rfl, by decide +kernel, fun _ => rfl⟩
theorem fl_X0_13_8 : x_FL RX0 13 8 1 := ⟨"LakeWind$Boat", RX8, TX8, 3, rfl, by decide, uw_8, x_gm (List.mem_append_right _ (List.mem_of_getElem? (i := 183) (by decide +kernel))) rfl, Or.inl rfl⟩
theorem fp_X0_13_8 : x_FP RX0 13 8 1 .int true := ⟨"LakeWind$Boat", RX8, TX8, 3, tyX8, rfl, by decide, uw_8, x_gm (List.mem_append_right _ (List.mem_of_getElem? (i := 183) (by decide +kernel))) rfl, Or.inl rfl, tyX8_ok, nmX8, rfl, by decide +kernel, fun _ => rfl⟩
theorem fl_X11_148_0 : x_FL RX11 148 0 1 := ⟨"LakeWind$Boat", RX0, TX0, 3, rfl, by decide, uw_0, x_gm (List.mem_append_right _ (List.mem_of_getElem? (i := 184) (by decide +kernel))) rfl, Or.inl rfl⟩
theorem fl_X11_148_2 : x_FL RX11 148 2 1 := ⟨"LakeWind$Boat", RX2, TX2, 3, rfl, by decide, uw_2, x_gm (List.mem_append_right _ (List.mem_of_getElem? (i := 184) (by decide +kernel))) rfl, Or.inl rfl⟩
theorem fl_X11_148_8 : x_FL RX11 148 8 1 := ⟨"LakeWind$Boat", RX8, TX8, 3, rfl, by decide, uw_8, x_gm (List.mem_append_right _ (List.mem_of_getElem? (i := 184) (by decide +kernel))) rfl, Or.inl rfl⟩
theorem fl_X1_37_0 : x_FL RX1 37 0 1 := ⟨"LakeWind$Boat", RX0, TX0, 3, rfl, by decide, uw_0, x_gm (List.mem_append_right _ (List.mem_of_getElem? (i := 185) (by decide +kernel))) rfl, Or.inl rfl⟩
theorem fl_X1_37_2 : x_FL RX1 37 2 1 := ⟨"LakeWind$Boat", RX2, TX2, 3, rfl, by decide, uw_2, x_gm (List.mem_append_right _ (List.mem_of_getElem? (i := 185) (by decide +kernel))) rfl, Or.inl rfl⟩
theorem fl_X1_37_8 : x_FL RX1 37 8 1 := ⟨"LakeWind$Boat", RX8, TX8, 3, rfl, by decide, uw_8, x_gm (List.mem_append_right _ (List.mem_of_getElem? (i := 185) (by decide +kernel))) rfl, Or.inl rfl⟩
theorem fl_X0_16_0 : x_FL RX0 16 0 2 := ⟨"LakeWind$Boat", RX0, TX0, 3, rfl, by decide, uw_0, x_gm (List.mem_append_right _ (List.mem_of_getElem? (i := 186) (by decide +kernel))) rfl, Or.inl rfl⟩
theorem fp_X0_16_0 : x_FP RX0 16 0 2 .int true := ⟨"LakeWind$Boat", RX0, TX0, 3, tyX0, rfl, by decide, uw_0, x_gm (List.mem_append_right _ (List.mem_of_getElem? (i := 186) (by decide +kernel))) rfl, Or.inl rfl, tyX0_ok, nmX0, rfl, by decide +kernel, fun _ => rfl⟩
theorem fl_X0_16_2 : x_FL RX0 16 2 2 := ⟨"LakeWind$Boat", RX2, TX2, 3, rfl, by decide, uw_2, x_gm (List.mem_append_right _ (List.mem_of_getElem? (i := 186) (by decide +kernel))) rfl, Or.inl rfl⟩
theorem fp_X0_16_2 : x_FP RX0 16 2 2 .int true := ⟨"LakeWind$Boat", RX2, TX2, 3, tyX2, rfl, by decide, uw_2, x_gm (List.mem_append_right _ (List.mem_of_getElem? (i := 186) (by decide +kernel))) rfl, Or.inl rfl, tyX2_ok, nmX2, rfl, by decide +kernel, fun _ => rfl⟩
theorem fl_X0_16_8 : x_FL RX0 16 8 2 := ⟨"LakeWind$Boat", RX8, TX8, 3, rfl, by decide, uw_8, x_gm (List.mem_append_right _ (List.mem_of_getElem? (i := 186) (by decide +kernel))) rfl, Or.inl rfl⟩
theorem fp_X0_16_8 : x_FP RX0 16 8 2 .int true := ⟨"LakeWind$Boat", RX8, TX8, 3, tyX8, rfl, by decide, uw_8, x_gm (List.mem_append_right _ (List.mem_of_getElem? (i := 186) (by decide +kernel))) rfl, Or.inl rfl, tyX8_ok, nmX8, rfl, by decide +kernel, fun _ => rfl⟩
theorem fl_X2_7_2 : x_FL RX2 7 2 2 := ⟨"LakeWind$Oared", RX2, TX2, 3, rfl, by decide, uw_2, x_gm (List.mem_append_right _ (List.mem_of_getElem? (i := 187) (by decide +kernel))) rfl, Or.inr (x_gm (List.mem_append_right _ (List.mem_of_getElem? (i := 188) (by decide +kernel))) rfl)⟩
theorem fl_X2_7_8 : x_FL RX2 7 8 2 := ⟨"LakeWind$Oared", RX8, TX8, 3, rfl, by decide, uw_8, x_gm (List.mem_append_right _ (List.mem_of_getElem? (i := 187) (by decide +kernel))) rfl, Or.inr (x_gm (List.mem_append_right _ (List.mem_of_getElem? (i := 188) (by decide +kernel))) rfl)⟩
theorem fl_X8_7_8 : x_FL RX8 7 8 2 := ⟨"LakeWind$Towed", RX8, TX8, 3, rfl, by decide, uw_8, x_gm (List.mem_append_right _ (List.mem_of_getElem? (i := 189) (by decide +kernel))) rfl, Or.inr (x_gm (List.mem_append_right _ (List.mem_of_getElem? (i := 190) (by decide +kernel))) rfl)⟩
theorem fl_X11_151_0 : x_FL RX11 151 0 2 := ⟨"LakeWind$Boat", RX0, TX0, 3, rfl, by decide, uw_0, x_gm (List.mem_append_right _ (List.mem_of_getElem? (i := 191) (by decide +kernel))) rfl, Or.inl rfl⟩
theorem fl_X11_151_2 : x_FL RX11 151 2 2 := ⟨"LakeWind$Boat", RX2, TX2, 3, rfl, by decide, uw_2, x_gm (List.mem_append_right _ (List.mem_of_getElem? (i := 191) (by decide +kernel))) rfl, Or.inl rfl⟩
theorem fl_X11_151_8 : x_FL RX11 151 8 2 := ⟨"LakeWind$Boat", RX8, TX8, 3, rfl, by decide, uw_8, x_gm (List.mem_append_right _ (List.mem_of_getElem? (i := 191) (by decide +kernel))) rfl, Or.inl rfl⟩
theorem fl_X1_52_0 : x_FL RX1 52 0 2 := ⟨"LakeWind$Boat", RX0, TX0, 3, rfl, by decide, uw_0, x_gm (List.mem_append_right _ (List.mem_of_getElem? (i := 192) (by decide +kernel))) rfl, Or.inl rfl⟩
theorem fl_X1_52_2 : x_FL RX1 52 2 2 := ⟨"LakeWind$Boat", RX2, TX2, 3, rfl, by decide, uw_2, x_gm (List.mem_append_right _ (List.mem_of_getElem? (i := 192) (by decide +kernel))) rfl, Or.inl rfl⟩
theorem fl_X1_52_8 : x_FL RX1 52 8 2 := ⟨"LakeWind$Boat", RX8, TX8, 3, rfl, by decide, uw_8, x_gm (List.mem_append_right _ (List.mem_of_getElem? (i := 192) (by decide +kernel))) rfl, Or.inl rfl⟩
theorem fl_X1_9_1 : x_FL RX1 9 1 0 := ⟨"LakeWind$Lake", RX1, TX1, 6, rfl, by decide, uw_1, x_gm (List.mem_append_right _ (List.mem_of_getElem? (i := 200) (by decide +kernel))) rfl, Or.inl rfl⟩
theorem fp_X1_9_1 : x_FP RX1 9 1 0 .int false := ⟨"LakeWind$Lake", RX1, TX1, 6, tyX1, rfl, by decide, uw_1, x_gm (List.mem_append_right _ (List.mem_of_getElem? (i := 200) (by decide +kernel))) rfl, Or.inl rfl, tyX1_ok, nmX1, rfl, by decide +kernel, fun q => by cases q⟩
theorem fl_X7_33_1 : x_FL RX7 33 1 0 := ⟨"LakeWind$Lake", RX1, TX1, 6, rfl, by decide, uw_1, x_gm (List.mem_append_right _ (List.mem_of_getElem? (i := 201) (by decide +kernel))) rfl, Or.inl rfl⟩
theorem fp_X7_33_1 : x_FP RX7 33 1 0 .int false := ⟨"LakeWind$Lake", RX1, TX1, 6, tyX1, rfl, by decide, uw_1, x_gm (List.mem_append_right _ (List.mem_of_getElem? (i := 201) (by decide +kernel))) rfl, Or.inl rfl, tyX1_ok, nmX1, rfl, by decide +kernel, fun q => by cases q⟩
theorem fl_X10_68_1 : x_FL RX10 68 1 0 := ⟨"LakeWind$Lake", RX1, TX1, 6, rfl, by decide, uw_1, x_gm (List.mem_append_right _ (List.mem_of_getElem? (i := 202) (by decide +kernel))) rfl, Or.inl rfl⟩
theorem fp_X10_68_1 : x_FP RX10 68 1 0 .int false := ⟨"LakeWind$Lake", RX1, TX1, 6, tyX1, rfl, by decide, uw_1, x_gm (List.mem_append_right _ (List.mem_of_getElem? (i := 202) (by decide +kernel))) rfl, Or.inl rfl, tyX1_ok, nmX1, rfl, by decide +kernel, fun q => by cases q⟩
theorem fl_X11_167_1 : x_FL RX11 167 1 0 := ⟨"LakeWind$Lake", RX1, TX1, 6, rfl, by decide, uw_1, x_gm (List.mem_append_right _ (List.mem_of_getElem? (i := 203) (by decide +kernel))) rfl, Or.inl rfl⟩
theorem fp_X11_167_1 : x_FP RX11 167 1 0 .int false := ⟨"LakeWind$Lake", RX1, TX1, 6, tyX1, rfl, by decide, uw_1, x_gm (List.mem_append_right _ (List.mem_of_getElem? (i := 203) (by decide +kernel))) rfl, Or.inl rfl, tyX1_ok, nmX1, rfl, by decide +kernel, fun q => by cases q⟩
theorem fl_X4_186_1 : x_FL RX4 186 1 0 := ⟨"LakeWind$Lake", RX1, TX1, 6, rfl, by decide, uw_1, x_gm (List.mem_append_right _ (List.mem_of_getElem? (i := 204) (by decide +kernel))) rfl, Or.inl rfl⟩
theorem fp_X4_186_1 : x_FP RX4 186 1 0 .int false := ⟨"LakeWind$Lake", RX1, TX1, 6, tyX1, rfl, by decide, uw_1, x_gm (List.mem_append_right _ (List.mem_of_getElem? (i := 204) (by decide +kernel))) rfl, Or.inl rfl, tyX1_ok, nmX1, rfl, by decide +kernel, fun q => by cases q⟩
theorem fl_X1_15_1 : x_FL RX1 15 1 1 := ⟨"LakeWind$Lake", RX1, TX1, 6, rfl, by decide, uw_1, x_gm (List.mem_append_right _ (List.mem_of_getElem? (i := 205) (by decide +kernel))) rfl, Or.inl rfl⟩
theorem fp_X1_15_1 : x_FP RX1 15 1 1 .int false := ⟨"LakeWind$Lake", RX1, TX1, 6, tyX1, rfl, by decide, uw_1, x_gm (List.mem_append_right _ (List.mem_of_getElem? (i := 205) (by decide +kernel))) rfl, Or.inl rfl, tyX1_ok, nmX1, rfl, by decide +kernel, fun q => by cases q⟩
theorem fl_X7_38_1 : x_FL RX7 38 1 1 := ⟨"LakeWind$Lake", RX1, TX1, 6, rfl, by decide, uw_1, x_gm (List.mem_append_right _ (List.mem_of_getElem? (i := 206) (by decide +kernel))) rfl, Or.inl rfl⟩
theorem fp_X7_38_1 : x_FP RX7 38 1 1 .int false := ⟨"LakeWind$Lake", RX1, TX1, 6, tyX1, rfl, by decide, uw_1, x_gm (List.mem_append_right _ (List.mem_of_getElem? (i := 206) (by decide +kernel))) rfl, Or.inl rfl, tyX1_ok, nmX1, rfl, by decide +kernel, fun q => by cases q⟩
theorem fl_X11_173_1 : x_FL RX11 173 1 1 := ⟨"LakeWind$Lake", RX1, TX1, 6, rfl, by decide, uw_1, x_gm (List.mem_append_right _ (List.mem_of_getElem? (i := 207) (by decide +kernel))) rfl, Or.inl rfl⟩
theorem fp_X11_173_1 : x_FP RX11 173 1 1 .int false := ⟨"LakeWind$Lake", RX1, TX1, 6, tyX1, rfl, by decide, uw_1, x_gm (List.mem_append_right _ (List.mem_of_getElem? (i := 207) (by decide +kernel))) rfl, Or.inl rfl, tyX1_ok, nmX1, rfl, by decide +kernel, fun q => by cases q⟩
theorem fl_X1_18_1 : x_FL RX1 18 1 2 := ⟨"LakeWind$Lake", RX1, TX1, 6, rfl, by decide, uw_1, x_gm (List.mem_append_right _ (List.mem_of_getElem? (i := 208) (by decide +kernel))) rfl, Or.inl rfl⟩
theorem fp_X1_18_1 : x_FP RX1 18 1 2 .int false := ⟨"LakeWind$Lake", RX1, TX1, 6, tyX1, rfl, by decide, uw_1, x_gm (List.mem_append_right _ (List.mem_of_getElem? (i := 208) (by decide +kernel))) rfl, Or.inl rfl, tyX1_ok, nmX1, rfl, by decide +kernel, fun q => by cases q⟩
theorem fl_X4_70_1 : x_FL RX4 70 1 2 := ⟨"LakeWind$Lake", RX1, TX1, 6, rfl, by decide, uw_1, x_gm (List.mem_append_right _ (List.mem_of_getElem? (i := 209) (by decide +kernel))) rfl, Or.inl rfl⟩
theorem fp_X4_70_1 : x_FP RX4 70 1 2 .int false := ⟨"LakeWind$Lake", RX1, TX1, 6, tyX1, rfl, by decide, uw_1, x_gm (List.mem_append_right _ (List.mem_of_getElem? (i := 209) (by decide +kernel))) rfl, Or.inl rfl, tyX1_ok, nmX1, rfl, by decide +kernel, fun q => by cases q⟩
theorem fl_X7_48_1 : x_FL RX7 48 1 2 := ⟨"LakeWind$Lake", RX1, TX1, 6, rfl, by decide, uw_1, x_gm (List.mem_append_right _ (List.mem_of_getElem? (i := 210) (by decide +kernel))) rfl, Or.inl rfl⟩
theorem fp_X7_48_1 : x_FP RX7 48 1 2 .int false := ⟨"LakeWind$Lake", RX1, TX1, 6, tyX1, rfl, by decide, uw_1, x_gm (List.mem_append_right _ (List.mem_of_getElem? (i := 210) (by decide +kernel))) rfl, Or.inl rfl, tyX1_ok, nmX1, rfl, by decide +kernel, fun q => by cases q⟩
theorem fl_X11_208_1 : x_FL RX11 208 1 2 := ⟨"LakeWind$Lake", RX1, TX1, 6, rfl, by decide, uw_1, x_gm (List.mem_append_right _ (List.mem_of_getElem? (i := 211) (by decide +kernel))) rfl, Or.inl rfl⟩
theorem fp_X11_208_1 : x_FP RX11 208 1 2 .int false := ⟨"LakeWind$Lake", RX1, TX1, 6, tyX1, rfl, by decide, uw_1, x_gm (List.mem_append_right _ (List.mem_of_getElem? (i := 211) (by decide +kernel))) rfl, Or.inl rfl, tyX1_ok, nmX1, rfl, by decide +kernel, fun q => by cases q⟩
theorem fl_X1_21_1 : x_FL RX1 21 1 3 := ⟨"LakeWind$Lake", RX1, TX1, 6, rfl, by decide, uw_1, x_gm (List.mem_append_right _ (List.mem_of_getElem? (i := 212) (by decide +kernel))) rfl, Or.inl rfl⟩
theorem fp_X1_21_1 : x_FP RX1 21 1 3 .int false := ⟨"LakeWind$Lake", RX1, TX1, 6, tyX1, rfl, by decide, uw_1, x_gm (List.mem_append_right _ (List.mem_of_getElem? (i := 212) (by decide +kernel))) rfl, Or.inl rfl, tyX1_ok, nmX1, rfl, by decide +kernel, fun q => by cases q⟩
theorem fl_X10_25_1 : x_FL RX10 25 1 3 := ⟨"LakeWind$Lake", RX1, TX1, 6, rfl, by decide, uw_1, x_gm (List.mem_append_right _ (List.mem_of_getElem? (i := 213) (by decide +kernel))) rfl, Or.inl rfl⟩
theorem fp_X10_25_1 : x_FP RX10 25 1 3 .int false := ⟨"LakeWind$Lake", RX1, TX1, 6, tyX1, rfl, by decide, uw_1, x_gm (List.mem_append_right _ (List.mem_of_getElem? (i := 213) (by decide +kernel))) rfl, Or.inl rfl, tyX1_ok, nmX1, rfl, by decide +kernel, fun q => by cases q⟩
theorem fl_X11_118_1 : x_FL RX11 118 1 3 := ⟨"LakeWind$Lake", RX1, TX1, 6, rfl, by decide, uw_1, x_gm (List.mem_append_right _ (List.mem_of_getElem? (i := 214) (by decide +kernel))) rfl, Or.inl rfl⟩
theorem fp_X11_118_1 : x_FP RX11 118 1 3 .int false := ⟨"LakeWind$Lake", RX1, TX1, 6, tyX1, rfl, by decide, uw_1, x_gm (List.mem_append_right _ (List.mem_of_getElem? (i := 214) (by decide +kernel))) rfl, Or.inl rfl, tyX1_ok, nmX1, rfl, by decide +kernel, fun q => by cases q⟩
theorem fl_X7_55_1 : x_FL RX7 55 1 3 := ⟨"LakeWind$Lake", RX1, TX1, 6, rfl, by decide, uw_1, x_gm (List.mem_append_right _ (List.mem_of_getElem? (i := 215) (by decide +kernel))) rfl, Or.inl rfl⟩
theorem fp_X7_55_1 : x_FP RX7 55 1 3 .int false := ⟨"LakeWind$Lake", RX1, TX1, 6, tyX1, rfl, by decide, uw_1, x_gm (List.mem_append_right _ (List.mem_of_getElem? (i := 215) (by decide +kernel))) rfl, Or.inl rfl, tyX1_ok, nmX1, rfl, by decide +kernel, fun q => by cases q⟩
theorem fl_X4_164_1 : x_FL RX4 164 1 3 := ⟨"LakeWind$Lake", RX1, TX1, 6, rfl, by decide, uw_1, x_gm (List.mem_append_right _ (List.mem_of_getElem? (i := 216) (by decide +kernel))) rfl, Or.inl rfl⟩
theorem fp_X4_164_1 : x_FP RX4 164 1 3 .int false := ⟨"LakeWind$Lake", RX1, TX1, 6, tyX1, rfl, by decide, uw_1, x_gm (List.mem_append_right _ (List.mem_of_getElem? (i := 216) (by decide +kernel))) rfl, Or.inl rfl, tyX1_ok, nmX1, rfl, by decide +kernel, fun q => by cases q⟩
theorem fl_X1_24_1 : x_FL RX1 24 1 4 := ⟨"LakeWind$Lake", RX1, TX1, 6, rfl, by decide, uw_1, x_gm (List.mem_append_right _ (List.mem_of_getElem? (i := 217) (by decide +kernel))) rfl, Or.inl rfl⟩
theorem fp_X1_24_1 : x_FP RX1 24 1 4 (.array .int) true := ⟨"LakeWind$Lake", RX1, TX1, 6, tyX1, rfl, by decide, uw_1, x_gm (List.mem_append_right _ (List.mem_of_getElem? (i := 217) (by decide +kernel))) rfl, Or.inl rfl, tyX1_ok, nmX1, rfl, by decide +kernel, fun _ => rfl⟩
theorem fl_X4_79_1 : x_FL RX4 79 1 4 := ⟨"LakeWind$Lake", RX1, TX1, 6, rfl, by decide, uw_1, x_gm (List.mem_append_right _ (List.mem_of_getElem? (i := 218) (by decide +kernel))) rfl, Or.inl rfl⟩
theorem fl_X7_45_1 : x_FL RX7 45 1 4 := ⟨"LakeWind$Lake", RX1, TX1, 6, rfl, by decide, uw_1, x_gm (List.mem_append_right _ (List.mem_of_getElem? (i := 219) (by decide +kernel))) rfl, Or.inl rfl⟩
theorem fl_X10_53_1 : x_FL RX10 53 1 4 := ⟨"LakeWind$Lake", RX1, TX1, 6, rfl, by decide, uw_1, x_gm (List.mem_append_right _ (List.mem_of_getElem? (i := 220) (by decide +kernel))) rfl, Or.inl rfl⟩
theorem fl_X11_164_1 : x_FL RX11 164 1 4 := ⟨"LakeWind$Lake", RX1, TX1, 6, rfl, by decide, uw_1, x_gm (List.mem_append_right _ (List.mem_of_getElem? (i := 221) (by decide +kernel))) rfl, Or.inl rfl⟩
theorem fl_X1_30_1 : x_FL RX1 30 1 5 := ⟨"LakeWind$Lake", RX1, TX1, 6, rfl, by decide, uw_1, x_gm (List.mem_append_right _ (List.mem_of_getElem? (i := 222) (by decide +kernel))) rfl, Or.inl rfl⟩
theorem fp_X1_30_1 : x_FP RX1 30 1 5 (.array (.object "LakeWind$Boat")) true := ⟨"LakeWind$Lake", RX1, TX1, 6, tyX1, rfl, by decide, uw_1, x_gm (List.mem_append_right _ (List.mem_of_getElem? (i := 222) (by decide +kernel))) rfl, Or.inl rfl, tyX1_ok, nmX1, rfl, by decide +kernel, fun _ => rfl⟩
theorem fl_X10_30_1 : x_FL RX10 30 1 5 := ⟨"LakeWind$Lake", RX1, TX1, 6, rfl, by decide, uw_1, x_gm (List.mem_append_right _ (List.mem_of_getElem? (i := 223) (by decide +kernel))) rfl, Or.inl rfl⟩
theorem fl_X11_138_1 : x_FL RX11 138 1 5 := ⟨"LakeWind$Lake", RX1, TX1, 6, rfl, by decide, uw_1, x_gm (List.mem_append_right _ (List.mem_of_getElem? (i := 224) (by decide +kernel))) rfl, Or.inl rfl⟩
theorem fl_X7_61_1 : x_FL RX7 61 1 5 := ⟨"LakeWind$Lake", RX1, TX1, 6, rfl, by decide, uw_1, x_gm (List.mem_append_right _ (List.mem_of_getElem? (i := 225) (by decide +kernel))) rfl, Or.inl rfl⟩
theorem fl_X4_167_1 : x_FL RX4 167 1 5 := ⟨"LakeWind$Lake", RX1, TX1, 6, rfl, by decide, uw_1, x_gm (List.mem_append_right _ (List.mem_of_getElem? (i := 226) (by decide +kernel))) rfl, Or.inl rfl⟩
theorem fl_X5_11_5 : x_FL RX5 11 5 0 := ⟨"LakeWind$Sheet", RX5, TX5, 3, rfl, by decide, uw_5, x_gm (List.mem_append_right _ (List.mem_of_getElem? (i := 245) (by decide +kernel))) rfl, Or.inl rfl⟩
theorem fp_X5_11_5 : x_FP RX5 11 5 0 .int false := ⟨"LakeWind$Sheet", RX5, TX5, 3, tyX5, rfl, by decide, uw_5, x_gm (List.mem_append_right _ (List.mem_of_getElem? (i := 245) (by decide +kernel))) rfl, Or.inl rfl, tyX5_ok, nmX5, rfl, by decide +kernel, fun q => by cases q⟩
theorem fl_X11_289_5 : x_FL RX11 289 5 0 := ⟨"LakeWind$Sheet", RX5, TX5, 3, rfl, by decide, uw_5, x_gm (List.mem_append_right _ (List.mem_of_getElem? (i := 246) (by decide +kernel))) rfl, Or.inl rfl⟩
theorem fp_X11_289_5 : x_FP RX11 289 5 0 .int false := ⟨"LakeWind$Sheet", RX5, TX5, 3, tyX5, rfl, by decide, uw_5, x_gm (List.mem_append_right _ (List.mem_of_getElem? (i := 246) (by decide +kernel))) rfl, Or.inl rfl, tyX5_ok, nmX5, rfl, by decide +kernel, fun q => by cases q⟩
theorem fl_X5_15_5 : x_FL RX5 15 5 1 := ⟨"LakeWind$Sheet", RX5, TX5, 3, rfl, by decide, uw_5, x_gm (List.mem_append_right _ (List.mem_of_getElem? (i := 247) (by decide +kernel))) rfl, Or.inl rfl⟩
theorem fp_X5_15_5 : x_FP RX5 15 5 1 .int false := ⟨"LakeWind$Sheet", RX5, TX5, 3, tyX5, rfl, by decide, uw_5, x_gm (List.mem_append_right _ (List.mem_of_getElem? (i := 247) (by decide +kernel))) rfl, Or.inl rfl, tyX5_ok, nmX5, rfl, by decide +kernel, fun q => by cases q⟩
theorem fl_X5_18_5 : x_FL RX5 18 5 2 := ⟨"LakeWind$Sheet", RX5, TX5, 3, rfl, by decide, uw_5, x_gm (List.mem_append_right _ (List.mem_of_getElem? (i := 248) (by decide +kernel))) rfl, Or.inl rfl⟩
theorem fp_X5_18_5 : x_FP RX5 18 5 2 (.array .int) true := ⟨"LakeWind$Sheet", RX5, TX5, 3, tyX5, rfl, by decide, uw_5, x_gm (List.mem_append_right _ (List.mem_of_getElem? (i := 248) (by decide +kernel))) rfl, Or.inl rfl, tyX5_ok, nmX5, rfl, by decide +kernel, fun _ => rfl⟩
theorem fl_X11_92_5 : x_FL RX11 92 5 2 := ⟨"LakeWind$Sheet", RX5, TX5, 3, rfl, by decide, uw_5, x_gm (List.mem_append_right _ (List.mem_of_getElem? (i := 249) (by decide +kernel))) rfl, Or.inl rfl⟩
theorem fl_X11_13_11 : x_FL RX11 13 11 0 := ⟨"LakeWind", RX11, TX11, 12, rfl, by decide, uw_11, x_gm (List.mem_append_right _ (List.mem_of_getElem? (i := 257) (by decide +kernel))) rfl, Or.inl rfl⟩
theorem fp_X11_13_11 : x_FP RX11 13 11 0 (.array (.object "LakeWind$Sheet")) true := ⟨"LakeWind", RX11, TX11, 12, tyX11, rfl, by decide, uw_11, x_gm (List.mem_append_right _ (List.mem_of_getElem? (i := 257) (by decide +kernel))) rfl, Or.inl rfl, tyX11_ok, nmX11, rfl, by decide +kernel, fun _ => rfl⟩
theorem fl_X11_20_11 : x_FL RX11 20 11 1 := ⟨"LakeWind", RX11, TX11, 12, rfl, by decide, uw_11, x_gm (List.mem_append_right _ (List.mem_of_getElem? (i := 258) (by decide +kernel))) rfl, Or.inl rfl⟩
theorem fp_X11_20_11 : x_FP RX11 20 11 1 (.object "LakeWind$Text") true := ⟨"LakeWind", RX11, TX11, 12, tyX11, rfl, by decide, uw_11, x_gm (List.mem_append_right _ (List.mem_of_getElem? (i := 258) (by decide +kernel))) rfl, Or.inl rfl, tyX11_ok, nmX11, rfl, by decide +kernel, fun _ => rfl⟩
theorem fl_X11_27_11 : x_FL RX11 27 11 2 := ⟨"LakeWind", RX11, TX11, 12, rfl, by decide, uw_11, x_gm (List.mem_append_right _ (List.mem_of_getElem? (i := 259) (by decide +kernel))) rfl, Or.inl rfl⟩
theorem fp_X11_27_11 : x_FP RX11 27 11 2 (.object "LakeWind$Readings") true := ⟨"LakeWind", RX11, TX11, 12, tyX11, rfl, by decide, uw_11, x_gm (List.mem_append_right _ (List.mem_of_getElem? (i := 259) (by decide +kernel))) rfl, Or.inl rfl, tyX11_ok, nmX11, rfl, by decide +kernel, fun _ => rfl⟩
theorem fl_X11_34_11 : x_FL RX11 34 11 3 := ⟨"LakeWind", RX11, TX11, 12, rfl, by decide, uw_11, x_gm (List.mem_append_right _ (List.mem_of_getElem? (i := 260) (by decide +kernel))) rfl, Or.inl rfl⟩
theorem fp_X11_34_11 : x_FP RX11 34 11 3 (.object "LakeWind$Voyage") true := ⟨"LakeWind", RX11, TX11, 12, tyX11, rfl, by decide, uw_11, x_gm (List.mem_append_right _ (List.mem_of_getElem? (i := 260) (by decide +kernel))) rfl, Or.inl rfl, tyX11_ok, nmX11, rfl, by decide +kernel, fun _ => rfl⟩
theorem fl_X11_41_11 : x_FL RX11 41 11 4 := ⟨"LakeWind", RX11, TX11, 12, rfl, by decide, uw_11, x_gm (List.mem_append_right _ (List.mem_of_getElem? (i := 261) (by decide +kernel))) rfl, Or.inl rfl⟩
theorem fp_X11_41_11 : x_FP RX11 41 11 4 (.object "LakeWind$Search") true := ⟨"LakeWind", RX11, TX11, 12, tyX11, rfl, by decide, uw_11, x_gm (List.mem_append_right _ (List.mem_of_getElem? (i := 261) (by decide +kernel))) rfl, Or.inl rfl, tyX11_ok, nmX11, rfl, by decide +kernel, fun _ => rfl⟩
theorem fl_X11_48_11 : x_FL RX11 48 11 5 := ⟨"LakeWind", RX11, TX11, 12, rfl, by decide, uw_11, x_gm (List.mem_append_right _ (List.mem_of_getElem? (i := 262) (by decide +kernel))) rfl, Or.inl rfl⟩
theorem fp_X11_48_11 : x_FP RX11 48 11 5 (.object "LakeWind$Trace") true := ⟨"LakeWind", RX11, TX11, 12, tyX11, rfl, by decide, uw_11, x_gm (List.mem_append_right _ (List.mem_of_getElem? (i := 262) (by decide +kernel))) rfl, Or.inl rfl, tyX11_ok, nmX11, rfl, by decide +kernel, fun _ => rfl⟩
theorem fl_X11_52_11 : x_FL RX11 52 11 6 := ⟨"LakeWind", RX11, TX11, 12, rfl, by decide, uw_11, x_gm (List.mem_append_right _ (List.mem_of_getElem? (i := 263) (by decide +kernel))) rfl, Or.inl rfl⟩
theorem fp_X11_52_11 : x_FP RX11 52 11 6 (.array .int) true := ⟨"LakeWind", RX11, TX11, 12, tyX11, rfl, by decide, uw_11, x_gm (List.mem_append_right _ (List.mem_of_getElem? (i := 263) (by decide +kernel))) rfl, Or.inl rfl, tyX11_ok, nmX11, rfl, by decide +kernel, fun _ => rfl⟩
theorem fl_X11_56_11 : x_FL RX11 56 11 7 := ⟨"LakeWind", RX11, TX11, 12, rfl, by decide, uw_11, x_gm (List.mem_append_right _ (List.mem_of_getElem? (i := 264) (by decide +kernel))) rfl, Or.inl rfl⟩
theorem fp_X11_56_11 : x_FP RX11 56 11 7 (.array .int) false := ⟨"LakeWind", RX11, TX11, 12, tyX11, rfl, by decide, uw_11, x_gm (List.mem_append_right _ (List.mem_of_getElem? (i := 264) (by decide +kernel))) rfl, Or.inl rfl, tyX11_ok, nmX11, rfl, by decide +kernel, fun q => by cases q⟩
theorem fl_X11_59_11 : x_FL RX11 59 11 8 := ⟨"LakeWind", RX11, TX11, 12, rfl, by decide, uw_11, x_gm (List.mem_append_right _ (List.mem_of_getElem? (i := 265) (by decide +kernel))) rfl, Or.inl rfl⟩
theorem fp_X11_59_11 : x_FP RX11 59 11 8 (.array .int) false := ⟨"LakeWind", RX11, TX11, 12, tyX11, rfl, by decide, uw_11, x_gm (List.mem_append_right _ (List.mem_of_getElem? (i := 265) (by decide +kernel))) rfl, Or.inl rfl, tyX11_ok, nmX11, rfl, by decide +kernel, fun q => by cases q⟩
theorem fl_X11_65_11 : x_FL RX11 65 11 9 := ⟨"LakeWind", RX11, TX11, 12, rfl, by decide, uw_11, x_gm (List.mem_append_right _ (List.mem_of_getElem? (i := 266) (by decide +kernel))) rfl, Or.inl rfl⟩
theorem fp_X11_65_11 : x_FP RX11 65 11 9 (.object "LakeWind$Lake") false := ⟨"LakeWind", RX11, TX11, 12, tyX11, rfl, by decide, uw_11, x_gm (List.mem_append_right _ (List.mem_of_getElem? (i := 266) (by decide +kernel))) rfl, Or.inl rfl, tyX11_ok, nmX11, rfl, by decide +kernel, fun q => by cases q⟩
theorem fl_X11_69_11 : x_FL RX11 69 11 10 := ⟨"LakeWind", RX11, TX11, 12, rfl, by decide, uw_11, x_gm (List.mem_append_right _ (List.mem_of_getElem? (i := 267) (by decide +kernel))) rfl, Or.inl rfl⟩
theorem fp_X11_69_11 : x_FP RX11 69 11 10 (.object "LakeWind$Lake") false := ⟨"LakeWind", RX11, TX11, 12, tyX11, rfl, by decide, uw_11, x_gm (List.mem_append_right _ (List.mem_of_getElem? (i := 267) (by decide +kernel))) rfl, Or.inl rfl, tyX11_ok, nmX11, rfl, by decide +kernel, fun q => by cases q⟩
theorem fl_X11_72_11 : x_FL RX11 72 11 11 := ⟨"LakeWind", RX11, TX11, 12, rfl, by decide, uw_11, x_gm (List.mem_append_right _ (List.mem_of_getElem? (i := 268) (by decide +kernel))) rfl, Or.inl rfl⟩
theorem fp_X11_72_11 : x_FP RX11 72 11 11 .int false := ⟨"LakeWind", RX11, TX11, 12, tyX11, rfl, by decide, uw_11, x_gm (List.mem_append_right _ (List.mem_of_getElem? (i := 268) (by decide +kernel))) rfl, Or.inl rfl, tyX11_ok, nmX11, rfl, by decide +kernel, fun q => by cases q⟩
theorem fl_X12_65_12 : x_FL RX12 65 12 0 := ⟨"LakeWindModel", RX12, TX12, 32, rfl, by decide, uw_12, x_gm (List.mem_append_right _ (List.mem_of_getElem? (i := 805) (by decide +kernel))) rfl, Or.inl rfl⟩
theorem fp_X12_65_12 : x_FP RX12 65 12 0 .int false := ⟨"LakeWindModel", RX12, TX12, 32, tyX12, rfl, by decide, uw_12, x_gm (List.mem_append_right _ (List.mem_of_getElem? (i := 805) (by decide +kernel))) rfl, Or.inl rfl, tyX12_ok, nmX12, rfl, by decide +kernel, fun q => by cases q⟩
theorem fl_X12_234_12 : x_FL RX12 234 12 1 := ⟨"LakeWindModel", RX12, TX12, 32, rfl, by decide, uw_12, x_gm (List.mem_append_right _ (List.mem_of_getElem? (i := 806) (by decide +kernel))) rfl, Or.inl rfl⟩
theorem fp_X12_234_12 : x_FP RX12 234 12 1 .int false := ⟨"LakeWindModel", RX12, TX12, 32, tyX12, rfl, by decide, uw_12, x_gm (List.mem_append_right _ (List.mem_of_getElem? (i := 806) (by decide +kernel))) rfl, Or.inl rfl, tyX12_ok, nmX12, rfl, by decide +kernel, fun q => by cases q⟩
theorem fl_X12_9_12 : x_FL RX12 9 12 2 := ⟨"LakeWindModel", RX12, TX12, 32, rfl, by decide, uw_12, x_gm (List.mem_append_right _ (List.mem_of_getElem? (i := 807) (by decide +kernel))) rfl, Or.inl rfl⟩
theorem fp_X12_9_12 : x_FP RX12 9 12 2 (.array .int) true := ⟨"LakeWindModel", RX12, TX12, 32, tyX12, rfl, by decide, uw_12, x_gm (List.mem_append_right _ (List.mem_of_getElem? (i := 807) (by decide +kernel))) rfl, Or.inl rfl, tyX12_ok, nmX12, rfl, by decide +kernel, fun _ => rfl⟩
theorem fl_X12_13_12 : x_FL RX12 13 12 3 := ⟨"LakeWindModel", RX12, TX12, 32, rfl, by decide, uw_12, x_gm (List.mem_append_right _ (List.mem_of_getElem? (i := 808) (by decide +kernel))) rfl, Or.inl rfl⟩
theorem fp_X12_13_12 : x_FP RX12 13 12 3 (.array .int) true := ⟨"LakeWindModel", RX12, TX12, 32, tyX12, rfl, by decide, uw_12, x_gm (List.mem_append_right _ (List.mem_of_getElem? (i := 808) (by decide +kernel))) rfl, Or.inl rfl, tyX12_ok, nmX12, rfl, by decide +kernel, fun _ => rfl⟩
theorem fl_X12_16_12 : x_FL RX12 16 12 4 := ⟨"LakeWindModel", RX12, TX12, 32, rfl, by decide, uw_12, x_gm (List.mem_append_right _ (List.mem_of_getElem? (i := 809) (by decide +kernel))) rfl, Or.inl rfl⟩
theorem fp_X12_16_12 : x_FP RX12 16 12 4 (.array .int) true := ⟨"LakeWindModel", RX12, TX12, 32, tyX12, rfl, by decide, uw_12, x_gm (List.mem_append_right _ (List.mem_of_getElem? (i := 809) (by decide +kernel))) rfl, Or.inl rfl, tyX12_ok, nmX12, rfl, by decide +kernel, fun _ => rfl⟩
theorem fl_X12_108_12 : x_FL RX12 108 12 5 := ⟨"LakeWindModel", RX12, TX12, 32, rfl, by decide, uw_12, x_gm (List.mem_append_right _ (List.mem_of_getElem? (i := 810) (by decide +kernel))) rfl, Or.inl rfl⟩
theorem fp_X12_108_12 : x_FP RX12 108 12 5 .int false := ⟨"LakeWindModel", RX12, TX12, 32, tyX12, rfl, by decide, uw_12, x_gm (List.mem_append_right _ (List.mem_of_getElem? (i := 810) (by decide +kernel))) rfl, Or.inl rfl, tyX12_ok, nmX12, rfl, by decide +kernel, fun q => by cases q⟩
theorem fl_X12_78_12 : x_FL RX12 78 12 6 := ⟨"LakeWindModel", RX12, TX12, 32, rfl, by decide, uw_12, x_gm (List.mem_append_right _ (List.mem_of_getElem? (i := 811) (by decide +kernel))) rfl, Or.inl rfl⟩
theorem fp_X12_78_12 : x_FP RX12 78 12 6 .int false := ⟨"LakeWindModel", RX12, TX12, 32, tyX12, rfl, by decide, uw_12, x_gm (List.mem_append_right _ (List.mem_of_getElem? (i := 811) (by decide +kernel))) rfl, Or.inl rfl, tyX12_ok, nmX12, rfl, by decide +kernel, fun q => by cases q⟩
theorem fl_X12_75_12 : x_FL RX12 75 12 7 := ⟨"LakeWindModel", RX12, TX12, 32, rfl, by decide, uw_12, x_gm (List.mem_append_right _ (List.mem_of_getElem? (i := 812) (by decide +kernel))) rfl, Or.inl rfl⟩
theorem fp_X12_75_12 : x_FP RX12 75 12 7 .int false := ⟨"LakeWindModel", RX12, TX12, 32, tyX12, rfl, by decide, uw_12, x_gm (List.mem_append_right _ (List.mem_of_getElem? (i := 812) (by decide +kernel))) rfl, Or.inl rfl, tyX12_ok, nmX12, rfl, by decide +kernel, fun q => by cases q⟩
theorem fl_X12_19_12 : x_FL RX12 19 12 8 := ⟨"LakeWindModel", RX12, TX12, 32, rfl, by decide, uw_12, x_gm (List.mem_append_right _ (List.mem_of_getElem? (i := 813) (by decide +kernel))) rfl, Or.inl rfl⟩
theorem fp_X12_19_12 : x_FP RX12 19 12 8 (.array .boolean) true := ⟨"LakeWindModel", RX12, TX12, 32, tyX12, rfl, by decide, uw_12, x_gm (List.mem_append_right _ (List.mem_of_getElem? (i := 813) (by decide +kernel))) rfl, Or.inl rfl, tyX12_ok, nmX12, rfl, by decide +kernel, fun _ => rfl⟩
theorem fl_X12_23_12 : x_FL RX12 23 12 9 := ⟨"LakeWindModel", RX12, TX12, 32, rfl, by decide, uw_12, x_gm (List.mem_append_right _ (List.mem_of_getElem? (i := 814) (by decide +kernel))) rfl, Or.inl rfl⟩
theorem fp_X12_23_12 : x_FP RX12 23 12 9 (.array .int) true := ⟨"LakeWindModel", RX12, TX12, 32, tyX12, rfl, by decide, uw_12, x_gm (List.mem_append_right _ (List.mem_of_getElem? (i := 814) (by decide +kernel))) rfl, Or.inl rfl, tyX12_ok, nmX12, rfl, by decide +kernel, fun _ => rfl⟩
theorem fl_X12_26_12 : x_FL RX12 26 12 10 := ⟨"LakeWindModel", RX12, TX12, 32, rfl, by decide, uw_12, x_gm (List.mem_append_right _ (List.mem_of_getElem? (i := 815) (by decide +kernel))) rfl, Or.inl rfl⟩
theorem fp_X12_26_12 : x_FP RX12 26 12 10 (.array .int) true := ⟨"LakeWindModel", RX12, TX12, 32, tyX12, rfl, by decide, uw_12, x_gm (List.mem_append_right _ (List.mem_of_getElem? (i := 815) (by decide +kernel))) rfl, Or.inl rfl, tyX12_ok, nmX12, rfl, by decide +kernel, fun _ => rfl⟩
theorem fl_X12_29_12 : x_FL RX12 29 12 11 := ⟨"LakeWindModel", RX12, TX12, 32, rfl, by decide, uw_12, x_gm (List.mem_append_right _ (List.mem_of_getElem? (i := 816) (by decide +kernel))) rfl, Or.inl rfl⟩
theorem fp_X12_29_12 : x_FP RX12 29 12 11 (.array .int) true := ⟨"LakeWindModel", RX12, TX12, 32, tyX12, rfl, by decide, uw_12, x_gm (List.mem_append_right _ (List.mem_of_getElem? (i := 816) (by decide +kernel))) rfl, Or.inl rfl, tyX12_ok, nmX12, rfl, by decide +kernel, fun _ => rfl⟩
theorem fl_X12_32_12 : x_FL RX12 32 12 12 := ⟨"LakeWindModel", RX12, TX12, 32, rfl, by decide, uw_12, x_gm (List.mem_append_right _ (List.mem_of_getElem? (i := 817) (by decide +kernel))) rfl, Or.inl rfl⟩
theorem fp_X12_32_12 : x_FP RX12 32 12 12 (.array .int) true := ⟨"LakeWindModel", RX12, TX12, 32, tyX12, rfl, by decide, uw_12, x_gm (List.mem_append_right _ (List.mem_of_getElem? (i := 817) (by decide +kernel))) rfl, Or.inl rfl, tyX12_ok, nmX12, rfl, by decide +kernel, fun _ => rfl⟩
theorem fl_X12_81_12 : x_FL RX12 81 12 13 := ⟨"LakeWindModel", RX12, TX12, 32, rfl, by decide, uw_12, x_gm (List.mem_append_right _ (List.mem_of_getElem? (i := 818) (by decide +kernel))) rfl, Or.inl rfl⟩
theorem fp_X12_81_12 : x_FP RX12 81 12 13 .int false := ⟨"LakeWindModel", RX12, TX12, 32, tyX12, rfl, by decide, uw_12, x_gm (List.mem_append_right _ (List.mem_of_getElem? (i := 818) (by decide +kernel))) rfl, Or.inl rfl, tyX12_ok, nmX12, rfl, by decide +kernel, fun q => by cases q⟩
theorem fl_X12_105_12 : x_FL RX12 105 12 14 := ⟨"LakeWindModel", RX12, TX12, 32, rfl, by decide, uw_12, x_gm (List.mem_append_right _ (List.mem_of_getElem? (i := 819) (by decide +kernel))) rfl, Or.inl rfl⟩
theorem fp_X12_105_12 : x_FP RX12 105 12 14 .int false := ⟨"LakeWindModel", RX12, TX12, 32, tyX12, rfl, by decide, uw_12, x_gm (List.mem_append_right _ (List.mem_of_getElem? (i := 819) (by decide +kernel))) rfl, Or.inl rfl, tyX12_ok, nmX12, rfl, by decide +kernel, fun q => by cases q⟩
theorem fl_X12_111_12 : x_FL RX12 111 12 15 := ⟨"LakeWindModel", RX12, TX12, 32, rfl, by decide, uw_12, x_gm (List.mem_append_right _ (List.mem_of_getElem? (i := 820) (by decide +kernel))) rfl, Or.inl rfl⟩
theorem fp_X12_111_12 : x_FP RX12 111 12 15 .int false := ⟨"LakeWindModel", RX12, TX12, 32, tyX12, rfl, by decide, uw_12, x_gm (List.mem_append_right _ (List.mem_of_getElem? (i := 820) (by decide +kernel))) rfl, Or.inl rfl, tyX12_ok, nmX12, rfl, by decide +kernel, fun q => by cases q⟩
theorem fl_X12_114_12 : x_FL RX12 114 12 16 := ⟨"LakeWindModel", RX12, TX12, 32, rfl, by decide, uw_12, x_gm (List.mem_append_right _ (List.mem_of_getElem? (i := 821) (by decide +kernel))) rfl, Or.inl rfl⟩
theorem fp_X12_114_12 : x_FP RX12 114 12 16 .int false := ⟨"LakeWindModel", RX12, TX12, 32, tyX12, rfl, by decide, uw_12, x_gm (List.mem_append_right _ (List.mem_of_getElem? (i := 821) (by decide +kernel))) rfl, Or.inl rfl, tyX12_ok, nmX12, rfl, by decide +kernel, fun q => by cases q⟩
theorem fl_X12_35_12 : x_FL RX12 35 12 17 := ⟨"LakeWindModel", RX12, TX12, 32, rfl, by decide, uw_12, x_gm (List.mem_append_right _ (List.mem_of_getElem? (i := 822) (by decide +kernel))) rfl, Or.inl rfl⟩
theorem fp_X12_35_12 : x_FP RX12 35 12 17 (.array .int) true := ⟨"LakeWindModel", RX12, TX12, 32, tyX12, rfl, by decide, uw_12, x_gm (List.mem_append_right _ (List.mem_of_getElem? (i := 822) (by decide +kernel))) rfl, Or.inl rfl, tyX12_ok, nmX12, rfl, by decide +kernel, fun _ => rfl⟩
theorem fl_X12_38_12 : x_FL RX12 38 12 18 := ⟨"LakeWindModel", RX12, TX12, 32, rfl, by decide, uw_12, x_gm (List.mem_append_right _ (List.mem_of_getElem? (i := 823) (by decide +kernel))) rfl, Or.inl rfl⟩
theorem fp_X12_38_12 : x_FP RX12 38 12 18 (.array .int) true := ⟨"LakeWindModel", RX12, TX12, 32, tyX12, rfl, by decide, uw_12, x_gm (List.mem_append_right _ (List.mem_of_getElem? (i := 823) (by decide +kernel))) rfl, Or.inl rfl, tyX12_ok, nmX12, rfl, by decide +kernel, fun _ => rfl⟩
theorem fl_X12_41_12 : x_FL RX12 41 12 19 := ⟨"LakeWindModel", RX12, TX12, 32, rfl, by decide, uw_12, x_gm (List.mem_append_right _ (List.mem_of_getElem? (i := 824) (by decide +kernel))) rfl, Or.inl rfl⟩
theorem fp_X12_41_12 : x_FP RX12 41 12 19 (.array .int) true := ⟨"LakeWindModel", RX12, TX12, 32, tyX12, rfl, by decide, uw_12, x_gm (List.mem_append_right _ (List.mem_of_getElem? (i := 824) (by decide +kernel))) rfl, Or.inl rfl, tyX12_ok, nmX12, rfl, by decide +kernel, fun _ => rfl⟩
theorem fl_X12_44_12 : x_FL RX12 44 12 20 := ⟨"LakeWindModel", RX12, TX12, 32, rfl, by decide, uw_12, x_gm (List.mem_append_right _ (List.mem_of_getElem? (i := 825) (by decide +kernel))) rfl, Or.inl rfl⟩
theorem fp_X12_44_12 : x_FP RX12 44 12 20 (.array .int) true := ⟨"LakeWindModel", RX12, TX12, 32, tyX12, rfl, by decide, uw_12, x_gm (List.mem_append_right _ (List.mem_of_getElem? (i := 825) (by decide +kernel))) rfl, Or.inl rfl, tyX12_ok, nmX12, rfl, by decide +kernel, fun _ => rfl⟩
theorem fl_X12_156_12 : x_FL RX12 156 12 21 := ⟨"LakeWindModel", RX12, TX12, 32, rfl, by decide, uw_12, x_gm (List.mem_append_right _ (List.mem_of_getElem? (i := 826) (by decide +kernel))) rfl, Or.inl rfl⟩
theorem fp_X12_156_12 : x_FP RX12 156 12 21 .int false := ⟨"LakeWindModel", RX12, TX12, 32, tyX12, rfl, by decide, uw_12, x_gm (List.mem_append_right _ (List.mem_of_getElem? (i := 826) (by decide +kernel))) rfl, Or.inl rfl, tyX12_ok, nmX12, rfl, by decide +kernel, fun q => by cases q⟩
theorem fl_X12_47_12 : x_FL RX12 47 12 22 := ⟨"LakeWindModel", RX12, TX12, 32, rfl, by decide, uw_12, x_gm (List.mem_append_right _ (List.mem_of_getElem? (i := 827) (by decide +kernel))) rfl, Or.inl rfl⟩
theorem fp_X12_47_12 : x_FP RX12 47 12 22 (.array .int) true := ⟨"LakeWindModel", RX12, TX12, 32, tyX12, rfl, by decide, uw_12, x_gm (List.mem_append_right _ (List.mem_of_getElem? (i := 827) (by decide +kernel))) rfl, Or.inl rfl, tyX12_ok, nmX12, rfl, by decide +kernel, fun _ => rfl⟩
theorem fl_X12_163_12 : x_FL RX12 163 12 23 := ⟨"LakeWindModel", RX12, TX12, 32, rfl, by decide, uw_12, x_gm (List.mem_append_right _ (List.mem_of_getElem? (i := 828) (by decide +kernel))) rfl, Or.inl rfl⟩
theorem fp_X12_163_12 : x_FP RX12 163 12 23 .int false := ⟨"LakeWindModel", RX12, TX12, 32, tyX12, rfl, by decide, uw_12, x_gm (List.mem_append_right _ (List.mem_of_getElem? (i := 828) (by decide +kernel))) rfl, Or.inl rfl, tyX12_ok, nmX12, rfl, by decide +kernel, fun q => by cases q⟩
theorem fl_X12_166_12 : x_FL RX12 166 12 24 := ⟨"LakeWindModel", RX12, TX12, 32, rfl, by decide, uw_12, x_gm (List.mem_append_right _ (List.mem_of_getElem? (i := 829) (by decide +kernel))) rfl, Or.inl rfl⟩
theorem fp_X12_166_12 : x_FP RX12 166 12 24 .int false := ⟨"LakeWindModel", RX12, TX12, 32, tyX12, rfl, by decide, uw_12, x_gm (List.mem_append_right _ (List.mem_of_getElem? (i := 829) (by decide +kernel))) rfl, Or.inl rfl, tyX12_ok, nmX12, rfl, by decide +kernel, fun q => by cases q⟩
theorem fl_X12_169_12 : x_FL RX12 169 12 25 := ⟨"LakeWindModel", RX12, TX12, 32, rfl, by decide, uw_12, x_gm (List.mem_append_right _ (List.mem_of_getElem? (i := 830) (by decide +kernel))) rfl, Or.inl rfl⟩
theorem fp_X12_169_12 : x_FP RX12 169 12 25 .int false := ⟨"LakeWindModel", RX12, TX12, 32, tyX12, rfl, by decide, uw_12, x_gm (List.mem_append_right _ (List.mem_of_getElem? (i := 830) (by decide +kernel))) rfl, Or.inl rfl, tyX12_ok, nmX12, rfl, by decide +kernel, fun q => by cases q⟩
theorem fl_X12_50_12 : x_FL RX12 50 12 26 := ⟨"LakeWindModel", RX12, TX12, 32, rfl, by decide, uw_12, x_gm (List.mem_append_right _ (List.mem_of_getElem? (i := 831) (by decide +kernel))) rfl, Or.inl rfl⟩
theorem fp_X12_50_12 : x_FP RX12 50 12 26 (.array .boolean) true := ⟨"LakeWindModel", RX12, TX12, 32, tyX12, rfl, by decide, uw_12, x_gm (List.mem_append_right _ (List.mem_of_getElem? (i := 831) (by decide +kernel))) rfl, Or.inl rfl, tyX12_ok, nmX12, rfl, by decide +kernel, fun _ => rfl⟩
theorem fl_X12_53_12 : x_FL RX12 53 12 27 := ⟨"LakeWindModel", RX12, TX12, 32, rfl, by decide, uw_12, x_gm (List.mem_append_right _ (List.mem_of_getElem? (i := 832) (by decide +kernel))) rfl, Or.inl rfl⟩
theorem fp_X12_53_12 : x_FP RX12 53 12 27 (.array .boolean) true := ⟨"LakeWindModel", RX12, TX12, 32, tyX12, rfl, by decide, uw_12, x_gm (List.mem_append_right _ (List.mem_of_getElem? (i := 832) (by decide +kernel))) rfl, Or.inl rfl, tyX12_ok, nmX12, rfl, by decide +kernel, fun _ => rfl⟩
theorem fl_X12_117_12 : x_FL RX12 117 12 28 := ⟨"LakeWindModel", RX12, TX12, 32, rfl, by decide, uw_12, x_gm (List.mem_append_right _ (List.mem_of_getElem? (i := 833) (by decide +kernel))) rfl, Or.inl rfl⟩
theorem fp_X12_117_12 : x_FP RX12 117 12 28 .int false := ⟨"LakeWindModel", RX12, TX12, 32, tyX12, rfl, by decide, uw_12, x_gm (List.mem_append_right _ (List.mem_of_getElem? (i := 833) (by decide +kernel))) rfl, Or.inl rfl, tyX12_ok, nmX12, rfl, by decide +kernel, fun q => by cases q⟩
theorem fl_X12_56_12 : x_FL RX12 56 12 29 := ⟨"LakeWindModel", RX12, TX12, 32, rfl, by decide, uw_12, x_gm (List.mem_append_right _ (List.mem_of_getElem? (i := 834) (by decide +kernel))) rfl, Or.inl rfl⟩
theorem fp_X12_56_12 : x_FP RX12 56 12 29 (.array .int) true := ⟨"LakeWindModel", RX12, TX12, 32, tyX12, rfl, by decide, uw_12, x_gm (List.mem_append_right _ (List.mem_of_getElem? (i := 834) (by decide +kernel))) rfl, Or.inl rfl, tyX12_ok, nmX12, rfl, by decide +kernel, fun _ => rfl⟩
theorem fl_X12_59_12 : x_FL RX12 59 12 30 := ⟨"LakeWindModel", RX12, TX12, 32, rfl, by decide, uw_12, x_gm (List.mem_append_right _ (List.mem_of_getElem? (i := 835) (by decide +kernel))) rfl, Or.inl rfl⟩
theorem fp_X12_59_12 : x_FP RX12 59 12 30 (.array .int) true := ⟨"LakeWindModel", RX12, TX12, 32, tyX12, rfl, by decide, uw_12, x_gm (List.mem_append_right _ (List.mem_of_getElem? (i := 835) (by decide +kernel))) rfl, Or.inl rfl, tyX12_ok, nmX12, rfl, by decide +kernel, fun _ => rfl⟩
theorem fl_X12_62_12 : x_FL RX12 62 12 31 := ⟨"LakeWindModel", RX12, TX12, 32, rfl, by decide, uw_12, x_gm (List.mem_append_right _ (List.mem_of_getElem? (i := 836) (by decide +kernel))) rfl, Or.inl rfl⟩
theorem fp_X12_62_12 : x_FP RX12 62 12 31 (.array .int) true := ⟨"LakeWindModel", RX12, TX12, 32, tyX12, rfl, by decide, uw_12, x_gm (List.mem_append_right _ (List.mem_of_getElem? (i := 836) (by decide +kernel))) rfl, Or.inl rfl, tyX12_ok, nmX12, rfl, by decide +kernel, fun _ => rfl⟩
end
section
theorem li_L_9 : x_LI RL 9 M_X11_init 0 := ⟨xn_X11_init, Or.inl (x_gm (List.mem_append_right _ (List.mem_of_getElem? (i := 19) (by decide +kernel))) rfl), x_gm (List.mem_append_right _ (List.mem_of_getElem? (i := 20) (by decide +kernel))) rfl, rfl, rfl⟩
theorem li_X11_19 : x_LI RX11 19 M_X7_init 0 := ⟨xn_X7_init, Or.inr ⟨RX11, List.mem_of_getElem? (i := 0) rfl⟩, x_gm (List.mem_append_right _ (List.mem_of_getElem? (i := 30) (by decide +kernel))) rfl, rfl, rfl⟩
theorem li_X11_26 : x_LI RX11 26 M_X3_init 0 := ⟨xn_X3_init, Or.inr ⟨RX11, List.mem_of_getElem? (i := 1) rfl⟩, x_gm (List.mem_append_right _ (List.mem_of_getElem? (i := 51) (by decide +kernel))) rfl, rfl, rfl⟩
theorem li_X11_33 : x_LI RX11 33 M_X10_init 0 := ⟨xn_X10_init, Or.inr ⟨RX11, List.mem_of_getElem? (i := 2) rfl⟩, x_gm (List.mem_append_right _ (List.mem_of_getElem? (i := 71) (by decide +kernel))) rfl, rfl, rfl⟩
theorem li_X11_40 : x_LI RX11 40 M_X4_init 0 := ⟨xn_X4_init, Or.inl (x_gm (List.mem_append_right _ (List.mem_of_getElem? (i := 94) (by decide +kernel))) rfl), x_gm (List.mem_append_right _ (List.mem_of_getElem? (i := 95) (by decide +kernel))) rfl, rfl, rfl⟩
theorem li_X4_41 : x_LI RX4 41 M_X10_init 0 := ⟨xn_X10_init, Or.inr ⟨RX11, List.mem_of_getElem? (i := 3) rfl⟩, x_gm (List.mem_append_right _ (List.mem_of_getElem? (i := 71) (by decide +kernel))) rfl, rfl, rfl⟩
theorem li_X4_48 : x_LI RX4 48 M_X6_init 0 := ⟨xn_X6_init, Or.inr ⟨RX11, List.mem_of_getElem? (i := 4) rfl⟩, x_gm (List.mem_append_right _ (List.mem_of_getElem? (i := 103) (by decide +kernel))) rfl, rfl, rfl⟩
theorem li_X11_47 : x_LI RX11 47 M_X9_init 0 := ⟨xn_X9_init, Or.inr ⟨RX11, List.mem_of_getElem? (i := 5) rfl⟩, x_gm (List.mem_append_right _ (List.mem_of_getElem? (i := 161) (by decide +kernel))) rfl, rfl, rfl⟩
theorem li_X11_64 : x_LI RX11 64 M_X1_init 0 := ⟨xn_X1_init, Or.inl (x_gm (List.mem_append_right _ (List.mem_of_getElem? (i := 171) (by decide +kernel))) rfl), x_gm (List.mem_append_right _ (List.mem_of_getElem? (i := 172) (by decide +kernel))) rfl, rfl, rfl⟩
theorem li_X1_34 : x_LI RX1 34 M_X0_init 3 := ⟨xn_X0_init, Or.inl (x_gm (List.mem_append_right _ (List.mem_of_getElem? (i := 178) (by decide +kernel))) rfl), x_gm (List.mem_append_right _ (List.mem_of_getElem? (i := 179) (by decide +kernel))) rfl, rfl, rfl⟩
theorem li_X11_76 : x_LI RX11 76 M_X5_init 0 := ⟨xn_X5_init, Or.inr ⟨RX11, List.mem_of_getElem? (i := 6) rfl⟩, x_gm (List.mem_append_right _ (List.mem_of_getElem? (i := 242) (by decide +kernel))) rfl, rfl, rfl⟩
theorem lv_L_13 : x_LV RL 13 M_X11_lake 4 := ⟨xn_X11_lake, x_gm (List.mem_append_right _ (List.mem_of_getElem? (i := 294) (by decide +kernel))) rfl, x_gm (List.mem_append_right _ (List.mem_of_getElem? (i := 295) (by decide +kernel))) rfl, x_gm (List.mem_append_right _ (List.mem_of_getElem? (i := 296) (by decide +kernel))) rfl⟩
theorem ls_X11_77 : x_LS RX11 77 M_X11_isSheet 1 := ⟨xn_X11_isSheet, Or.inl (x_gm (List.mem_append_right _ (List.mem_of_getElem? (i := 298) (by decide +kernel))) rfl), x_gm (List.mem_append_right _ (List.mem_of_getElem? (i := 299) (by decide +kernel))) rfl⟩
theorem ls_X11_81 : x_LS RX11 81 M_X11_isLane 1 := ⟨xn_X11_isLane, Or.inl (x_gm (List.mem_append_right _ (List.mem_of_getElem? (i := 301) (by decide +kernel))) rfl), x_gm (List.mem_append_right _ (List.mem_of_getElem? (i := 302) (by decide +kernel))) rfl⟩
theorem ls_X11_84 : x_LS RX11 84 M_X11_faultOfText 4 := ⟨xn_X11_faultOfText, Or.inl (x_gm (List.mem_append_right _ (List.mem_of_getElem? (i := 304) (by decide +kernel))) rfl), x_gm (List.mem_append_right _ (List.mem_of_getElem? (i := 305) (by decide +kernel))) rfl⟩
theorem lv_X11_121 : x_LV RX11 121 M_X5_faultAs 1 := ⟨xn_X5_faultAs, x_gm (List.mem_append_right _ (List.mem_of_getElem? (i := 307) (by decide +kernel))) rfl, x_gm (List.mem_append_right _ (List.mem_of_getElem? (i := 308) (by decide +kernel))) rfl, x_gm (List.mem_append_right _ (List.mem_of_getElem? (i := 309) (by decide +kernel))) rfl⟩
theorem lv_X5_28 : x_LV RX5 28 M_X5_hasRow 0 := ⟨xn_X5_hasRow, x_gm (List.mem_append_right _ (List.mem_of_getElem? (i := 311) (by decide +kernel))) rfl, x_gm (List.mem_append_right _ (List.mem_of_getElem? (i := 312) (by decide +kernel))) rfl, x_gm (List.mem_append_right _ (List.mem_of_getElem? (i := 313) (by decide +kernel))) rfl⟩
theorem lv_X11_124 : x_LV RX11 124 M_X5_holds 2 := ⟨xn_X5_holds, x_gm (List.mem_append_right _ (List.mem_of_getElem? (i := 315) (by decide +kernel))) rfl, x_gm (List.mem_append_right _ (List.mem_of_getElem? (i := 316) (by decide +kernel))) rfl, x_gm (List.mem_append_right _ (List.mem_of_getElem? (i := 317) (by decide +kernel))) rfl⟩
theorem lv_X11_88 : x_LV RX11 88 M_X11_faulted 1 := ⟨xn_X11_faulted, x_gm (List.mem_append_right _ (List.mem_of_getElem? (i := 319) (by decide +kernel))) rfl, x_gm (List.mem_append_right _ (List.mem_of_getElem? (i := 321) (by decide +kernel))) rfl, x_gm (List.mem_append_left _ (List.mem_of_getElem? (i := 0) (by decide +kernel))) rfl⟩
theorem lv_X11_95 : x_LV RX11 95 M_X7_begin 3 := ⟨xn_X7_begin, x_gm (List.mem_append_right _ (List.mem_of_getElem? (i := 323) (by decide +kernel))) rfl, x_gm (List.mem_append_right _ (List.mem_of_getElem? (i := 324) (by decide +kernel))) rfl, x_gm (List.mem_append_right _ (List.mem_of_getElem? (i := 325) (by decide +kernel))) rfl⟩
theorem lv_X11_99 : x_LV RX11 99 M_X1_drain 0 := ⟨xn_X1_drain, x_gm (List.mem_append_right _ (List.mem_of_getElem? (i := 327) (by decide +kernel))) rfl, x_gm (List.mem_append_right _ (List.mem_of_getElem? (i := 328) (by decide +kernel))) rfl, x_gm (List.mem_append_right _ (List.mem_of_getElem? (i := 329) (by decide +kernel))) rfl⟩
theorem lv_X11_102 : x_LV RX11 102 M_X7_readWater 1 := ⟨xn_X7_readWater, x_gm (List.mem_append_right _ (List.mem_of_getElem? (i := 331) (by decide +kernel))) rfl, x_gm (List.mem_append_right _ (List.mem_of_getElem? (i := 332) (by decide +kernel))) rfl, x_gm (List.mem_append_right _ (List.mem_of_getElem? (i := 333) (by decide +kernel))) rfl⟩
theorem lv_X7_25 : x_LV RX7 25 M_X7_skip 1 := ⟨xn_X7_skip, x_gm (List.mem_append_right _ (List.mem_of_getElem? (i := 335) (by decide +kernel))) rfl, x_gm (List.mem_append_right _ (List.mem_of_getElem? (i := 337) (by decide +kernel))) rfl, x_gm (List.mem_append_left _ (List.mem_of_getElem? (i := 1) (by decide +kernel))) rfl⟩
theorem lv_X7_69 : x_LV RX7 69 M_X7_isNext 1 := ⟨xn_X7_isNext, x_gm (List.mem_append_right _ (List.mem_of_getElem? (i := 339) (by decide +kernel))) rfl, x_gm (List.mem_append_right _ (List.mem_of_getElem? (i := 341) (by decide +kernel))) rfl, x_gm (List.mem_append_left _ (List.mem_of_getElem? (i := 2) (by decide +kernel))) rfl⟩
theorem lv_X7_29 : x_LV RX7 29 M_X7_digit 2 := ⟨xn_X7_digit, x_gm (List.mem_append_right _ (List.mem_of_getElem? (i := 343) (by decide +kernel))) rfl, x_gm (List.mem_append_right _ (List.mem_of_getElem? (i := 345) (by decide +kernel))) rfl, x_gm (List.mem_append_left _ (List.mem_of_getElem? (i := 3) (by decide +kernel))) rfl⟩
theorem lv_X11_106 : x_LV RX11 106 M_X7_readWinds 1 := ⟨xn_X7_readWinds, x_gm (List.mem_append_right _ (List.mem_of_getElem? (i := 347) (by decide +kernel))) rfl, x_gm (List.mem_append_right _ (List.mem_of_getElem? (i := 348) (by decide +kernel))) rfl, x_gm (List.mem_append_right _ (List.mem_of_getElem? (i := 349) (by decide +kernel))) rfl⟩
theorem lv_X7_41 : x_LV RX7 41 M_X7_windSign 0 := ⟨xn_X7_windSign, x_gm (List.mem_append_right _ (List.mem_of_getElem? (i := 351) (by decide +kernel))) rfl, x_gm (List.mem_append_right _ (List.mem_of_getElem? (i := 353) (by decide +kernel))) rfl, x_gm (List.mem_append_left _ (List.mem_of_getElem? (i := 4) (by decide +kernel))) rfl⟩
theorem lv_X11_109 : x_LV RX11 109 M_X7_readBoats 1 := ⟨xn_X7_readBoats, x_gm (List.mem_append_right _ (List.mem_of_getElem? (i := 355) (by decide +kernel))) rfl, x_gm (List.mem_append_right _ (List.mem_of_getElem? (i := 356) (by decide +kernel))) rfl, x_gm (List.mem_append_right _ (List.mem_of_getElem? (i := 357) (by decide +kernel))) rfl⟩
theorem lv_X7_51 : x_LV RX7 51 M_X7_readBoat 2 := ⟨xn_X7_readBoat, x_gm (List.mem_append_right _ (List.mem_of_getElem? (i := 359) (by decide +kernel))) rfl, x_gm (List.mem_append_right _ (List.mem_of_getElem? (i := 361) (by decide +kernel))) rfl, x_gm (List.mem_append_left _ (List.mem_of_getElem? (i := 5) (by decide +kernel))) rfl⟩
theorem lv_X7_58 : x_LV RX7 58 M_X7_kindLetter 0 := ⟨xn_X7_kindLetter, x_gm (List.mem_append_right _ (List.mem_of_getElem? (i := 363) (by decide +kernel))) rfl, x_gm (List.mem_append_right _ (List.mem_of_getElem? (i := 365) (by decide +kernel))) rfl, x_gm (List.mem_append_left _ (List.mem_of_getElem? (i := 6) (by decide +kernel))) rfl⟩
theorem ls_X7_65 : x_LS RX7 65 M_X11_newBoat 4 := ⟨xn_X11_newBoat, Or.inr ⟨RX11, List.mem_of_getElem? (i := 7) rfl⟩, x_gm (List.mem_append_right _ (List.mem_of_getElem? (i := 368) (by decide +kernel))) rfl⟩
theorem li_X11_319 : x_LI RX11 319 M_X2_init 3 := ⟨xn_X2_init, Or.inl (x_gm (List.mem_append_right _ (List.mem_of_getElem? (i := 372) (by decide +kernel))) rfl), x_gm (List.mem_append_right _ (List.mem_of_getElem? (i := 373) (by decide +kernel))) rfl, rfl, rfl⟩
theorem li_X2_1 : x_LI RX2 1 M_X0_init 3 := ⟨xn_X0_init, Or.inl (x_gm (List.mem_append_right _ (List.mem_of_getElem? (i := 375) (by decide +kernel))) rfl), x_gm (List.mem_append_right _ (List.mem_of_getElem? (i := 179) (by decide +kernel))) rfl, rfl, rfl⟩
theorem li_X11_322 : x_LI RX11 322 M_X8_init 3 := ⟨xn_X8_init, Or.inl (x_gm (List.mem_append_right _ (List.mem_of_getElem? (i := 382) (by decide +kernel))) rfl), x_gm (List.mem_append_right _ (List.mem_of_getElem? (i := 383) (by decide +kernel))) rfl, rfl, rfl⟩
theorem li_X8_1 : x_LI RX8 1 M_X2_init 3 := ⟨xn_X2_init, Or.inl (x_gm (List.mem_append_right _ (List.mem_of_getElem? (i := 385) (by decide +kernel))) rfl), x_gm (List.mem_append_right _ (List.mem_of_getElem? (i := 373) (by decide +kernel))) rfl, rfl, rfl⟩
theorem li_X11_323 : x_LI RX11 323 M_X0_init 3 := ⟨xn_X0_init, Or.inl (x_gm (List.mem_append_right _ (List.mem_of_getElem? (i := 391) (by decide +kernel))) rfl), x_gm (List.mem_append_right _ (List.mem_of_getElem? (i := 179) (by decide +kernel))) rfl, rfl, rfl⟩
theorem lv_X11_115 : x_LV RX11 115 M_X11_takeSpareWater 0 := ⟨xn_X11_takeSpareWater, x_gm (List.mem_append_right _ (List.mem_of_getElem? (i := 392) (by decide +kernel))) rfl, x_gm (List.mem_append_right _ (List.mem_of_getElem? (i := 394) (by decide +kernel))) rfl, x_gm (List.mem_append_left _ (List.mem_of_getElem? (i := 7) (by decide +kernel))) rfl⟩
theorem lv_L_18 : x_LV RL 18 M_X11_ofBoat 2 := ⟨xn_X11_ofBoat, x_gm (List.mem_append_right _ (List.mem_of_getElem? (i := 396) (by decide +kernel))) rfl, x_gm (List.mem_append_right _ (List.mem_of_getElem? (i := 397) (by decide +kernel))) rfl, x_gm (List.mem_append_right _ (List.mem_of_getElem? (i := 398) (by decide +kernel))) rfl⟩
theorem lv_X11_135 : x_LV RX11 135 M_X11_isBoat 1 := ⟨xn_X11_isBoat, x_gm (List.mem_append_right _ (List.mem_of_getElem? (i := 400) (by decide +kernel))) rfl, x_gm (List.mem_append_right _ (List.mem_of_getElem? (i := 402) (by decide +kernel))) rfl, x_gm (List.mem_append_left _ (List.mem_of_getElem? (i := 8) (by decide +kernel))) rfl⟩
theorem lv_X11_142 : x_LV RX11 142 M_X0_kindNumber 0 := ⟨xn_X0_kindNumber, x_gm (List.mem_append_right _ (List.mem_of_getElem? (i := 404) (by decide +kernel))) rfl, x_gm (List.mem_append_right _ (List.mem_of_getElem? (i := 405) (by decide +kernel))) rfl, x_gm (List.mem_append_right _ (List.mem_of_getElem? (i := 406) (by decide +kernel))) rfl⟩
theorem lu_X11_142_X2 : x_LU RX11 142 RX2 RX0 yX0_kindNumber M_X2_kindNumber 0 := ⟨xn_X2_kindNumber, x_gm (List.mem_append_right _ (List.mem_of_getElem? (i := 404) (by decide +kernel))) rfl, x_gm (List.mem_append_right _ (List.mem_of_getElem? (i := 407) (by decide +kernel))) rfl, fun U hU _ => va_Decl.of (hU _ (x_gm (List.mem_append_right _ (List.mem_of_getElem? (i := 405) (by decide +kernel))) rfl)) (hU _ xn_X0_kindNumber.1), x_gm (List.mem_append_right _ (List.mem_of_getElem? (i := 408) (by decide +kernel))) rfl, x_gm (List.mem_append_right _ (List.mem_of_getElem? (i := 409) (by decide +kernel))) rfl, ⟨by decide +kernel, by decide +kernel⟩, by decide +kernel⟩
theorem lu_X11_142_X8 : x_LU RX11 142 RX8 RX0 yX0_kindNumber M_X8_kindNumber 0 := ⟨xn_X8_kindNumber, x_gm (List.mem_append_right _ (List.mem_of_getElem? (i := 404) (by decide +kernel))) rfl, x_gm (List.mem_append_right _ (List.mem_of_getElem? (i := 407) (by decide +kernel))) rfl, fun U hU _ => va_Decl.of (hU _ (x_gm (List.mem_append_right _ (List.mem_of_getElem? (i := 405) (by decide +kernel))) rfl)) (hU _ xn_X0_kindNumber.1), x_gm (List.mem_append_right _ (List.mem_of_getElem? (i := 411) (by decide +kernel))) rfl, x_gm (List.mem_append_right _ (List.mem_of_getElem? (i := 412) (by decide +kernel))) rfl, ⟨by decide +kernel, by decide +kernel⟩, by decide +kernel⟩
theorem lv_X11_154 : x_LV RX11 154 M_X0_goesAgainst 0 := ⟨xn_X0_goesAgainst, x_gm (List.mem_append_right _ (List.mem_of_getElem? (i := 415) (by decide +kernel))) rfl, x_gm (List.mem_append_right _ (List.mem_of_getElem? (i := 416) (by decide +kernel))) rfl, x_gm (List.mem_append_right _ (List.mem_of_getElem? (i := 417) (by decide +kernel))) rfl⟩
theorem lu_X11_154_X2 : x_LU RX11 154 RX2 RX0 yX0_goesAgainst M_X2_goesAgainst 0 := ⟨xn_X2_goesAgainst, x_gm (List.mem_append_right _ (List.mem_of_getElem? (i := 415) (by decide +kernel))) rfl, x_gm (List.mem_append_right _ (List.mem_of_getElem? (i := 418) (by decide +kernel))) rfl, fun U hU _ => va_Decl.of (hU _ (x_gm (List.mem_append_right _ (List.mem_of_getElem? (i := 416) (by decide +kernel))) rfl)) (hU _ xn_X0_goesAgainst.1), x_gm (List.mem_append_right _ (List.mem_of_getElem? (i := 419) (by decide +kernel))) rfl, x_gm (List.mem_append_right _ (List.mem_of_getElem? (i := 420) (by decide +kernel))) rfl, ⟨by decide +kernel, by decide +kernel⟩, by decide +kernel⟩
theorem lu_X11_154_X8 : x_LU RX11 154 RX8 RX0 yX0_goesAgainst M_X8_goesAgainst 0 := ⟨xn_X8_goesAgainst, x_gm (List.mem_append_right _ (List.mem_of_getElem? (i := 415) (by decide +kernel))) rfl, x_gm (List.mem_append_right _ (List.mem_of_getElem? (i := 418) (by decide +kernel))) rfl, fun U hU _ => va_Decl.of (hU _ (x_gm (List.mem_append_right _ (List.mem_of_getElem? (i := 416) (by decide +kernel))) rfl)) (hU _ xn_X0_goesAgainst.1), x_gm (List.mem_append_right _ (List.mem_of_getElem? (i := 422) (by decide +kernel))) rfl, x_gm (List.mem_append_right _ (List.mem_of_getElem? (i := 423) (by decide +kernel))) rfl, ⟨by decide +kernel, by decide +kernel⟩, by decide +kernel⟩
theorem lv_L_23 : x_LV RL 23 M_X11_wind 2 := ⟨xn_X11_wind, x_gm (List.mem_append_right _ (List.mem_of_getElem? (i := 426) (by decide +kernel))) rfl, x_gm (List.mem_append_right _ (List.mem_of_getElem? (i := 427) (by decide +kernel))) rfl, x_gm (List.mem_append_right _ (List.mem_of_getElem? (i := 428) (by decide +kernel))) rfl⟩
theorem lv_X11_157 : x_LV RX11 157 M_X1_isThere 0 := ⟨xn_X1_isThere, x_gm (List.mem_append_right _ (List.mem_of_getElem? (i := 430) (by decide +kernel))) rfl, x_gm (List.mem_append_right _ (List.mem_of_getElem? (i := 431) (by decide +kernel))) rfl, x_gm (List.mem_append_right _ (List.mem_of_getElem? (i := 432) (by decide +kernel))) rfl⟩
theorem lv_X11_161 : x_LV RX11 161 M_X11_isHour 1 := ⟨xn_X11_isHour, x_gm (List.mem_append_right _ (List.mem_of_getElem? (i := 434) (by decide +kernel))) rfl, x_gm (List.mem_append_right _ (List.mem_of_getElem? (i := 436) (by decide +kernel))) rfl, x_gm (List.mem_append_left _ (List.mem_of_getElem? (i := 9) (by decide +kernel))) rfl⟩
theorem lv_L_27 : x_LV RL 27 M_X11_isle 2 := ⟨xn_X11_isle, x_gm (List.mem_append_right _ (List.mem_of_getElem? (i := 438) (by decide +kernel))) rfl, x_gm (List.mem_append_right _ (List.mem_of_getElem? (i := 439) (by decide +kernel))) rfl, x_gm (List.mem_append_right _ (List.mem_of_getElem? (i := 440) (by decide +kernel))) rfl⟩
theorem lv_X11_170 : x_LV RX11 170 M_X1_hasIsle 1 := ⟨xn_X1_hasIsle, x_gm (List.mem_append_right _ (List.mem_of_getElem? (i := 442) (by decide +kernel))) rfl, x_gm (List.mem_append_right _ (List.mem_of_getElem? (i := 443) (by decide +kernel))) rfl, x_gm (List.mem_append_right _ (List.mem_of_getElem? (i := 444) (by decide +kernel))) rfl⟩
theorem lv_L_32 : x_LV RL 32 M_X11_plan 5 := ⟨xn_X11_plan, x_gm (List.mem_append_right _ (List.mem_of_getElem? (i := 446) (by decide +kernel))) rfl, x_gm (List.mem_append_right _ (List.mem_of_getElem? (i := 447) (by decide +kernel))) rfl, x_gm (List.mem_append_right _ (List.mem_of_getElem? (i := 448) (by decide +kernel))) rfl⟩
theorem lv_X11_176 : x_LV RX11 176 M_X11_refusalOfRow 3 := ⟨xn_X11_refusalOfRow, x_gm (List.mem_append_right _ (List.mem_of_getElem? (i := 450) (by decide +kernel))) rfl, x_gm (List.mem_append_right _ (List.mem_of_getElem? (i := 452) (by decide +kernel))) rfl, x_gm (List.mem_append_left _ (List.mem_of_getElem? (i := 10) (by decide +kernel))) rfl⟩
theorem ls_X11_180 : x_LS RX11 180 M_X11_isQuestion 1 := ⟨xn_X11_isQuestion, Or.inl (x_gm (List.mem_append_right _ (List.mem_of_getElem? (i := 454) (by decide +kernel))) rfl), x_gm (List.mem_append_right _ (List.mem_of_getElem? (i := 455) (by decide +kernel))) rfl⟩
theorem lv_X11_183 : x_LV RX11 183 M_X11_takeOrders 4 := ⟨xn_X11_takeOrders, x_gm (List.mem_append_right _ (List.mem_of_getElem? (i := 457) (by decide +kernel))) rfl, x_gm (List.mem_append_right _ (List.mem_of_getElem? (i := 459) (by decide +kernel))) rfl, x_gm (List.mem_append_left _ (List.mem_of_getElem? (i := 11) (by decide +kernel))) rfl⟩
theorem lv_X11_211 : x_LV RX11 211 M_X11_isSet 1 := ⟨xn_X11_isSet, x_gm (List.mem_append_right _ (List.mem_of_getElem? (i := 461) (by decide +kernel))) rfl, x_gm (List.mem_append_right _ (List.mem_of_getElem? (i := 463) (by decide +kernel))) rfl, x_gm (List.mem_append_left _ (List.mem_of_getElem? (i := 12) (by decide +kernel))) rfl⟩
theorem lv_X11_228 : x_LV RX11 228 M_X1_allBoats 0 := ⟨xn_X1_allBoats, x_gm (List.mem_append_right _ (List.mem_of_getElem? (i := 465) (by decide +kernel))) rfl, x_gm (List.mem_append_right _ (List.mem_of_getElem? (i := 466) (by decide +kernel))) rfl, x_gm (List.mem_append_right _ (List.mem_of_getElem? (i := 467) (by decide +kernel))) rfl⟩
theorem lv_X11_187 : x_LV RX11 187 M_X10_sailAll 3 := ⟨xn_X10_sailAll, x_gm (List.mem_append_right _ (List.mem_of_getElem? (i := 469) (by decide +kernel))) rfl, x_gm (List.mem_append_right _ (List.mem_of_getElem? (i := 470) (by decide +kernel))) rfl, x_gm (List.mem_append_right _ (List.mem_of_getElem? (i := 471) (by decide +kernel))) rfl⟩
theorem lv_X10_49 : x_LV RX10 49 M_X10_begin 1 := ⟨xn_X10_begin, x_gm (List.mem_append_right _ (List.mem_of_getElem? (i := 473) (by decide +kernel))) rfl, x_gm (List.mem_append_right _ (List.mem_of_getElem? (i := 474) (by decide +kernel))) rfl, x_gm (List.mem_append_right _ (List.mem_of_getElem? (i := 475) (by decide +kernel))) rfl⟩
theorem lv_X10_34 : x_LV RX10 34 M_X1_startOf 1 := ⟨xn_X1_startOf, x_gm (List.mem_append_right _ (List.mem_of_getElem? (i := 477) (by decide +kernel))) rfl, x_gm (List.mem_append_right _ (List.mem_of_getElem? (i := 478) (by decide +kernel))) rfl, x_gm (List.mem_append_right _ (List.mem_of_getElem? (i := 479) (by decide +kernel))) rfl⟩
theorem lv_X10_56 : x_LV RX10 56 M_X10_sail 3 := ⟨xn_X10_sail, x_gm (List.mem_append_right _ (List.mem_of_getElem? (i := 481) (by decide +kernel))) rfl, x_gm (List.mem_append_right _ (List.mem_of_getElem? (i := 482) (by decide +kernel))) rfl, x_gm (List.mem_append_right _ (List.mem_of_getElem? (i := 483) (by decide +kernel))) rfl⟩
theorem lv_X10_38 : x_LV RX10 38 M_X1_goalOf 1 := ⟨xn_X1_goalOf, x_gm (List.mem_append_right _ (List.mem_of_getElem? (i := 485) (by decide +kernel))) rfl, x_gm (List.mem_append_right _ (List.mem_of_getElem? (i := 486) (by decide +kernel))) rfl, x_gm (List.mem_append_right _ (List.mem_of_getElem? (i := 487) (by decide +kernel))) rfl⟩
theorem lv_X10_41 : x_LV RX10 41 M_X1_countsWith 2 := ⟨xn_X1_countsWith, x_gm (List.mem_append_right _ (List.mem_of_getElem? (i := 489) (by decide +kernel))) rfl, x_gm (List.mem_append_right _ (List.mem_of_getElem? (i := 490) (by decide +kernel))) rfl, x_gm (List.mem_append_right _ (List.mem_of_getElem? (i := 491) (by decide +kernel))) rfl⟩
theorem lv_X1_40 : x_LV RX1 40 M_X0_counts 0 := ⟨xn_X0_counts, x_gm (List.mem_append_right _ (List.mem_of_getElem? (i := 493) (by decide +kernel))) rfl, x_gm (List.mem_append_right _ (List.mem_of_getElem? (i := 494) (by decide +kernel))) rfl, x_gm (List.mem_append_right _ (List.mem_of_getElem? (i := 495) (by decide +kernel))) rfl⟩
theorem lu_X1_40_X2 : x_LU RX1 40 RX2 RX0 yX0_counts M_X0_counts 0 := ⟨xn_X0_counts, x_gm (List.mem_append_right _ (List.mem_of_getElem? (i := 493) (by decide +kernel))) rfl, x_gm (List.mem_append_right _ (List.mem_of_getElem? (i := 496) (by decide +kernel))) rfl, fun U hU _ => va_Decl.of (hU _ (x_gm (List.mem_append_right _ (List.mem_of_getElem? (i := 494) (by decide +kernel))) rfl)) (hU _ xn_X0_counts.1), x_gm (List.mem_append_right _ (List.mem_of_getElem? (i := 497) (by decide +kernel))) rfl, x_gm (List.mem_append_right _ (List.mem_of_getElem? (i := 494) (by decide +kernel))) rfl, ⟨by decide +kernel, by decide +kernel⟩, by decide +kernel⟩
theorem lu_X1_40_X8 : x_LU RX1 40 RX8 RX0 yX0_counts M_X8_counts 0 := ⟨xn_X8_counts, x_gm (List.mem_append_right _ (List.mem_of_getElem? (i := 493) (by decide +kernel))) rfl, x_gm (List.mem_append_right _ (List.mem_of_getElem? (i := 496) (by decide +kernel))) rfl, fun U hU _ => va_Decl.of (hU _ (x_gm (List.mem_append_right _ (List.mem_of_getElem? (i := 494) (by decide +kernel))) rfl)) (hU _ xn_X0_counts.1), x_gm (List.mem_append_right _ (List.mem_of_getElem? (i := 498) (by decide +kernel))) rfl, x_gm (List.mem_append_right _ (List.mem_of_getElem? (i := 499) (by decide +kernel))) rfl, ⟨by decide +kernel, by decide +kernel⟩, by decide +kernel⟩
theorem lv_X1_44 : x_LV RX1 44 M_X1_isWith 2 := ⟨xn_X1_isWith, x_gm (List.mem_append_right _ (List.mem_of_getElem? (i := 502) (by decide +kernel))) rfl, x_gm (List.mem_append_right _ (List.mem_of_getElem? (i := 503) (by decide +kernel))) rfl, x_gm (List.mem_append_right _ (List.mem_of_getElem? (i := 504) (by decide +kernel))) rfl⟩
theorem lv_X10_45 : x_LV RX10 45 M_X1_cellAfter 4 := ⟨xn_X1_cellAfter, x_gm (List.mem_append_right _ (List.mem_of_getElem? (i := 506) (by decide +kernel))) rfl, x_gm (List.mem_append_right _ (List.mem_of_getElem? (i := 507) (by decide +kernel))) rfl, x_gm (List.mem_append_right _ (List.mem_of_getElem? (i := 508) (by decide +kernel))) rfl⟩
theorem lv_X1_48 : x_LV RX1 48 M_X1_goalOf 1 := ⟨xn_X1_goalOf, x_gm (List.mem_append_right _ (List.mem_of_getElem? (i := 510) (by decide +kernel))) rfl, x_gm (List.mem_append_right _ (List.mem_of_getElem? (i := 486) (by decide +kernel))) rfl, x_gm (List.mem_append_right _ (List.mem_of_getElem? (i := 487) (by decide +kernel))) rfl⟩
theorem lv_X1_55 : x_LV RX1 55 M_X0_goesAgainst 0 := ⟨xn_X0_goesAgainst, x_gm (List.mem_append_right _ (List.mem_of_getElem? (i := 511) (by decide +kernel))) rfl, x_gm (List.mem_append_right _ (List.mem_of_getElem? (i := 416) (by decide +kernel))) rfl, x_gm (List.mem_append_right _ (List.mem_of_getElem? (i := 417) (by decide +kernel))) rfl⟩
theorem lu_X1_55_X2 : x_LU RX1 55 RX2 RX0 yX0_goesAgainst M_X2_goesAgainst 0 := ⟨xn_X2_goesAgainst, x_gm (List.mem_append_right _ (List.mem_of_getElem? (i := 511) (by decide +kernel))) rfl, x_gm (List.mem_append_right _ (List.mem_of_getElem? (i := 418) (by decide +kernel))) rfl, fun U hU _ => va_Decl.of (hU _ (x_gm (List.mem_append_right _ (List.mem_of_getElem? (i := 416) (by decide +kernel))) rfl)) (hU _ xn_X0_goesAgainst.1), x_gm (List.mem_append_right _ (List.mem_of_getElem? (i := 419) (by decide +kernel))) rfl, x_gm (List.mem_append_right _ (List.mem_of_getElem? (i := 420) (by decide +kernel))) rfl, ⟨by decide +kernel, by decide +kernel⟩, by decide +kernel⟩
theorem lu_X1_55_X8 : x_LU RX1 55 RX8 RX0 yX0_goesAgainst M_X8_goesAgainst 0 := ⟨xn_X8_goesAgainst, x_gm (List.mem_append_right _ (List.mem_of_getElem? (i := 511) (by decide +kernel))) rfl, x_gm (List.mem_append_right _ (List.mem_of_getElem? (i := 418) (by decide +kernel))) rfl, fun U hU _ => va_Decl.of (hU _ (x_gm (List.mem_append_right _ (List.mem_of_getElem? (i := 416) (by decide +kernel))) rfl)) (hU _ xn_X0_goesAgainst.1), x_gm (List.mem_append_right _ (List.mem_of_getElem? (i := 422) (by decide +kernel))) rfl, x_gm (List.mem_append_right _ (List.mem_of_getElem? (i := 423) (by decide +kernel))) rfl, ⟨by decide +kernel, by decide +kernel⟩, by decide +kernel⟩
theorem lv_X1_68 : x_LV RX1 68 M_X1_hasIsle 1 := ⟨xn_X1_hasIsle, x_gm (List.mem_append_right _ (List.mem_of_getElem? (i := 518) (by decide +kernel))) rfl, x_gm (List.mem_append_right _ (List.mem_of_getElem? (i := 443) (by decide +kernel))) rfl, x_gm (List.mem_append_right _ (List.mem_of_getElem? (i := 444) (by decide +kernel))) rfl⟩
theorem lv_X10_60 : x_LV RX10 60 M_X10_overSet 1 := ⟨xn_X10_overSet, x_gm (List.mem_append_right _ (List.mem_of_getElem? (i := 519) (by decide +kernel))) rfl, x_gm (List.mem_append_right _ (List.mem_of_getElem? (i := 520) (by decide +kernel))) rfl, x_gm (List.mem_append_right _ (List.mem_of_getElem? (i := 521) (by decide +kernel))) rfl⟩
theorem lv_X10_64 : x_LV RX10 64 M_X1_allBoats 0 := ⟨xn_X1_allBoats, x_gm (List.mem_append_right _ (List.mem_of_getElem? (i := 523) (by decide +kernel))) rfl, x_gm (List.mem_append_right _ (List.mem_of_getElem? (i := 466) (by decide +kernel))) rfl, x_gm (List.mem_append_right _ (List.mem_of_getElem? (i := 467) (by decide +kernel))) rfl⟩
theorem lv_X11_191 : x_LV RX11 191 M_X11_answerOfVoyage 1 := ⟨xn_X11_answerOfVoyage, x_gm (List.mem_append_right _ (List.mem_of_getElem? (i := 524) (by decide +kernel))) rfl, x_gm (List.mem_append_right _ (List.mem_of_getElem? (i := 526) (by decide +kernel))) rfl, x_gm (List.mem_append_left _ (List.mem_of_getElem? (i := 13) (by decide +kernel))) rfl⟩
theorem lv_X11_194 : x_LV RX11 194 M_X10_overSet 1 := ⟨xn_X10_overSet, x_gm (List.mem_append_right _ (List.mem_of_getElem? (i := 528) (by decide +kernel))) rfl, x_gm (List.mem_append_right _ (List.mem_of_getElem? (i := 520) (by decide +kernel))) rfl, x_gm (List.mem_append_right _ (List.mem_of_getElem? (i := 521) (by decide +kernel))) rfl⟩
theorem lv_L_37 : x_LV RL 37 M_X11_soonest 1 := ⟨xn_X11_soonest, x_gm (List.mem_append_right _ (List.mem_of_getElem? (i := 529) (by decide +kernel))) rfl, x_gm (List.mem_append_right _ (List.mem_of_getElem? (i := 530) (by decide +kernel))) rfl, x_gm (List.mem_append_right _ (List.mem_of_getElem? (i := 531) (by decide +kernel))) rfl⟩
theorem lv_X11_214 : x_LV RX11 214 M_X4_fewestHours 2 := ⟨xn_X4_fewestHours, x_gm (List.mem_append_right _ (List.mem_of_getElem? (i := 533) (by decide +kernel))) rfl, x_gm (List.mem_append_right _ (List.mem_of_getElem? (i := 534) (by decide +kernel))) rfl, x_gm (List.mem_append_right _ (List.mem_of_getElem? (i := 535) (by decide +kernel))) rfl⟩
theorem lv_X4_63 : x_LV RX4 63 M_X4_prepare 1 := ⟨xn_X4_prepare, x_gm (List.mem_append_right _ (List.mem_of_getElem? (i := 537) (by decide +kernel))) rfl, x_gm (List.mem_append_right _ (List.mem_of_getElem? (i := 539) (by decide +kernel))) rfl, x_gm (List.mem_append_left _ (List.mem_of_getElem? (i := 14) (by decide +kernel))) rfl⟩
theorem lv_X4_141 : x_LV RX4 141 M_X1_states 0 := ⟨xn_X1_states, x_gm (List.mem_append_right _ (List.mem_of_getElem? (i := 541) (by decide +kernel))) rfl, x_gm (List.mem_append_right _ (List.mem_of_getElem? (i := 542) (by decide +kernel))) rfl, x_gm (List.mem_append_right _ (List.mem_of_getElem? (i := 543) (by decide +kernel))) rfl⟩
theorem lv_X4_144 : x_LV RX4 144 M_X10_begin 1 := ⟨xn_X10_begin, x_gm (List.mem_append_right _ (List.mem_of_getElem? (i := 545) (by decide +kernel))) rfl, x_gm (List.mem_append_right _ (List.mem_of_getElem? (i := 474) (by decide +kernel))) rfl, x_gm (List.mem_append_right _ (List.mem_of_getElem? (i := 475) (by decide +kernel))) rfl⟩
theorem lv_X4_147 : x_LV RX4 147 M_X10_stateNumber 1 := ⟨xn_X10_stateNumber, x_gm (List.mem_append_right _ (List.mem_of_getElem? (i := 546) (by decide +kernel))) rfl, x_gm (List.mem_append_right _ (List.mem_of_getElem? (i := 547) (by decide +kernel))) rfl, x_gm (List.mem_append_right _ (List.mem_of_getElem? (i := 548) (by decide +kernel))) rfl⟩
theorem lv_X4_151 : x_LV RX4 151 M_X10_place 2 := ⟨xn_X10_place, x_gm (List.mem_append_right _ (List.mem_of_getElem? (i := 550) (by decide +kernel))) rfl, x_gm (List.mem_append_right _ (List.mem_of_getElem? (i := 551) (by decide +kernel))) rfl, x_gm (List.mem_append_right _ (List.mem_of_getElem? (i := 552) (by decide +kernel))) rfl⟩
theorem lv_X4_155 : x_LV RX4 155 M_X10_overSet 1 := ⟨xn_X10_overSet, x_gm (List.mem_append_right _ (List.mem_of_getElem? (i := 554) (by decide +kernel))) rfl, x_gm (List.mem_append_right _ (List.mem_of_getElem? (i := 520) (by decide +kernel))) rfl, x_gm (List.mem_append_right _ (List.mem_of_getElem? (i := 521) (by decide +kernel))) rfl⟩
theorem lv_X4_158 : x_LV RX4 158 M_X4_fillAfter 3 := ⟨xn_X4_fillAfter, x_gm (List.mem_append_right _ (List.mem_of_getElem? (i := 555) (by decide +kernel))) rfl, x_gm (List.mem_append_right _ (List.mem_of_getElem? (i := 557) (by decide +kernel))) rfl, x_gm (List.mem_append_left _ (List.mem_of_getElem? (i := 15) (by decide +kernel))) rfl⟩
theorem lv_X4_161 : x_LV RX4 161 M_X4_findEnds 2 := ⟨xn_X4_findEnds, x_gm (List.mem_append_right _ (List.mem_of_getElem? (i := 559) (by decide +kernel))) rfl, x_gm (List.mem_append_right _ (List.mem_of_getElem? (i := 561) (by decide +kernel))) rfl, x_gm (List.mem_append_left _ (List.mem_of_getElem? (i := 16) (by decide +kernel))) rfl⟩
theorem lv_X4_174 : x_LV RX4 174 M_X1_goalOf 1 := ⟨xn_X1_goalOf, x_gm (List.mem_append_right _ (List.mem_of_getElem? (i := 563) (by decide +kernel))) rfl, x_gm (List.mem_append_right _ (List.mem_of_getElem? (i := 486) (by decide +kernel))) rfl, x_gm (List.mem_append_right _ (List.mem_of_getElem? (i := 487) (by decide +kernel))) rfl⟩
theorem lv_X4_178 : x_LV RX4 178 M_X1_countsWith 2 := ⟨xn_X1_countsWith, x_gm (List.mem_append_right _ (List.mem_of_getElem? (i := 564) (by decide +kernel))) rfl, x_gm (List.mem_append_right _ (List.mem_of_getElem? (i := 490) (by decide +kernel))) rfl, x_gm (List.mem_append_right _ (List.mem_of_getElem? (i := 491) (by decide +kernel))) rfl⟩
theorem lv_X4_182 : x_LV RX4 182 M_X1_cellAfter 4 := ⟨xn_X1_cellAfter, x_gm (List.mem_append_right _ (List.mem_of_getElem? (i := 565) (by decide +kernel))) rfl, x_gm (List.mem_append_right _ (List.mem_of_getElem? (i := 507) (by decide +kernel))) rfl, x_gm (List.mem_append_right _ (List.mem_of_getElem? (i := 508) (by decide +kernel))) rfl⟩
theorem lv_X4_116 : x_LV RX4 116 M_X6_clear 0 := ⟨xn_X6_clear, x_gm (List.mem_append_right _ (List.mem_of_getElem? (i := 566) (by decide +kernel))) rfl, x_gm (List.mem_append_right _ (List.mem_of_getElem? (i := 567) (by decide +kernel))) rfl, x_gm (List.mem_append_right _ (List.mem_of_getElem? (i := 568) (by decide +kernel))) rfl⟩
theorem lv_X4_119 : x_LV RX4 119 M_X6_add 1 := ⟨xn_X6_add, x_gm (List.mem_append_right _ (List.mem_of_getElem? (i := 570) (by decide +kernel))) rfl, x_gm (List.mem_append_right _ (List.mem_of_getElem? (i := 571) (by decide +kernel))) rfl, x_gm (List.mem_append_right _ (List.mem_of_getElem? (i := 572) (by decide +kernel))) rfl⟩
theorem ls_X4_130 : x_LS RX4 130 M_X4_rowOf 1 := ⟨xn_X4_rowOf, Or.inl (x_gm (List.mem_append_right _ (List.mem_of_getElem? (i := 574) (by decide +kernel))) rfl), x_gm (List.mem_append_right _ (List.mem_of_getElem? (i := 575) (by decide +kernel))) rfl⟩
theorem lv_X4_67 : x_LV RX4 67 M_X4_startNow 0 := ⟨xn_X4_startNow, x_gm (List.mem_append_right _ (List.mem_of_getElem? (i := 577) (by decide +kernel))) rfl, x_gm (List.mem_append_right _ (List.mem_of_getElem? (i := 579) (by decide +kernel))) rfl, x_gm (List.mem_append_left _ (List.mem_of_getElem? (i := 17) (by decide +kernel))) rfl⟩
theorem lv_X4_75 : x_LV RX4 75 M_X4_isOverInSome 2 := ⟨xn_X4_isOverInSome, x_gm (List.mem_append_right _ (List.mem_of_getElem? (i := 581) (by decide +kernel))) rfl, x_gm (List.mem_append_right _ (List.mem_of_getElem? (i := 583) (by decide +kernel))) rfl, x_gm (List.mem_append_left _ (List.mem_of_getElem? (i := 18) (by decide +kernel))) rfl⟩
theorem lv_X4_90 : x_LV RX4 90 M_X6_has 1 := ⟨xn_X6_has, x_gm (List.mem_append_right _ (List.mem_of_getElem? (i := 585) (by decide +kernel))) rfl, x_gm (List.mem_append_right _ (List.mem_of_getElem? (i := 586) (by decide +kernel))) rfl, x_gm (List.mem_append_right _ (List.mem_of_getElem? (i := 587) (by decide +kernel))) rfl⟩
theorem lv_X4_82 : x_LV RX4 82 M_X4_advance 2 := ⟨xn_X4_advance, x_gm (List.mem_append_right _ (List.mem_of_getElem? (i := 589) (by decide +kernel))) rfl, x_gm (List.mem_append_right _ (List.mem_of_getElem? (i := 591) (by decide +kernel))) rfl, x_gm (List.mem_append_left _ (List.mem_of_getElem? (i := 19) (by decide +kernel))) rfl⟩
theorem lv_X4_134 : x_LV RX4 134 M_X4_addAfter 3 := ⟨xn_X4_addAfter, x_gm (List.mem_append_right _ (List.mem_of_getElem? (i := 593) (by decide +kernel))) rfl, x_gm (List.mem_append_right _ (List.mem_of_getElem? (i := 595) (by decide +kernel))) rfl, x_gm (List.mem_append_left _ (List.mem_of_getElem? (i := 20) (by decide +kernel))) rfl⟩
theorem lv_X4_137 : x_LV RX4 137 M_X6_addAll 2 := ⟨xn_X6_addAll, x_gm (List.mem_append_right _ (List.mem_of_getElem? (i := 597) (by decide +kernel))) rfl, x_gm (List.mem_append_right _ (List.mem_of_getElem? (i := 598) (by decide +kernel))) rfl, x_gm (List.mem_append_right _ (List.mem_of_getElem? (i := 599) (by decide +kernel))) rfl⟩
theorem lv_X4_126 : x_LV RX4 126 M_X6_become 1 := ⟨xn_X6_become, x_gm (List.mem_append_right _ (List.mem_of_getElem? (i := 601) (by decide +kernel))) rfl, x_gm (List.mem_append_right _ (List.mem_of_getElem? (i := 602) (by decide +kernel))) rfl, x_gm (List.mem_append_right _ (List.mem_of_getElem? (i := 603) (by decide +kernel))) rfl⟩
theorem lv_L_42 : x_LV RL 42 M_X11_hats 2 := ⟨xn_X11_hats, x_gm (List.mem_append_right _ (List.mem_of_getElem? (i := 605) (by decide +kernel))) rfl, x_gm (List.mem_append_right _ (List.mem_of_getElem? (i := 606) (by decide +kernel))) rfl, x_gm (List.mem_append_right _ (List.mem_of_getElem? (i := 607) (by decide +kernel))) rfl⟩
theorem lv_X11_224 : x_LV RX11 224 M_X4_fewestHats 3 := ⟨xn_X4_fewestHats, x_gm (List.mem_append_right _ (List.mem_of_getElem? (i := 610) (by decide +kernel))) rfl, x_gm (List.mem_append_right _ (List.mem_of_getElem? (i := 611) (by decide +kernel))) rfl, x_gm (List.mem_append_right _ (List.mem_of_getElem? (i := 612) (by decide +kernel))) rfl⟩
theorem lv_X4_86 : x_LV RX4 86 M_X4_fillGood 3 := ⟨xn_X4_fillGood, x_gm (List.mem_append_right _ (List.mem_of_getElem? (i := 614) (by decide +kernel))) rfl, x_gm (List.mem_append_right _ (List.mem_of_getElem? (i := 616) (by decide +kernel))) rfl, x_gm (List.mem_append_left _ (List.mem_of_getElem? (i := 21) (by decide +kernel))) rfl⟩
theorem lv_X4_123 : x_LV RX4 123 M_X4_fillGoodAhead 3 := ⟨xn_X4_fillGoodAhead, x_gm (List.mem_append_right _ (List.mem_of_getElem? (i := 618) (by decide +kernel))) rfl, x_gm (List.mem_append_right _ (List.mem_of_getElem? (i := 620) (by decide +kernel))) rfl, x_gm (List.mem_append_left _ (List.mem_of_getElem? (i := 22) (by decide +kernel))) rfl⟩
theorem lv_X4_112 : x_LV RX4 112 M_X6_meets 2 := ⟨xn_X6_meets, x_gm (List.mem_append_right _ (List.mem_of_getElem? (i := 622) (by decide +kernel))) rfl, x_gm (List.mem_append_right _ (List.mem_of_getElem? (i := 623) (by decide +kernel))) rfl, x_gm (List.mem_append_right _ (List.mem_of_getElem? (i := 624) (by decide +kernel))) rfl⟩
theorem lv_X4_94 : x_LV RX4 94 M_X4_leastHat 2 := ⟨xn_X4_leastHat, x_gm (List.mem_append_right _ (List.mem_of_getElem? (i := 626) (by decide +kernel))) rfl, x_gm (List.mem_append_right _ (List.mem_of_getElem? (i := 628) (by decide +kernel))) rfl, x_gm (List.mem_append_left _ (List.mem_of_getElem? (i := 23) (by decide +kernel))) rfl⟩
theorem lv_X4_101 : x_LV RX4 101 M_X4_throwHat 3 := ⟨xn_X4_throwHat, x_gm (List.mem_append_right _ (List.mem_of_getElem? (i := 630) (by decide +kernel))) rfl, x_gm (List.mem_append_right _ (List.mem_of_getElem? (i := 632) (by decide +kernel))) rfl, x_gm (List.mem_append_left _ (List.mem_of_getElem? (i := 24) (by decide +kernel))) rfl⟩
theorem lv_X4_98 : x_LV RX4 98 M_X4_leastTwoHats 2 := ⟨xn_X4_leastTwoHats, x_gm (List.mem_append_right _ (List.mem_of_getElem? (i := 634) (by decide +kernel))) rfl, x_gm (List.mem_append_right _ (List.mem_of_getElem? (i := 636) (by decide +kernel))) rfl, x_gm (List.mem_append_left _ (List.mem_of_getElem? (i := 25) (by decide +kernel))) rfl⟩
theorem lv_L_46 : x_LV RL 46 M_X11_rid 1 := ⟨xn_X11_rid, x_gm (List.mem_append_right _ (List.mem_of_getElem? (i := 638) (by decide +kernel))) rfl, x_gm (List.mem_append_right _ (List.mem_of_getElem? (i := 639) (by decide +kernel))) rfl, x_gm (List.mem_append_right _ (List.mem_of_getElem? (i := 640) (by decide +kernel))) rfl⟩
theorem lv_L_50 : x_LV RL 50 M_X11_reading 3 := ⟨xn_X11_reading, x_gm (List.mem_append_right _ (List.mem_of_getElem? (i := 642) (by decide +kernel))) rfl, x_gm (List.mem_append_right _ (List.mem_of_getElem? (i := 643) (by decide +kernel))) rfl, x_gm (List.mem_append_right _ (List.mem_of_getElem? (i := 644) (by decide +kernel))) rfl⟩
theorem lv_X11_231 : x_LV RX11 231 M_X3_add 3 := ⟨xn_X3_add, x_gm (List.mem_append_right _ (List.mem_of_getElem? (i := 646) (by decide +kernel))) rfl, x_gm (List.mem_append_right _ (List.mem_of_getElem? (i := 647) (by decide +kernel))) rfl, x_gm (List.mem_append_right _ (List.mem_of_getElem? (i := 648) (by decide +kernel))) rfl⟩
theorem lv_L_55 : x_LV RL 55 M_X11_back 1 := ⟨xn_X11_back, x_gm (List.mem_append_right _ (List.mem_of_getElem? (i := 650) (by decide +kernel))) rfl, x_gm (List.mem_append_right _ (List.mem_of_getElem? (i := 651) (by decide +kernel))) rfl, x_gm (List.mem_append_right _ (List.mem_of_getElem? (i := 652) (by decide +kernel))) rfl⟩
theorem lv_L_59 : x_LV RL 59 M_X11_winds 5 := ⟨xn_X11_winds, x_gm (List.mem_append_right _ (List.mem_of_getElem? (i := 654) (by decide +kernel))) rfl, x_gm (List.mem_append_right _ (List.mem_of_getElem? (i := 655) (by decide +kernel))) rfl, x_gm (List.mem_append_right _ (List.mem_of_getElem? (i := 656) (by decide +kernel))) rfl⟩
theorem lv_X11_234 : x_LV RX11 234 M_X11_bitIfAsRead 2 := ⟨xn_X11_bitIfAsRead, x_gm (List.mem_append_right _ (List.mem_of_getElem? (i := 658) (by decide +kernel))) rfl, x_gm (List.mem_append_right _ (List.mem_of_getElem? (i := 660) (by decide +kernel))) rfl, x_gm (List.mem_append_left _ (List.mem_of_getElem? (i := 26) (by decide +kernel))) rfl⟩
theorem lv_X11_245 : x_LV RX11 245 M_X3_areWithin 1 := ⟨xn_X3_areWithin, x_gm (List.mem_append_right _ (List.mem_of_getElem? (i := 662) (by decide +kernel))) rfl, x_gm (List.mem_append_right _ (List.mem_of_getElem? (i := 663) (by decide +kernel))) rfl, x_gm (List.mem_append_right _ (List.mem_of_getElem? (i := 664) (by decide +kernel))) rfl⟩
theorem lv_X11_248 : x_LV RX11 248 M_X10_begin 1 := ⟨xn_X10_begin, x_gm (List.mem_append_right _ (List.mem_of_getElem? (i := 666) (by decide +kernel))) rfl, x_gm (List.mem_append_right _ (List.mem_of_getElem? (i := 474) (by decide +kernel))) rfl, x_gm (List.mem_append_right _ (List.mem_of_getElem? (i := 475) (by decide +kernel))) rfl⟩
theorem lv_X11_251 : x_LV RX11 251 M_X10_sail 3 := ⟨xn_X10_sail, x_gm (List.mem_append_right _ (List.mem_of_getElem? (i := 667) (by decide +kernel))) rfl, x_gm (List.mem_append_right _ (List.mem_of_getElem? (i := 482) (by decide +kernel))) rfl, x_gm (List.mem_append_right _ (List.mem_of_getElem? (i := 483) (by decide +kernel))) rfl⟩
theorem lv_X11_254 : x_LV RX11 254 M_X3_areSo 2 := ⟨xn_X3_areSo, x_gm (List.mem_append_right _ (List.mem_of_getElem? (i := 668) (by decide +kernel))) rfl, x_gm (List.mem_append_right _ (List.mem_of_getElem? (i := 669) (by decide +kernel))) rfl, x_gm (List.mem_append_right _ (List.mem_of_getElem? (i := 670) (by decide +kernel))) rfl⟩
theorem lv_L_63 : x_LV RL 63 M_X11_kinds 5 := ⟨xn_X11_kinds, x_gm (List.mem_append_right _ (List.mem_of_getElem? (i := 672) (by decide +kernel))) rfl, x_gm (List.mem_append_right _ (List.mem_of_getElem? (i := 673) (by decide +kernel))) rfl, x_gm (List.mem_append_right _ (List.mem_of_getElem? (i := 674) (by decide +kernel))) rfl⟩
theorem lv_X11_237 : x_LV RX11 237 M_X11_refusalOfBoatPlan 5 := ⟨xn_X11_refusalOfBoatPlan, x_gm (List.mem_append_right _ (List.mem_of_getElem? (i := 676) (by decide +kernel))) rfl, x_gm (List.mem_append_right _ (List.mem_of_getElem? (i := 678) (by decide +kernel))) rfl, x_gm (List.mem_append_left _ (List.mem_of_getElem? (i := 27) (by decide +kernel))) rfl⟩
theorem ls_X11_241 : x_LS RX11 241 M_X11_newBoat 4 := ⟨xn_X11_newBoat, Or.inl (x_gm (List.mem_append_right _ (List.mem_of_getElem? (i := 680) (by decide +kernel))) rfl), x_gm (List.mem_append_right _ (List.mem_of_getElem? (i := 368) (by decide +kernel))) rfl⟩
theorem lv_L_67 : x_LV RL 67 M_X11_speeds 5 := ⟨xn_X11_speeds, x_gm (List.mem_append_right _ (List.mem_of_getElem? (i := 681) (by decide +kernel))) rfl, x_gm (List.mem_append_right _ (List.mem_of_getElem? (i := 682) (by decide +kernel))) rfl, x_gm (List.mem_append_right _ (List.mem_of_getElem? (i := 683) (by decide +kernel))) rfl⟩
theorem lv_L_71 : x_LV RL 71 M_X11_odds 5 := ⟨xn_X11_odds, x_gm (List.mem_append_right _ (List.mem_of_getElem? (i := 685) (by decide +kernel))) rfl, x_gm (List.mem_append_right _ (List.mem_of_getElem? (i := 686) (by decide +kernel))) rfl, x_gm (List.mem_append_right _ (List.mem_of_getElem? (i := 687) (by decide +kernel))) rfl⟩
theorem lv_X11_260 : x_LV RX11 260 M_X11_waysWithoutFine 1 := ⟨xn_X11_waysWithoutFine, x_gm (List.mem_append_right _ (List.mem_of_getElem? (i := 690) (by decide +kernel))) rfl, x_gm (List.mem_append_right _ (List.mem_of_getElem? (i := 692) (by decide +kernel))) rfl, x_gm (List.mem_append_left _ (List.mem_of_getElem? (i := 28) (by decide +kernel))) rfl⟩
theorem lv_X11_263 : x_LV RX11 263 M_X1_states 0 := ⟨xn_X1_states, x_gm (List.mem_append_right _ (List.mem_of_getElem? (i := 694) (by decide +kernel))) rfl, x_gm (List.mem_append_right _ (List.mem_of_getElem? (i := 542) (by decide +kernel))) rfl, x_gm (List.mem_append_right _ (List.mem_of_getElem? (i := 543) (by decide +kernel))) rfl⟩
theorem ls_X11_266 : x_LS RX11 266 M_A_fill 2 := ⟨xn_A_fill, Or.inl (x_gm (List.mem_append_right _ (List.mem_of_getElem? (i := 695) (by decide +kernel))) rfl), x_gm (List.mem_append_right _ (List.mem_of_getElem? (i := 696) (by decide +kernel))) rfl⟩
theorem lv_X11_272 : x_LV RX11 272 M_X10_stateNumber 1 := ⟨xn_X10_stateNumber, x_gm (List.mem_append_right _ (List.mem_of_getElem? (i := 698) (by decide +kernel))) rfl, x_gm (List.mem_append_right _ (List.mem_of_getElem? (i := 547) (by decide +kernel))) rfl, x_gm (List.mem_append_right _ (List.mem_of_getElem? (i := 548) (by decide +kernel))) rfl⟩
theorem lv_X11_275 : x_LV RX11 275 M_X11_sailByChance 2 := ⟨xn_X11_sailByChance, x_gm (List.mem_append_right _ (List.mem_of_getElem? (i := 699) (by decide +kernel))) rfl, x_gm (List.mem_append_right _ (List.mem_of_getElem? (i := 701) (by decide +kernel))) rfl, x_gm (List.mem_append_left _ (List.mem_of_getElem? (i := 29) (by decide +kernel))) rfl⟩
theorem lv_X11_279 : x_LV RX11 279 M_X10_place 2 := ⟨xn_X10_place, x_gm (List.mem_append_right _ (List.mem_of_getElem? (i := 703) (by decide +kernel))) rfl, x_gm (List.mem_append_right _ (List.mem_of_getElem? (i := 551) (by decide +kernel))) rfl, x_gm (List.mem_append_right _ (List.mem_of_getElem? (i := 552) (by decide +kernel))) rfl⟩
theorem lv_L_76 : x_LV RL 76 M_X11_sheet 3 := ⟨xn_X11_sheet, x_gm (List.mem_append_right _ (List.mem_of_getElem? (i := 704) (by decide +kernel))) rfl, x_gm (List.mem_append_right _ (List.mem_of_getElem? (i := 705) (by decide +kernel))) rfl, x_gm (List.mem_append_right _ (List.mem_of_getElem? (i := 706) (by decide +kernel))) rfl⟩
theorem lv_X11_283 : x_LV RX11 283 M_X5_renew 2 := ⟨xn_X5_renew, x_gm (List.mem_append_right _ (List.mem_of_getElem? (i := 708) (by decide +kernel))) rfl, x_gm (List.mem_append_right _ (List.mem_of_getElem? (i := 709) (by decide +kernel))) rfl, x_gm (List.mem_append_right _ (List.mem_of_getElem? (i := 710) (by decide +kernel))) rfl⟩
theorem ls_X5_22 : x_LS RX5 22 M_A_fill 2 := ⟨xn_A_fill, Or.inl (x_gm (List.mem_append_right _ (List.mem_of_getElem? (i := 712) (by decide +kernel))) rfl), x_gm (List.mem_append_right _ (List.mem_of_getElem? (i := 696) (by decide +kernel))) rfl⟩
theorem lv_L_80 : x_LV RL 80 M_X11_lose 1 := ⟨xn_X11_lose, x_gm (List.mem_append_right _ (List.mem_of_getElem? (i := 713) (by decide +kernel))) rfl, x_gm (List.mem_append_right _ (List.mem_of_getElem? (i := 714) (by decide +kernel))) rfl, x_gm (List.mem_append_right _ (List.mem_of_getElem? (i := 715) (by decide +kernel))) rfl⟩
theorem lv_X11_286 : x_LV RX11 286 M_X5_hasRow 0 := ⟨xn_X5_hasRow, x_gm (List.mem_append_right _ (List.mem_of_getElem? (i := 717) (by decide +kernel))) rfl, x_gm (List.mem_append_right _ (List.mem_of_getElem? (i := 312) (by decide +kernel))) rfl, x_gm (List.mem_append_right _ (List.mem_of_getElem? (i := 313) (by decide +kernel))) rfl⟩
theorem lv_L_84 : x_LV RL 84 M_X11_put 3 := ⟨xn_X11_put, x_gm (List.mem_append_right _ (List.mem_of_getElem? (i := 718) (by decide +kernel))) rfl, x_gm (List.mem_append_right _ (List.mem_of_getElem? (i := 719) (by decide +kernel))) rfl, x_gm (List.mem_append_right _ (List.mem_of_getElem? (i := 720) (by decide +kernel))) rfl⟩
theorem lv_X11_292 : x_LV RX11 292 M_X5_cut 1 := ⟨xn_X5_cut, x_gm (List.mem_append_right _ (List.mem_of_getElem? (i := 722) (by decide +kernel))) rfl, x_gm (List.mem_append_right _ (List.mem_of_getElem? (i := 723) (by decide +kernel))) rfl, x_gm (List.mem_append_right _ (List.mem_of_getElem? (i := 724) (by decide +kernel))) rfl⟩
theorem lv_L_88 : x_LV RL 88 M_X11_cell 3 := ⟨xn_X11_cell, x_gm (List.mem_append_right _ (List.mem_of_getElem? (i := 726) (by decide +kernel))) rfl, x_gm (List.mem_append_right _ (List.mem_of_getElem? (i := 727) (by decide +kernel))) rfl, x_gm (List.mem_append_right _ (List.mem_of_getElem? (i := 728) (by decide +kernel))) rfl⟩
theorem lv_L_93 : x_LV RL 93 M_X11_copy 5 := ⟨xn_X11_copy, x_gm (List.mem_append_right _ (List.mem_of_getElem? (i := 730) (by decide +kernel))) rfl, x_gm (List.mem_append_right _ (List.mem_of_getElem? (i := 731) (by decide +kernel))) rfl, x_gm (List.mem_append_right _ (List.mem_of_getElem? (i := 732) (by decide +kernel))) rfl⟩
theorem lv_L_97 : x_LV RL 97 M_X11_tell 1 := ⟨xn_X11_tell, x_gm (List.mem_append_right _ (List.mem_of_getElem? (i := 737) (by decide +kernel))) rfl, x_gm (List.mem_append_right _ (List.mem_of_getElem? (i := 738) (by decide +kernel))) rfl, x_gm (List.mem_append_right _ (List.mem_of_getElem? (i := 739) (by decide +kernel))) rfl⟩
theorem lv_X11_301 : x_LV RX11 301 M_X0_telling 1 := ⟨xn_X0_telling, x_gm (List.mem_append_right _ (List.mem_of_getElem? (i := 741) (by decide +kernel))) rfl, x_gm (List.mem_append_right _ (List.mem_of_getElem? (i := 742) (by decide +kernel))) rfl, x_gm (List.mem_append_right _ (List.mem_of_getElem? (i := 743) (by decide +kernel))) rfl⟩
theorem lu_X11_301_X2 : x_LU RX11 301 RX2 RX0 yX0_telling M_X2_telling 1 := ⟨xn_X2_telling, x_gm (List.mem_append_right _ (List.mem_of_getElem? (i := 741) (by decide +kernel))) rfl, x_gm (List.mem_append_right _ (List.mem_of_getElem? (i := 744) (by decide +kernel))) rfl, fun U hU _ => va_Decl.of (hU _ (x_gm (List.mem_append_right _ (List.mem_of_getElem? (i := 742) (by decide +kernel))) rfl)) (hU _ xn_X0_telling.1), x_gm (List.mem_append_right _ (List.mem_of_getElem? (i := 745) (by decide +kernel))) rfl, x_gm (List.mem_append_right _ (List.mem_of_getElem? (i := 746) (by decide +kernel))) rfl, ⟨by decide +kernel, by decide +kernel⟩, by decide +kernel⟩
theorem lu_X11_301_X8 : x_LU RX11 301 RX8 RX0 yX0_telling M_X8_telling 1 := ⟨xn_X8_telling, x_gm (List.mem_append_right _ (List.mem_of_getElem? (i := 741) (by decide +kernel))) rfl, x_gm (List.mem_append_right _ (List.mem_of_getElem? (i := 744) (by decide +kernel))) rfl, fun U hU _ => va_Decl.of (hU _ (x_gm (List.mem_append_right _ (List.mem_of_getElem? (i := 742) (by decide +kernel))) rfl)) (hU _ xn_X0_telling.1), x_gm (List.mem_append_right _ (List.mem_of_getElem? (i := 753) (by decide +kernel))) rfl, x_gm (List.mem_append_right _ (List.mem_of_getElem? (i := 754) (by decide +kernel))) rfl, ⟨by decide +kernel, by decide +kernel⟩, by decide +kernel⟩
theorem lv_X2_13 : x_LV RX2 13 M_X9_leave 1 := ⟨xn_X9_leave, x_gm (List.mem_append_right _ (List.mem_of_getElem? (i := 748) (by decide +kernel))) rfl, x_gm (List.mem_append_right _ (List.mem_of_getElem? (i := 749) (by decide +kernel))) rfl, x_gm (List.mem_append_right _ (List.mem_of_getElem? (i := 750) (by decide +kernel))) rfl⟩
theorem lv_X2_19 : x_LV RX2 19 M_X0_telling 1 := ⟨xn_X0_telling, x_gm (List.mem_append_right _ (List.mem_of_getElem? (i := 752) (by decide +kernel))) rfl, x_gm (List.mem_append_right _ (List.mem_of_getElem? (i := 742) (by decide +kernel))) rfl, x_gm (List.mem_append_right _ (List.mem_of_getElem? (i := 743) (by decide +kernel))) rfl⟩
theorem lu_X2_19_X2 : x_LU RX2 19 RX2 RX0 yX0_telling M_X2_telling 1 := ⟨xn_X2_telling, x_gm (List.mem_append_right _ (List.mem_of_getElem? (i := 752) (by decide +kernel))) rfl, x_gm (List.mem_append_right _ (List.mem_of_getElem? (i := 744) (by decide +kernel))) rfl, fun U hU _ => va_Decl.of (hU _ (x_gm (List.mem_append_right _ (List.mem_of_getElem? (i := 742) (by decide +kernel))) rfl)) (hU _ xn_X0_telling.1), x_gm (List.mem_append_right _ (List.mem_of_getElem? (i := 745) (by decide +kernel))) rfl, x_gm (List.mem_append_right _ (List.mem_of_getElem? (i := 746) (by decide +kernel))) rfl, ⟨by decide +kernel, by decide +kernel⟩, by decide +kernel⟩
theorem lu_X2_19_X8 : x_LU RX2 19 RX8 RX0 yX0_telling M_X8_telling 1 := ⟨xn_X8_telling, x_gm (List.mem_append_right _ (List.mem_of_getElem? (i := 752) (by decide +kernel))) rfl, x_gm (List.mem_append_right _ (List.mem_of_getElem? (i := 744) (by decide +kernel))) rfl, fun U hU _ => va_Decl.of (hU _ (x_gm (List.mem_append_right _ (List.mem_of_getElem? (i := 742) (by decide +kernel))) rfl)) (hU _ xn_X0_telling.1), x_gm (List.mem_append_right _ (List.mem_of_getElem? (i := 753) (by decide +kernel))) rfl, x_gm (List.mem_append_right _ (List.mem_of_getElem? (i := 754) (by decide +kernel))) rfl, ⟨by decide +kernel, by decide +kernel⟩, by decide +kernel⟩
theorem lw_X2_19 : x_LW RX2 19 M_X0_telling 1 := ⟨xn_X0_telling, x_gm (List.mem_append_right _ (List.mem_of_getElem? (i := 752) (by decide +kernel))) rfl, x_gm (List.mem_append_right _ (List.mem_of_getElem? (i := 744) (by decide +kernel))) rfl, x_gm (List.mem_append_right _ (List.mem_of_getElem? (i := 379) (by decide +kernel))) rfl, x_gm (List.mem_append_right _ (List.mem_of_getElem? (i := 742) (by decide +kernel))) rfl, by decide +kernel⟩
theorem lv_X8_13 : x_LV RX8 13 M_X9_leave 1 := ⟨xn_X9_leave, x_gm (List.mem_append_right _ (List.mem_of_getElem? (i := 756) (by decide +kernel))) rfl, x_gm (List.mem_append_right _ (List.mem_of_getElem? (i := 749) (by decide +kernel))) rfl, x_gm (List.mem_append_right _ (List.mem_of_getElem? (i := 750) (by decide +kernel))) rfl⟩
theorem lw_X8_19 : x_LW RX8 19 M_X2_telling 1 := ⟨xn_X2_telling, x_gm (List.mem_append_right _ (List.mem_of_getElem? (i := 757) (by decide +kernel))) rfl, x_gm (List.mem_append_right _ (List.mem_of_getElem? (i := 1150) (by decide +kernel))) rfl, x_gm (List.mem_append_right _ (List.mem_of_getElem? (i := 389) (by decide +kernel))) rfl, x_gm (List.mem_append_right _ (List.mem_of_getElem? (i := 746) (by decide +kernel))) rfl, by decide +kernel⟩
theorem lv_X0_23 : x_LV RX0 23 M_X9_leave 1 := ⟨xn_X9_leave, x_gm (List.mem_append_right _ (List.mem_of_getElem? (i := 764) (by decide +kernel))) rfl, x_gm (List.mem_append_right _ (List.mem_of_getElem? (i := 749) (by decide +kernel))) rfl, x_gm (List.mem_append_right _ (List.mem_of_getElem? (i := 750) (by decide +kernel))) rfl⟩
theorem lv_X0_19 : x_LV RX0 19 M_X0_tellingOfBoat 1 := ⟨xn_X0_tellingOfBoat, x_gm (List.mem_append_right _ (List.mem_of_getElem? (i := 766) (by decide +kernel))) rfl, x_gm (List.mem_append_right _ (List.mem_of_getElem? (i := 762) (by decide +kernel))) rfl, x_gm (List.mem_append_right _ (List.mem_of_getElem? (i := 1152) (by decide +kernel))) rfl⟩
theorem lu_X0_19_X2 : x_LU RX0 19 RX2 RX0 yX0_tellingOfBoat M_X0_tellingOfBoat 1 := ⟨xn_X0_tellingOfBoat, x_gm (List.mem_append_right _ (List.mem_of_getElem? (i := 766) (by decide +kernel))) rfl, x_gm (List.mem_append_right _ (List.mem_of_getElem? (i := 1151) (by decide +kernel))) rfl, fun U hU _ => va_Decl.of (hU _ (x_gm (List.mem_append_right _ (List.mem_of_getElem? (i := 762) (by decide +kernel))) rfl)) (hU _ xn_X0_tellingOfBoat.1), x_gm (List.mem_append_right _ (List.mem_of_getElem? (i := 1153) (by decide +kernel))) rfl, x_gm (List.mem_append_right _ (List.mem_of_getElem? (i := 762) (by decide +kernel))) rfl, ⟨by decide +kernel, by decide +kernel⟩, by decide +kernel⟩
theorem lu_X0_19_X8 : x_LU RX0 19 RX8 RX0 yX0_tellingOfBoat M_X0_tellingOfBoat 1 := ⟨xn_X0_tellingOfBoat, x_gm (List.mem_append_right _ (List.mem_of_getElem? (i := 766) (by decide +kernel))) rfl, x_gm (List.mem_append_right _ (List.mem_of_getElem? (i := 1151) (by decide +kernel))) rfl, fun U hU _ => va_Decl.of (hU _ (x_gm (List.mem_append_right _ (List.mem_of_getElem? (i := 762) (by decide +kernel))) rfl)) (hU _ xn_X0_tellingOfBoat.1), x_gm (List.mem_append_right _ (List.mem_of_getElem? (i := 1154) (by decide +kernel))) rfl, x_gm (List.mem_append_right _ (List.mem_of_getElem? (i := 762) (by decide +kernel))) rfl, ⟨by decide +kernel, by decide +kernel⟩, by decide +kernel⟩
theorem lv_L_101 : x_LV RL 101 M_X11_hail 1 := ⟨xn_X11_hail, x_gm (List.mem_append_right _ (List.mem_of_getElem? (i := 767) (by decide +kernel))) rfl, x_gm (List.mem_append_right _ (List.mem_of_getElem? (i := 768) (by decide +kernel))) rfl, x_gm (List.mem_append_right _ (List.mem_of_getElem? (i := 769) (by decide +kernel))) rfl⟩
theorem lv_X11_305 : x_LV RX11 305 M_X0_hailing 1 := ⟨xn_X0_hailing, x_gm (List.mem_append_right _ (List.mem_of_getElem? (i := 771) (by decide +kernel))) rfl, x_gm (List.mem_append_right _ (List.mem_of_getElem? (i := 772) (by decide +kernel))) rfl, x_gm (List.mem_append_right _ (List.mem_of_getElem? (i := 773) (by decide +kernel))) rfl⟩
theorem lu_X11_305_X2 : x_LU RX11 305 RX2 RX0 yX0_hailing M_X0_hailing 1 := ⟨xn_X0_hailing, x_gm (List.mem_append_right _ (List.mem_of_getElem? (i := 771) (by decide +kernel))) rfl, x_gm (List.mem_append_right _ (List.mem_of_getElem? (i := 774) (by decide +kernel))) rfl, fun U hU _ => va_Decl.of (hU _ (x_gm (List.mem_append_right _ (List.mem_of_getElem? (i := 772) (by decide +kernel))) rfl)) (hU _ xn_X0_hailing.1), x_gm (List.mem_append_right _ (List.mem_of_getElem? (i := 775) (by decide +kernel))) rfl, x_gm (List.mem_append_right _ (List.mem_of_getElem? (i := 772) (by decide +kernel))) rfl, ⟨by decide +kernel, by decide +kernel⟩, by decide +kernel⟩
theorem lu_X11_305_X8 : x_LU RX11 305 RX8 RX0 yX0_hailing M_X8_hailing 1 := ⟨xn_X8_hailing, x_gm (List.mem_append_right _ (List.mem_of_getElem? (i := 771) (by decide +kernel))) rfl, x_gm (List.mem_append_right _ (List.mem_of_getElem? (i := 774) (by decide +kernel))) rfl, fun U hU _ => va_Decl.of (hU _ (x_gm (List.mem_append_right _ (List.mem_of_getElem? (i := 772) (by decide +kernel))) rfl)) (hU _ xn_X0_hailing.1), x_gm (List.mem_append_right _ (List.mem_of_getElem? (i := 776) (by decide +kernel))) rfl, x_gm (List.mem_append_right _ (List.mem_of_getElem? (i := 777) (by decide +kernel))) rfl, ⟨by decide +kernel, by decide +kernel⟩, by decide +kernel⟩
theorem lv_L_105 : x_LV RL 105 M_X11_as 2 := ⟨xn_X11_as, x_gm (List.mem_append_right _ (List.mem_of_getElem? (i := 780) (by decide +kernel))) rfl, x_gm (List.mem_append_right _ (List.mem_of_getElem? (i := 781) (by decide +kernel))) rfl, x_gm (List.mem_append_right _ (List.mem_of_getElem? (i := 782) (by decide +kernel))) rfl⟩
theorem ls_X11_308 : x_LS RX11 308 M_X11_isOfKind 2 := ⟨xn_X11_isOfKind, Or.inl (x_gm (List.mem_append_right _ (List.mem_of_getElem? (i := 784) (by decide +kernel))) rfl), x_gm (List.mem_append_right _ (List.mem_of_getElem? (i := 785) (by decide +kernel))) rfl⟩
theorem lv_L_109 : x_LV RL 109 M_X11_trace 0 := ⟨xn_X11_trace, x_gm (List.mem_append_right _ (List.mem_of_getElem? (i := 787) (by decide +kernel))) rfl, x_gm (List.mem_append_right _ (List.mem_of_getElem? (i := 788) (by decide +kernel))) rfl, x_gm (List.mem_append_right _ (List.mem_of_getElem? (i := 789) (by decide +kernel))) rfl⟩
theorem lv_L_114 : x_LV RL 114 M_X11_fault 0 := ⟨xn_X11_fault, x_gm (List.mem_append_right _ (List.mem_of_getElem? (i := 791) (by decide +kernel))) rfl, x_gm (List.mem_append_right _ (List.mem_of_getElem? (i := 792) (by decide +kernel))) rfl, x_gm (List.mem_append_right _ (List.mem_of_getElem? (i := 793) (by decide +kernel))) rfl⟩
theorem lv_L_118 : x_LV RL 118 M_X11_many 1 := ⟨xn_X11_many, x_gm (List.mem_append_right _ (List.mem_of_getElem? (i := 795) (by decide +kernel))) rfl, x_gm (List.mem_append_right _ (List.mem_of_getElem? (i := 796) (by decide +kernel))) rfl, x_gm (List.mem_append_right _ (List.mem_of_getElem? (i := 797) (by decide +kernel))) rfl⟩
theorem li_L_12 : x_LI RL 12 M_X12_init 0 := ⟨xn_X12_init, Or.inl (x_gm (List.mem_append_right _ (List.mem_of_getElem? (i := 801) (by decide +kernel))) rfl), x_gm (List.mem_append_right _ (List.mem_of_getElem? (i := 802) (by decide +kernel))) rfl, rfl, rfl⟩
theorem lv_L_17 : x_LV RL 17 M_X12_lake 4 := ⟨xn_X12_lake, x_gm (List.mem_append_right _ (List.mem_of_getElem? (i := 903) (by decide +kernel))) rfl, x_gm (List.mem_append_right _ (List.mem_of_getElem? (i := 904) (by decide +kernel))) rfl, x_gm (List.mem_append_right _ (List.mem_of_getElem? (i := 905) (by decide +kernel))) rfl⟩
theorem ls_X12_84 : x_LS RX12 84 M_X12_isSheet 1 := ⟨xn_X12_isSheet, Or.inl (x_gm (List.mem_append_right _ (List.mem_of_getElem? (i := 907) (by decide +kernel))) rfl), x_gm (List.mem_append_right _ (List.mem_of_getElem? (i := 908) (by decide +kernel))) rfl⟩
theorem ls_X12_71 : x_LS RX12 71 M_X12_within 3 := ⟨xn_X12_within, Or.inl (x_gm (List.mem_append_right _ (List.mem_of_getElem? (i := 910) (by decide +kernel))) rfl), x_gm (List.mem_append_right _ (List.mem_of_getElem? (i := 911) (by decide +kernel))) rfl⟩
theorem ls_X12_88 : x_LS RX12 88 M_X12_isSort 1 := ⟨xn_X12_isSort, Or.inl (x_gm (List.mem_append_right _ (List.mem_of_getElem? (i := 913) (by decide +kernel))) rfl), x_gm (List.mem_append_right _ (List.mem_of_getElem? (i := 914) (by decide +kernel))) rfl⟩
theorem lv_X12_91 : x_LV RX12 91 M_X12_against 4 := ⟨xn_X12_against, x_gm (List.mem_append_right _ (List.mem_of_getElem? (i := 916) (by decide +kernel))) rfl, x_gm (List.mem_append_right _ (List.mem_of_getElem? (i := 918) (by decide +kernel))) rfl, x_gm (List.mem_append_left _ (List.mem_of_getElem? (i := 30) (by decide +kernel))) rfl⟩
theorem lv_X12_95 : x_LV RX12 95 M_X12_fails 1 := ⟨xn_X12_fails, x_gm (List.mem_append_right _ (List.mem_of_getElem? (i := 920) (by decide +kernel))) rfl, x_gm (List.mem_append_right _ (List.mem_of_getElem? (i := 922) (by decide +kernel))) rfl, x_gm (List.mem_append_left _ (List.mem_of_getElem? (i := 31) (by decide +kernel))) rfl⟩
theorem lv_X12_99 : x_LV RX12 99 M_X12_readLake 1 := ⟨xn_X12_readLake, x_gm (List.mem_append_right _ (List.mem_of_getElem? (i := 924) (by decide +kernel))) rfl, x_gm (List.mem_append_right _ (List.mem_of_getElem? (i := 926) (by decide +kernel))) rfl, x_gm (List.mem_append_left _ (List.mem_of_getElem? (i := 32) (by decide +kernel))) rfl⟩
theorem lv_X12_120 : x_LV RX12 120 M_X12_isSign 2 := ⟨xn_X12_isSign, x_gm (List.mem_append_right _ (List.mem_of_getElem? (i := 928) (by decide +kernel))) rfl, x_gm (List.mem_append_right _ (List.mem_of_getElem? (i := 930) (by decide +kernel))) rfl, x_gm (List.mem_append_left _ (List.mem_of_getElem? (i := 33) (by decide +kernel))) rfl⟩
theorem lv_X12_124 : x_LV RX12 124 M_X12_digit 3 := ⟨xn_X12_digit, x_gm (List.mem_append_right _ (List.mem_of_getElem? (i := 932) (by decide +kernel))) rfl, x_gm (List.mem_append_right _ (List.mem_of_getElem? (i := 934) (by decide +kernel))) rfl, x_gm (List.mem_append_left _ (List.mem_of_getElem? (i := 34) (by decide +kernel))) rfl⟩
theorem ls_X12_128 : x_LS RX12 128 M_X12_windBy 1 := ⟨xn_X12_windBy, Or.inl (x_gm (List.mem_append_right _ (List.mem_of_getElem? (i := 936) (by decide +kernel))) rfl), x_gm (List.mem_append_right _ (List.mem_of_getElem? (i := 937) (by decide +kernel))) rfl⟩
theorem lv_X12_131 : x_LV RX12 131 M_X12_readBoat 1 := ⟨xn_X12_readBoat, x_gm (List.mem_append_right _ (List.mem_of_getElem? (i := 939) (by decide +kernel))) rfl, x_gm (List.mem_append_right _ (List.mem_of_getElem? (i := 941) (by decide +kernel))) rfl, x_gm (List.mem_append_left _ (List.mem_of_getElem? (i := 35) (by decide +kernel))) rfl⟩
theorem lv_X12_102 : x_LV RX12 102 M_X12_takeLake 0 := ⟨xn_X12_takeLake, x_gm (List.mem_append_right _ (List.mem_of_getElem? (i := 943) (by decide +kernel))) rfl, x_gm (List.mem_append_right _ (List.mem_of_getElem? (i := 945) (by decide +kernel))) rfl, x_gm (List.mem_append_left _ (List.mem_of_getElem? (i := 36) (by decide +kernel))) rfl⟩
theorem lv_L_22 : x_LV RL 22 M_X12_ofBoat 2 := ⟨xn_X12_ofBoat, x_gm (List.mem_append_right _ (List.mem_of_getElem? (i := 947) (by decide +kernel))) rfl, x_gm (List.mem_append_right _ (List.mem_of_getElem? (i := 948) (by decide +kernel))) rfl, x_gm (List.mem_append_right _ (List.mem_of_getElem? (i := 949) (by decide +kernel))) rfl⟩
theorem lv_X12_134 : x_LV RX12 134 M_X12_isBoat 1 := ⟨xn_X12_isBoat, x_gm (List.mem_append_right _ (List.mem_of_getElem? (i := 951) (by decide +kernel))) rfl, x_gm (List.mem_append_right _ (List.mem_of_getElem? (i := 953) (by decide +kernel))) rfl, x_gm (List.mem_append_left _ (List.mem_of_getElem? (i := 37) (by decide +kernel))) rfl⟩
theorem lv_L_26 : x_LV RL 26 M_X12_wind 2 := ⟨xn_X12_wind, x_gm (List.mem_append_right _ (List.mem_of_getElem? (i := 955) (by decide +kernel))) rfl, x_gm (List.mem_append_right _ (List.mem_of_getElem? (i := 956) (by decide +kernel))) rfl, x_gm (List.mem_append_right _ (List.mem_of_getElem? (i := 957) (by decide +kernel))) rfl⟩
theorem lv_X12_137 : x_LV RX12 137 M_X12_isHour 1 := ⟨xn_X12_isHour, x_gm (List.mem_append_right _ (List.mem_of_getElem? (i := 959) (by decide +kernel))) rfl, x_gm (List.mem_append_right _ (List.mem_of_getElem? (i := 961) (by decide +kernel))) rfl, x_gm (List.mem_append_left _ (List.mem_of_getElem? (i := 38) (by decide +kernel))) rfl⟩
theorem lv_L_31 : x_LV RL 31 M_X12_isle 2 := ⟨xn_X12_isle, x_gm (List.mem_append_right _ (List.mem_of_getElem? (i := 963) (by decide +kernel))) rfl, x_gm (List.mem_append_right _ (List.mem_of_getElem? (i := 964) (by decide +kernel))) rfl, x_gm (List.mem_append_right _ (List.mem_of_getElem? (i := 965) (by decide +kernel))) rfl⟩
theorem lv_L_36 : x_LV RL 36 M_X12_plan 5 := ⟨xn_X12_plan, x_gm (List.mem_append_right _ (List.mem_of_getElem? (i := 967) (by decide +kernel))) rfl, x_gm (List.mem_append_right _ (List.mem_of_getElem? (i := 968) (by decide +kernel))) rfl, x_gm (List.mem_append_right _ (List.mem_of_getElem? (i := 969) (by decide +kernel))) rfl⟩
theorem ls_X12_183 : x_LS RX12 183 M_X12_isRow 2 := ⟨xn_X12_isRow, Or.inl (x_gm (List.mem_append_right _ (List.mem_of_getElem? (i := 971) (by decide +kernel))) rfl), x_gm (List.mem_append_right _ (List.mem_of_getElem? (i := 972) (by decide +kernel))) rfl⟩
theorem lv_X12_186 : x_LV RX12 186 M_X12_layPlan 4 := ⟨xn_X12_layPlan, x_gm (List.mem_append_right _ (List.mem_of_getElem? (i := 974) (by decide +kernel))) rfl, x_gm (List.mem_append_right _ (List.mem_of_getElem? (i := 976) (by decide +kernel))) rfl, x_gm (List.mem_append_left _ (List.mem_of_getElem? (i := 39) (by decide +kernel))) rfl⟩
theorem lv_X12_153 : x_LV RX12 153 M_X12_all 0 := ⟨xn_X12_all, x_gm (List.mem_append_right _ (List.mem_of_getElem? (i := 978) (by decide +kernel))) rfl, x_gm (List.mem_append_right _ (List.mem_of_getElem? (i := 980) (by decide +kernel))) rfl, x_gm (List.mem_append_left _ (List.mem_of_getElem? (i := 40) (by decide +kernel))) rfl⟩
theorem lv_X12_189 : x_LV RX12 189 M_X12_goPlan 0 := ⟨xn_X12_goPlan, x_gm (List.mem_append_right _ (List.mem_of_getElem? (i := 982) (by decide +kernel))) rfl, x_gm (List.mem_append_right _ (List.mem_of_getElem? (i := 984) (by decide +kernel))) rfl, x_gm (List.mem_append_left _ (List.mem_of_getElem? (i := 41) (by decide +kernel))) rfl⟩
theorem lv_X12_159 : x_LV RX12 159 M_X12_begins 1 := ⟨xn_X12_begins, x_gm (List.mem_append_right _ (List.mem_of_getElem? (i := 986) (by decide +kernel))) rfl, x_gm (List.mem_append_right _ (List.mem_of_getElem? (i := 988) (by decide +kernel))) rfl, x_gm (List.mem_append_left _ (List.mem_of_getElem? (i := 42) (by decide +kernel))) rfl⟩
theorem lv_X12_140 : x_LV RX12 140 M_X12_asNumber 0 := ⟨xn_X12_asNumber, x_gm (List.mem_append_right _ (List.mem_of_getElem? (i := 990) (by decide +kernel))) rfl, x_gm (List.mem_append_right _ (List.mem_of_getElem? (i := 992) (by decide +kernel))) rfl, x_gm (List.mem_append_left _ (List.mem_of_getElem? (i := 43) (by decide +kernel))) rfl⟩
theorem lv_X12_172 : x_LV RX12 172 M_X12_finedBy 2 := ⟨xn_X12_finedBy, x_gm (List.mem_append_right _ (List.mem_of_getElem? (i := 994) (by decide +kernel))) rfl, x_gm (List.mem_append_right _ (List.mem_of_getElem? (i := 996) (by decide +kernel))) rfl, x_gm (List.mem_append_left _ (List.mem_of_getElem? (i := 44) (by decide +kernel))) rfl⟩
theorem lv_X12_144 : x_LV RX12 144 M_X12_isOver 1 := ⟨xn_X12_isOver, x_gm (List.mem_append_right _ (List.mem_of_getElem? (i := 998) (by decide +kernel))) rfl, x_gm (List.mem_append_right _ (List.mem_of_getElem? (i := 1000) (by decide +kernel))) rfl, x_gm (List.mem_append_left _ (List.mem_of_getElem? (i := 45) (by decide +kernel))) rfl⟩
theorem lv_X12_147 : x_LV RX12 147 M_X12_isWith 2 := ⟨xn_X12_isWith, x_gm (List.mem_append_right _ (List.mem_of_getElem? (i := 1002) (by decide +kernel))) rfl, x_gm (List.mem_append_right _ (List.mem_of_getElem? (i := 1004) (by decide +kernel))) rfl, x_gm (List.mem_append_left _ (List.mem_of_getElem? (i := 46) (by decide +kernel))) rfl⟩
theorem lv_X12_176 : x_LV RX12 176 M_X12_goHour 2 := ⟨xn_X12_goHour, x_gm (List.mem_append_right _ (List.mem_of_getElem? (i := 1006) (by decide +kernel))) rfl, x_gm (List.mem_append_right _ (List.mem_of_getElem? (i := 1008) (by decide +kernel))) rfl, x_gm (List.mem_append_left _ (List.mem_of_getElem? (i := 47) (by decide +kernel))) rfl⟩
theorem lv_X12_150 : x_LV RX12 150 M_X12_bounded 1 := ⟨xn_X12_bounded, x_gm (List.mem_append_right _ (List.mem_of_getElem? (i := 1010) (by decide +kernel))) rfl, x_gm (List.mem_append_right _ (List.mem_of_getElem? (i := 1012) (by decide +kernel))) rfl, x_gm (List.mem_append_left _ (List.mem_of_getElem? (i := 48) (by decide +kernel))) rfl⟩
theorem lv_X12_180 : x_LV RX12 180 M_X12_over 0 := ⟨xn_X12_over, x_gm (List.mem_append_right _ (List.mem_of_getElem? (i := 1014) (by decide +kernel))) rfl, x_gm (List.mem_append_right _ (List.mem_of_getElem? (i := 1016) (by decide +kernel))) rfl, x_gm (List.mem_append_left _ (List.mem_of_getElem? (i := 49) (by decide +kernel))) rfl⟩
theorem lv_L_41 : x_LV RL 41 M_X12_soonest 1 := ⟨xn_X12_soonest, x_gm (List.mem_append_right _ (List.mem_of_getElem? (i := 1018) (by decide +kernel))) rfl, x_gm (List.mem_append_right _ (List.mem_of_getElem? (i := 1019) (by decide +kernel))) rfl, x_gm (List.mem_append_right _ (List.mem_of_getElem? (i := 1020) (by decide +kernel))) rfl⟩
theorem lv_X12_202 : x_LV RX12 202 M_X12_soonestOf 1 := ⟨xn_X12_soonestOf, x_gm (List.mem_append_right _ (List.mem_of_getElem? (i := 1022) (by decide +kernel))) rfl, x_gm (List.mem_append_right _ (List.mem_of_getElem? (i := 1024) (by decide +kernel))) rfl, x_gm (List.mem_append_left _ (List.mem_of_getElem? (i := 50) (by decide +kernel))) rfl⟩
theorem lv_X12_196 : x_LV RX12 196 M_X12_isThere 1 := ⟨xn_X12_isThere, x_gm (List.mem_append_right _ (List.mem_of_getElem? (i := 1026) (by decide +kernel))) rfl, x_gm (List.mem_append_right _ (List.mem_of_getElem? (i := 1028) (by decide +kernel))) rfl, x_gm (List.mem_append_left _ (List.mem_of_getElem? (i := 51) (by decide +kernel))) rfl⟩
theorem lv_X12_192 : x_LV RX12 192 M_X12_asPlaces 1 := ⟨xn_X12_asPlaces, x_gm (List.mem_append_right _ (List.mem_of_getElem? (i := 1030) (by decide +kernel))) rfl, x_gm (List.mem_append_right _ (List.mem_of_getElem? (i := 1032) (by decide +kernel))) rfl, x_gm (List.mem_append_left _ (List.mem_of_getElem? (i := 52) (by decide +kernel))) rfl⟩
theorem lv_X12_199 : x_LV RX12 199 M_X12_goAll 1 := ⟨xn_X12_goAll, x_gm (List.mem_append_right _ (List.mem_of_getElem? (i := 1034) (by decide +kernel))) rfl, x_gm (List.mem_append_right _ (List.mem_of_getElem? (i := 1036) (by decide +kernel))) rfl, x_gm (List.mem_append_left _ (List.mem_of_getElem? (i := 53) (by decide +kernel))) rfl⟩
theorem lv_L_45 : x_LV RL 45 M_X12_hats 2 := ⟨xn_X12_hats, x_gm (List.mem_append_right _ (List.mem_of_getElem? (i := 1038) (by decide +kernel))) rfl, x_gm (List.mem_append_right _ (List.mem_of_getElem? (i := 1039) (by decide +kernel))) rfl, x_gm (List.mem_append_right _ (List.mem_of_getElem? (i := 1040) (by decide +kernel))) rfl⟩
theorem lv_X12_205 : x_LV RX12 205 M_X12_isInTime 2 := ⟨xn_X12_isInTime, x_gm (List.mem_append_right _ (List.mem_of_getElem? (i := 1042) (by decide +kernel))) rfl, x_gm (List.mem_append_right _ (List.mem_of_getElem? (i := 1044) (by decide +kernel))) rfl, x_gm (List.mem_append_left _ (List.mem_of_getElem? (i := 54) (by decide +kernel))) rfl⟩
theorem lv_X12_208 : x_LV RX12 208 M_X12_isByOne 3 := ⟨xn_X12_isByOne, x_gm (List.mem_append_right _ (List.mem_of_getElem? (i := 1046) (by decide +kernel))) rfl, x_gm (List.mem_append_right _ (List.mem_of_getElem? (i := 1048) (by decide +kernel))) rfl, x_gm (List.mem_append_left _ (List.mem_of_getElem? (i := 55) (by decide +kernel))) rfl⟩
theorem lv_X12_211 : x_LV RX12 211 M_X12_isByTwo 4 := ⟨xn_X12_isByTwo, x_gm (List.mem_append_right _ (List.mem_of_getElem? (i := 1050) (by decide +kernel))) rfl, x_gm (List.mem_append_right _ (List.mem_of_getElem? (i := 1052) (by decide +kernel))) rfl, x_gm (List.mem_append_left _ (List.mem_of_getElem? (i := 56) (by decide +kernel))) rfl⟩
theorem lv_L_49 : x_LV RL 49 M_X12_rid 1 := ⟨xn_X12_rid, x_gm (List.mem_append_right _ (List.mem_of_getElem? (i := 1054) (by decide +kernel))) rfl, x_gm (List.mem_append_right _ (List.mem_of_getElem? (i := 1055) (by decide +kernel))) rfl, x_gm (List.mem_append_right _ (List.mem_of_getElem? (i := 1056) (by decide +kernel))) rfl⟩
theorem lv_L_54 : x_LV RL 54 M_X12_reading 3 := ⟨xn_X12_reading, x_gm (List.mem_append_right _ (List.mem_of_getElem? (i := 1058) (by decide +kernel))) rfl, x_gm (List.mem_append_right _ (List.mem_of_getElem? (i := 1059) (by decide +kernel))) rfl, x_gm (List.mem_append_right _ (List.mem_of_getElem? (i := 1060) (by decide +kernel))) rfl⟩
theorem lv_L_58 : x_LV RL 58 M_X12_back 1 := ⟨xn_X12_back, x_gm (List.mem_append_right _ (List.mem_of_getElem? (i := 1062) (by decide +kernel))) rfl, x_gm (List.mem_append_right _ (List.mem_of_getElem? (i := 1063) (by decide +kernel))) rfl, x_gm (List.mem_append_right _ (List.mem_of_getElem? (i := 1064) (by decide +kernel))) rfl⟩
theorem lv_L_62 : x_LV RL 62 M_X12_winds 5 := ⟨xn_X12_winds, x_gm (List.mem_append_right _ (List.mem_of_getElem? (i := 1066) (by decide +kernel))) rfl, x_gm (List.mem_append_right _ (List.mem_of_getElem? (i := 1067) (by decide +kernel))) rfl, x_gm (List.mem_append_right _ (List.mem_of_getElem? (i := 1068) (by decide +kernel))) rfl⟩
theorem lv_X12_215 : x_LV RX12 215 M_X12_lay 5 := ⟨xn_X12_lay, x_gm (List.mem_append_right _ (List.mem_of_getElem? (i := 1070) (by decide +kernel))) rfl, x_gm (List.mem_append_right _ (List.mem_of_getElem? (i := 1072) (by decide +kernel))) rfl, x_gm (List.mem_append_left _ (List.mem_of_getElem? (i := 57) (by decide +kernel))) rfl⟩
theorem lv_X12_219 : x_LV RX12 219 M_X12_areSo 0 := ⟨xn_X12_areSo, x_gm (List.mem_append_right _ (List.mem_of_getElem? (i := 1074) (by decide +kernel))) rfl, x_gm (List.mem_append_right _ (List.mem_of_getElem? (i := 1076) (by decide +kernel))) rfl, x_gm (List.mem_append_left _ (List.mem_of_getElem? (i := 58) (by decide +kernel))) rfl⟩
theorem lv_L_66 : x_LV RL 66 M_X12_kinds 5 := ⟨xn_X12_kinds, x_gm (List.mem_append_right _ (List.mem_of_getElem? (i := 1078) (by decide +kernel))) rfl, x_gm (List.mem_append_right _ (List.mem_of_getElem? (i := 1079) (by decide +kernel))) rfl, x_gm (List.mem_append_right _ (List.mem_of_getElem? (i := 1080) (by decide +kernel))) rfl⟩
theorem lv_L_70 : x_LV RL 70 M_X12_speeds 5 := ⟨xn_X12_speeds, x_gm (List.mem_append_right _ (List.mem_of_getElem? (i := 1082) (by decide +kernel))) rfl, x_gm (List.mem_append_right _ (List.mem_of_getElem? (i := 1083) (by decide +kernel))) rfl, x_gm (List.mem_append_right _ (List.mem_of_getElem? (i := 1084) (by decide +kernel))) rfl⟩
theorem lv_L_75 : x_LV RL 75 M_X12_odds 5 := ⟨xn_X12_odds, x_gm (List.mem_append_right _ (List.mem_of_getElem? (i := 1086) (by decide +kernel))) rfl, x_gm (List.mem_append_right _ (List.mem_of_getElem? (i := 1087) (by decide +kernel))) rfl, x_gm (List.mem_append_right _ (List.mem_of_getElem? (i := 1088) (by decide +kernel))) rfl⟩
theorem lv_X12_223 : x_LV RX12 223 M_X12_isFree 1 := ⟨xn_X12_isFree, x_gm (List.mem_append_right _ (List.mem_of_getElem? (i := 1091) (by decide +kernel))) rfl, x_gm (List.mem_append_right _ (List.mem_of_getElem? (i := 1093) (by decide +kernel))) rfl, x_gm (List.mem_append_left _ (List.mem_of_getElem? (i := 59) (by decide +kernel))) rfl⟩
theorem ls_X12_226 : x_LS RX12 226 M_X12_inLeastTerms 3 := ⟨xn_X12_inLeastTerms, Or.inl (x_gm (List.mem_append_right _ (List.mem_of_getElem? (i := 1095) (by decide +kernel))) rfl), x_gm (List.mem_append_right _ (List.mem_of_getElem? (i := 1096) (by decide +kernel))) rfl⟩
theorem lv_L_79 : x_LV RL 79 M_X12_sheet 3 := ⟨xn_X12_sheet, x_gm (List.mem_append_right _ (List.mem_of_getElem? (i := 1098) (by decide +kernel))) rfl, x_gm (List.mem_append_right _ (List.mem_of_getElem? (i := 1099) (by decide +kernel))) rfl, x_gm (List.mem_append_right _ (List.mem_of_getElem? (i := 1100) (by decide +kernel))) rfl⟩
theorem lv_L_83 : x_LV RL 83 M_X12_lose 1 := ⟨xn_X12_lose, x_gm (List.mem_append_right _ (List.mem_of_getElem? (i := 1102) (by decide +kernel))) rfl, x_gm (List.mem_append_right _ (List.mem_of_getElem? (i := 1103) (by decide +kernel))) rfl, x_gm (List.mem_append_right _ (List.mem_of_getElem? (i := 1104) (by decide +kernel))) rfl⟩
theorem lv_L_87 : x_LV RL 87 M_X12_put 3 := ⟨xn_X12_put, x_gm (List.mem_append_right _ (List.mem_of_getElem? (i := 1106) (by decide +kernel))) rfl, x_gm (List.mem_append_right _ (List.mem_of_getElem? (i := 1107) (by decide +kernel))) rfl, x_gm (List.mem_append_right _ (List.mem_of_getElem? (i := 1108) (by decide +kernel))) rfl⟩
theorem lv_L_92 : x_LV RL 92 M_X12_cell 3 := ⟨xn_X12_cell, x_gm (List.mem_append_right _ (List.mem_of_getElem? (i := 1110) (by decide +kernel))) rfl, x_gm (List.mem_append_right _ (List.mem_of_getElem? (i := 1111) (by decide +kernel))) rfl, x_gm (List.mem_append_right _ (List.mem_of_getElem? (i := 1112) (by decide +kernel))) rfl⟩
theorem lv_X12_230 : x_LV RX12 230 M_X12_lost 1 := ⟨xn_X12_lost, x_gm (List.mem_append_right _ (List.mem_of_getElem? (i := 1114) (by decide +kernel))) rfl, x_gm (List.mem_append_right _ (List.mem_of_getElem? (i := 1116) (by decide +kernel))) rfl, x_gm (List.mem_append_left _ (List.mem_of_getElem? (i := 60) (by decide +kernel))) rfl⟩
theorem lv_L_96 : x_LV RL 96 M_X12_copy 5 := ⟨xn_X12_copy, x_gm (List.mem_append_right _ (List.mem_of_getElem? (i := 1118) (by decide +kernel))) rfl, x_gm (List.mem_append_right _ (List.mem_of_getElem? (i := 1119) (by decide +kernel))) rfl, x_gm (List.mem_append_right _ (List.mem_of_getElem? (i := 1120) (by decide +kernel))) rfl⟩
theorem lv_L_100 : x_LV RL 100 M_X12_tell 1 := ⟨xn_X12_tell, x_gm (List.mem_append_right _ (List.mem_of_getElem? (i := 1122) (by decide +kernel))) rfl, x_gm (List.mem_append_right _ (List.mem_of_getElem? (i := 1123) (by decide +kernel))) rfl, x_gm (List.mem_append_right _ (List.mem_of_getElem? (i := 1124) (by decide +kernel))) rfl⟩
theorem lv_X12_237 : x_LV RX12 237 M_X12_leaves 1 := ⟨xn_X12_leaves, x_gm (List.mem_append_right _ (List.mem_of_getElem? (i := 1126) (by decide +kernel))) rfl, x_gm (List.mem_append_right _ (List.mem_of_getElem? (i := 1128) (by decide +kernel))) rfl, x_gm (List.mem_append_left _ (List.mem_of_getElem? (i := 61) (by decide +kernel))) rfl⟩
theorem lv_L_104 : x_LV RL 104 M_X12_hail 1 := ⟨xn_X12_hail, x_gm (List.mem_append_right _ (List.mem_of_getElem? (i := 1130) (by decide +kernel))) rfl, x_gm (List.mem_append_right _ (List.mem_of_getElem? (i := 1131) (by decide +kernel))) rfl, x_gm (List.mem_append_right _ (List.mem_of_getElem? (i := 1132) (by decide +kernel))) rfl⟩
theorem lv_L_108 : x_LV RL 108 M_X12_as 2 := ⟨xn_X12_as, x_gm (List.mem_append_right _ (List.mem_of_getElem? (i := 1134) (by decide +kernel))) rfl, x_gm (List.mem_append_right _ (List.mem_of_getElem? (i := 1135) (by decide +kernel))) rfl, x_gm (List.mem_append_right _ (List.mem_of_getElem? (i := 1136) (by decide +kernel))) rfl⟩
theorem lv_L_113 : x_LV RL 113 M_X12_trace 0 := ⟨xn_X12_trace, x_gm (List.mem_append_right _ (List.mem_of_getElem? (i := 1138) (by decide +kernel))) rfl, x_gm (List.mem_append_right _ (List.mem_of_getElem? (i := 1139) (by decide +kernel))) rfl, x_gm (List.mem_append_right _ (List.mem_of_getElem? (i := 1140) (by decide +kernel))) rfl⟩
theorem lv_L_117 : x_LV RL 117 M_X12_fault 0 := ⟨xn_X12_fault, x_gm (List.mem_append_right _ (List.mem_of_getElem? (i := 1142) (by decide +kernel))) rfl, x_gm (List.mem_append_right _ (List.mem_of_getElem? (i := 1143) (by decide +kernel))) rfl, x_gm (List.mem_append_right _ (List.mem_of_getElem? (i := 1144) (by decide +kernel))) rfl⟩
theorem lv_L_121 : x_LV RL 121 M_X12_many 1 := ⟨xn_X12_many, x_gm (List.mem_append_right _ (List.mem_of_getElem? (i := 1146) (by decide +kernel))) rfl, x_gm (List.mem_append_right _ (List.mem_of_getElem? (i := 1147) (by decide +kernel))) rfl, x_gm (List.mem_append_right _ (List.mem_of_getElem? (i := 1148) (by decide +kernel))) rfl⟩
theorem cl_L_7 : Cond.classLink RL 7 RX11 ∈ x_gw := x_gm (List.mem_append_right _ (List.mem_of_getElem? (i := 17) (by decide +kernel))) rfl
theorem nw_L_7 : x_NW RL 7 11 12 [.null, .null, .null, .null, .null, .null, .null, .null, .null, .null, .null, .int 0] := ⟨RX11, TX11, tyX11, rfl, uw_11, tyX11_ok, cl_L_7, x_gm (List.mem_append_right _ (List.mem_of_getElem? (i := 18) (by decide +kernel))) rfl, x_gm (List.mem_append_right _ (List.mem_of_getElem? (i := 1) (by decide +kernel))) rfl, by decide +kernel, fun _ => rfl⟩
theorem cl_X11_11 : Cond.classLink RX11 11 RX5 ∈ x_gw := x_gm (List.mem_append_right _ (List.mem_of_getElem? (i := 25) (by decide +kernel))) rfl
theorem nw_X11_11 : x_NW RX11 11 5 3 [.int 0, .int 0, .null] := ⟨RX5, TX5, tyX5, rfl, uw_5, tyX5_ok, cl_X11_11, x_gm (List.mem_append_right _ (List.mem_of_getElem? (i := 240) (by decide +kernel))) rfl, x_gm (List.mem_append_right _ (List.mem_of_getElem? (i := 10) (by decide +kernel))) rfl, by decide +kernel, fun _ => rfl⟩
theorem cl_X11_17 : Cond.classLink RX11 17 RX7 ∈ x_gw := x_gm (List.mem_append_right _ (List.mem_of_getElem? (i := 27) (by decide +kernel))) rfl
theorem nw_X11_17 : x_NW RX11 17 7 4 [.int 0, .null, .int 0, .int 0] := ⟨RX7, TX7, tyX7, rfl, uw_7, tyX7_ok, cl_X11_17, x_gm (List.mem_append_right _ (List.mem_of_getElem? (i := 28) (by decide +kernel))) rfl, x_gm (List.mem_append_right _ (List.mem_of_getElem? (i := 2) (by decide +kernel))) rfl, by decide +kernel, fun _ => rfl⟩
theorem cl_X11_24 : Cond.classLink RX11 24 RX3 ∈ x_gw := x_gm (List.mem_append_right _ (List.mem_of_getElem? (i := 48) (by decide +kernel))) rfl
theorem nw_X11_24 : x_NW RX11 24 3 4 [.int 0, .null, .null, .null] := ⟨RX3, TX3, tyX3, rfl, uw_3, tyX3_ok, cl_X11_24, x_gm (List.mem_append_right _ (List.mem_of_getElem? (i := 49) (by decide +kernel))) rfl, x_gm (List.mem_append_right _ (List.mem_of_getElem? (i := 3) (by decide +kernel))) rfl, by decide +kernel, fun _ => rfl⟩
theorem cl_X11_31 : Cond.classLink RX11 31 RX10 ∈ x_gw := x_gm (List.mem_append_right _ (List.mem_of_getElem? (i := 68) (by decide +kernel))) rfl
theorem nw_X11_31 : x_NW RX11 31 10 4 [.null, .int 0, .int 0, .int 0] := ⟨RX10, TX10, tyX10, rfl, uw_10, tyX10_ok, cl_X11_31, x_gm (List.mem_append_right _ (List.mem_of_getElem? (i := 69) (by decide +kernel))) rfl, x_gm (List.mem_append_right _ (List.mem_of_getElem? (i := 4) (by decide +kernel))) rfl, by decide +kernel, fun _ => rfl⟩
theorem cl_X11_38 : Cond.classLink RX11 38 RX4 ∈ x_gw := x_gm (List.mem_append_right _ (List.mem_of_getElem? (i := 92) (by decide +kernel))) rfl
theorem nw_X11_38 : x_NW RX11 38 4 13 [.int 0, .int 0, .int 0, .null, .null, .null, .null, .null, .null, .null, .null, .null, .null] := ⟨RX4, TX4, tyX4, rfl, uw_4, tyX4_ok, cl_X11_38, x_gm (List.mem_append_right _ (List.mem_of_getElem? (i := 93) (by decide +kernel))) rfl, x_gm (List.mem_append_right _ (List.mem_of_getElem? (i := 5) (by decide +kernel))) rfl, by decide +kernel, fun _ => rfl⟩
theorem cl_X4_39 : Cond.classLink RX4 39 RX10 ∈ x_gw := x_gm (List.mem_append_right _ (List.mem_of_getElem? (i := 98) (by decide +kernel))) rfl
theorem nw_X4_39 : x_NW RX4 39 10 4 [.null, .int 0, .int 0, .int 0] := ⟨RX10, TX10, tyX10, rfl, uw_10, tyX10_ok, cl_X4_39, x_gm (List.mem_append_right _ (List.mem_of_getElem? (i := 69) (by decide +kernel))) rfl, x_gm (List.mem_append_right _ (List.mem_of_getElem? (i := 4) (by decide +kernel))) rfl, by decide +kernel, fun _ => rfl⟩
theorem cl_X4_46 : Cond.classLink RX4 46 RX6 ∈ x_gw := x_gm (List.mem_append_right _ (List.mem_of_getElem? (i := 100) (by decide +kernel))) rfl
theorem nw_X4_46 : x_NW RX4 46 6 2 [.long 0, .long 0] := ⟨RX6, TX6, tyX6, rfl, uw_6, tyX6_ok, cl_X4_46, x_gm (List.mem_append_right _ (List.mem_of_getElem? (i := 101) (by decide +kernel))) rfl, x_gm (List.mem_append_right _ (List.mem_of_getElem? (i := 6) (by decide +kernel))) rfl, by decide +kernel, fun _ => rfl⟩
theorem cl_X11_45 : Cond.classLink RX11 45 RX9 ∈ x_gw := x_gm (List.mem_append_right _ (List.mem_of_getElem? (i := 158) (by decide +kernel))) rfl
theorem nw_X11_45 : x_NW RX11 45 9 1 [.int 0] := ⟨RX9, TX9, tyX9, rfl, uw_9, tyX9_ok, cl_X11_45, x_gm (List.mem_append_right _ (List.mem_of_getElem? (i := 159) (by decide +kernel))) rfl, x_gm (List.mem_append_right _ (List.mem_of_getElem? (i := 7) (by decide +kernel))) rfl, by decide +kernel, fun _ => rfl⟩
theorem cl_X11_62 : Cond.classLink RX11 62 RX1 ∈ x_gw := x_gm (List.mem_append_right _ (List.mem_of_getElem? (i := 169) (by decide +kernel))) rfl
theorem nw_X11_62 : x_NW RX11 62 1 6 [.int 0, .int 0, .int 0, .int 0, .null, .null] := ⟨RX1, TX1, tyX1, rfl, uw_1, tyX1_ok, cl_X11_62, x_gm (List.mem_append_right _ (List.mem_of_getElem? (i := 170) (by decide +kernel))) rfl, x_gm (List.mem_append_right _ (List.mem_of_getElem? (i := 8) (by decide +kernel))) rfl, by decide +kernel, fun _ => rfl⟩
theorem cl_X1_28 : Cond.classLink RX1 28 RX0 ∈ x_gw := x_gm (List.mem_append_right _ (List.mem_of_getElem? (i := 175) (by decide +kernel))) rfl
theorem nw_X1_28 : x_NW RX1 28 0 3 [.int 0, .int 0, .int 0] := ⟨RX0, TX0, tyX0, rfl, uw_0, tyX0_ok, cl_X1_28, x_gm (List.mem_append_right _ (List.mem_of_getElem? (i := 177) (by decide +kernel))) rfl, x_gm (List.mem_append_right _ (List.mem_of_getElem? (i := 9) (by decide +kernel))) rfl, by decide +kernel, fun _ => rfl⟩
theorem cl_X11_312 : Cond.classLink RX11 312 RX2 ∈ x_gw := x_gm (List.mem_append_right _ (List.mem_of_getElem? (i := 370) (by decide +kernel))) rfl
theorem nw_X11_312 : x_NW RX11 312 2 3 [.int 0, .int 0, .int 0] := ⟨RX2, TX2, tyX2, rfl, uw_2, tyX2_ok, cl_X11_312, x_gm (List.mem_append_right _ (List.mem_of_getElem? (i := 371) (by decide +kernel))) rfl, x_gm (List.mem_append_right _ (List.mem_of_getElem? (i := 12) (by decide +kernel))) rfl, by decide +kernel, fun _ => rfl⟩
theorem cl_X11_314 : Cond.classLink RX11 314 RX8 ∈ x_gw := x_gm (List.mem_append_right _ (List.mem_of_getElem? (i := 380) (by decide +kernel))) rfl
theorem nw_X11_314 : x_NW RX11 314 8 3 [.int 0, .int 0, .int 0] := ⟨RX8, TX8, tyX8, rfl, uw_8, tyX8_ok, cl_X11_314, x_gm (List.mem_append_right _ (List.mem_of_getElem? (i := 381) (by decide +kernel))) rfl, x_gm (List.mem_append_right _ (List.mem_of_getElem? (i := 13) (by decide +kernel))) rfl, by decide +kernel, fun _ => rfl⟩
theorem cl_X11_143 : Cond.classLink RX11 143 RX0 ∈ x_gw := x_gm (List.mem_append_right _ (List.mem_of_getElem? (i := 390) (by decide +kernel))) rfl
theorem nw_X11_143 : x_NW RX11 143 0 3 [.int 0, .int 0, .int 0] := ⟨RX0, TX0, tyX0, rfl, uw_0, tyX0_ok, cl_X11_143, x_gm (List.mem_append_right _ (List.mem_of_getElem? (i := 177) (by decide +kernel))) rfl, x_gm (List.mem_append_right _ (List.mem_of_getElem? (i := 9) (by decide +kernel))) rfl, by decide +kernel, fun _ => rfl⟩
theorem cl_L_10 : Cond.classLink RL 10 RX12 ∈ x_gw := x_gm (List.mem_append_right _ (List.mem_of_getElem? (i := 799) (by decide +kernel))) rfl
theorem nw_L_10 : x_NW RL 10 12 32 [.int 0, .int 0, .null, .null, .null, .int 0, .int 0, .int 0, .null, .null, .null, .null, .null, .int 0, .int 0, .int 0, .int 0, .null, .null, .null, .null, .int 0, .null, .int 0, .int 0, .int 0, .null, .null, .int 0, .null, .null, .null] := ⟨RX12, TX12, tyX12, rfl, uw_12, tyX12_ok, cl_L_10, x_gm (List.mem_append_right _ (List.mem_of_getElem? (i := 800) (by decide +kernel))) rfl, x_gm (List.mem_append_right _ (List.mem_of_getElem? (i := 11) (by decide +kernel))) rfl, by decide +kernel, fun _ => rfl⟩
theorem ob_X11_3 : Cond.methodLink RX11 3 Lib.objectInit ∈ x_gw := x_gm (List.mem_append_right _ (List.mem_of_getElem? (i := 22) (by decide +kernel))) rfl
theorem ob_X7_3 : Cond.methodLink RX7 3 Lib.objectInit ∈ x_gw := x_gm (List.mem_append_right _ (List.mem_of_getElem? (i := 32) (by decide +kernel))) rfl
theorem ob_X3_3 : Cond.methodLink RX3 3 Lib.objectInit ∈ x_gw := x_gm (List.mem_append_right _ (List.mem_of_getElem? (i := 53) (by decide +kernel))) rfl
theorem ob_X10_3 : Cond.methodLink RX10 3 Lib.objectInit ∈ x_gw := x_gm (List.mem_append_right _ (List.mem_of_getElem? (i := 73) (by decide +kernel))) rfl
theorem ob_X4_3 : Cond.methodLink RX4 3 Lib.objectInit ∈ x_gw := x_gm (List.mem_append_right _ (List.mem_of_getElem? (i := 97) (by decide +kernel))) rfl
theorem ob_X6_1 : Cond.methodLink RX6 1 Lib.objectInit ∈ x_gw := x_gm (List.mem_append_right _ (List.mem_of_getElem? (i := 105) (by decide +kernel))) rfl
theorem ob_X9_1 : Cond.methodLink RX9 1 Lib.objectInit ∈ x_gw := x_gm (List.mem_append_right _ (List.mem_of_getElem? (i := 163) (by decide +kernel))) rfl
theorem ob_X1_3 : Cond.methodLink RX1 3 Lib.objectInit ∈ x_gw := x_gm (List.mem_append_right _ (List.mem_of_getElem? (i := 174) (by decide +kernel))) rfl
theorem ob_X0_1 : Cond.methodLink RX0 1 Lib.objectInit ∈ x_gw := x_gm (List.mem_append_right _ (List.mem_of_getElem? (i := 181) (by decide +kernel))) rfl
theorem ob_X5_3 : Cond.methodLink RX5 3 Lib.objectInit ∈ x_gw := x_gm (List.mem_append_right _ (List.mem_of_getElem? (i := 244) (by decide +kernel))) rfl
theorem jl_X1_59 : Cond.methodLink RX1 59 Lib.Math.min.name ∈ x_gw := x_gm (List.mem_append_right _ (List.mem_of_getElem? (i := 512) (by decide +kernel))) rfl
theorem jl_X1_65 : Cond.methodLink RX1 65 Lib.Math.max.name ∈ x_gw := x_gm (List.mem_append_right _ (List.mem_of_getElem? (i := 515) (by decide +kernel))) rfl
theorem jl_X11_218 : Cond.methodLink RX11 218 Lib.Math.min.name ∈ x_gw := x_gm (List.mem_append_right _ (List.mem_of_getElem? (i := 609) (by decide +kernel))) rfl
theorem kl_X11_258 : Cond.constantLong RX11 258 (-9223372036854775808) ∈ x_gw := x_gm (List.mem_append_right _ (List.mem_of_getElem? (i := 689) (by decide +kernel))) rfl
theorem jl_X11_295 : Cond.methodLink RX11 295 arraycopyName ∈ x_gw := x_gm (List.mem_append_right _ (List.mem_of_getElem? (i := 734) (by decide +kernel))) rfl
theorem ob_X12_1 : Cond.methodLink RX12 1 Lib.objectInit ∈ x_gw := x_gm (List.mem_append_right _ (List.mem_of_getElem? (i := 804) (by decide +kernel))) rfl
theorem kl_X12_69 : Cond.constantLong RX12 69 (-9223372036854775808) ∈ x_gw := x_gm (List.mem_append_right _ (List.mem_of_getElem? (i := 1090) (by decide +kernel))) rfl
theorem ob_1 : Cond.instanceMethod Lib.objectInit ∈ x_gw := x_gm (List.mem_append_right _ (List.mem_of_getElem? (i := 23) (by decide +kernel))) rfl
theorem ob_2 : Cond.code Lib.objectInit ⟨#[0xb1]⟩ 1 none ∈ x_gw := x_gm (List.mem_append_right _ (List.mem_of_getElem? (i := 24) (by decide +kernel))) rfl
theorem jm_min_1 : Cond.static Lib.Math.min.name ∈ x_gw := x_gm (List.mem_append_right _ (List.mem_of_getElem? (i := 513) (by decide +kernel))) rfl
theorem jm_min_2 : Cond.code Lib.Math.min.name Lib.Math.min.code 2 (some .int) ∈ x_gw := x_gm (List.mem_append_right _ (List.mem_of_getElem? (i := 514) (by decide +kernel))) rfl
theorem jm_max_1 : Cond.static Lib.Math.max.name ∈ x_gw := x_gm (List.mem_append_right _ (List.mem_of_getElem? (i := 516) (by decide +kernel))) rfl
theorem jm_max_2 : Cond.code Lib.Math.max.name Lib.Math.max.code 2 (some .int) ∈ x_gw := x_gm (List.mem_append_right _ (List.mem_of_getElem? (i := 517) (by decide +kernel))) rfl
theorem jm_0 : Cond.initialized "java/lang/Math" ∈ x_gw := x_gm (List.mem_append_right _ (List.mem_of_getElem? (i := 14) (by decide +kernel))) rfl
theorem js_0 : Cond.initialized "java/lang/System" ∈ x_gw := x_gm (List.mem_append_right _ (List.mem_of_getElem? (i := 16) (by decide +kernel))) rfl
theorem js_1 : Cond.static arraycopyName ∈ x_gw := x_gm (List.mem_append_right _ (List.mem_of_getElem? (i := 735) (by decide +kernel))) rfl
theorem js_2 : Cond.native arraycopyName ∈ x_gw := x_gm (List.mem_append_right _ (List.mem_of_getElem? (i := 736) (by decide +kernel))) rfl
theorem ac_int : Cond.arrayClass .int ∈ x_gw := x_gm (List.mem_append_right _ (List.mem_of_getElem? (i := 47) (by decide +kernel))) rfl
theorem ac_long : Cond.arrayClass .long ∈ x_gw := x_gm (List.mem_append_right _ (List.mem_of_getElem? (i := 115) (by decide +kernel))) rfl
theorem ac_boolean : Cond.arrayClass .boolean ∈ x_gw := x_gm (List.mem_append_right _ (List.mem_of_getElem? (i := 902) (by decide +kernel))) rfl
end
