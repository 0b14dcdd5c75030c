section
-- ===== PART A: goes FIRST, ahead of the names: the tables' words, and 'selects' of the private methods out of them =====
/-- a private method of a class that the tables say can be made, by its rows of tables_1 -/
def lw_okq (q : MethodName × Nat) : Prop := (q.1.cls ≠ "java/lang/invoke/MethodHandle" ∧ q.1.cls ≠ "java/lang/invoke/VarHandle") ∧ Cond.instantiable q.1.cls q.2 ∈ tables_1 ∧ Cond.privateMethod q.1 ∈ tables_1 ∧ Cond.instanceMethod q.1 ∈ tables_1
theorem lw_p0 : lw_okq (⟨"ChannelRules", "isStillToBegin", "(I)Z"⟩, 7) := ⟨⟨by decide +kernel, by decide +kernel⟩, List.mem_of_getElem? (i := 14) (by decide +kernel), List.mem_of_getElem? (i := 179) (by decide +kernel), List.mem_of_getElem? (i := 180) (by decide +kernel)⟩
theorem lw_p1 : lw_okq (⟨"ChannelRules", "seekConflict", "(I)I"⟩, 7) := ⟨⟨by decide +kernel, by decide +kernel⟩, List.mem_of_getElem? (i := 14) (by decide +kernel), List.mem_of_getElem? (i := 196) (by decide +kernel), List.mem_of_getElem? (i := 197) (by decide +kernel)⟩
theorem lw_p2 : lw_okq (⟨"ChannelRules", "seekConflictOfPair", "(IIII)I"⟩, 7) := ⟨⟨by decide +kernel, by decide +kernel⟩, List.mem_of_getElem? (i := 14) (by decide +kernel), List.mem_of_getElem? (i := 200) (by decide +kernel), List.mem_of_getElem? (i := 201) (by decide +kernel)⟩
theorem lw_p3 : lw_okq (⟨"ChannelRules", "conflictWith", "(III)I"⟩, 7) := ⟨⟨by decide +kernel, by decide +kernel⟩, List.mem_of_getElem? (i := 14) (by decide +kernel), List.mem_of_getElem? (i := 204) (by decide +kernel), List.mem_of_getElem? (i := 205) (by decide +kernel)⟩
theorem lw_p4 : lw_okq (⟨"ChannelRules", "givenMark", "(I)I"⟩, 7) := ⟨⟨by decide +kernel, by decide +kernel⟩, List.mem_of_getElem? (i := 14) (by decide +kernel), List.mem_of_getElem? (i := 241) (by decide +kernel), List.mem_of_getElem? (i := 242) (by decide +kernel)⟩
theorem lw_p5 : lw_okq (⟨"java/lang/Throwable", "fillInStackTrace", "(I)Ljava/lang/Throwable;"⟩, 6) := ⟨⟨by decide +kernel, by decide +kernel⟩, List.mem_of_getElem? (i := 295) (by decide +kernel), List.mem_of_getElem? (i := 293) (by decide +kernel), List.mem_of_getElem? (i := 294) (by decide +kernel)⟩
theorem lw_p6 : lw_okq (⟨"ChannelRules", "isVoyage", "(III)Z"⟩, 7) := ⟨⟨by decide +kernel, by decide +kernel⟩, List.mem_of_getElem? (i := 14) (by decide +kernel), List.mem_of_getElem? (i := 367) (by decide +kernel), List.mem_of_getElem? (i := 368) (by decide +kernel)⟩
theorem lw_p7 : lw_okq (⟨"ChannelRules", "planRoute", "(III)Z"⟩, 7) := ⟨⟨by decide +kernel, by decide +kernel⟩, List.mem_of_getElem? (i := 14) (by decide +kernel), List.mem_of_getElem? (i := 377) (by decide +kernel), List.mem_of_getElem? (i := 378) (by decide +kernel)⟩
theorem lw_p8 : lw_okq (⟨"ChannelRules", "measureTimeLeft", "(II)V"⟩, 7) := ⟨⟨by decide +kernel, by decide +kernel⟩, List.mem_of_getElem? (i := 14) (by decide +kernel), List.mem_of_getElem? (i := 385) (by decide +kernel), List.mem_of_getElem? (i := 386) (by decide +kernel)⟩
theorem lw_p9 : lw_okq (⟨"ChannelRules", "fits", "(II)Z"⟩, 7) := ⟨⟨by decide +kernel, by decide +kernel⟩, List.mem_of_getElem? (i := 14) (by decide +kernel), List.mem_of_getElem? (i := 390) (by decide +kernel), List.mem_of_getElem? (i := 391) (by decide +kernel)⟩
theorem lw_p10 : lw_okq (⟨"ChannelRules", "travelTime", "(II)I"⟩, 7) := ⟨⟨by decide +kernel, by decide +kernel⟩, List.mem_of_getElem? (i := 14) (by decide +kernel), List.mem_of_getElem? (i := 394) (by decide +kernel), List.mem_of_getElem? (i := 395) (by decide +kernel)⟩
theorem lw_p11 : lw_okq (⟨"ChannelRules", "shortenBy", "(II)V"⟩, 7) := ⟨⟨by decide +kernel, by decide +kernel⟩, List.mem_of_getElem? (i := 14) (by decide +kernel), List.mem_of_getElem? (i := 398) (by decide +kernel), List.mem_of_getElem? (i := 399) (by decide +kernel)⟩
theorem lw_p12 : lw_okq (⟨"ChannelRules", "nextPiece", "(II)I"⟩, 7) := ⟨⟨by decide +kernel, by decide +kernel⟩, List.mem_of_getElem? (i := 14) (by decide +kernel), List.mem_of_getElem? (i := 405) (by decide +kernel), List.mem_of_getElem? (i := 406) (by decide +kernel)⟩
theorem lw_p13 : lw_okq (⟨"ChannelRules", "firstBar", "(I)I"⟩, 7) := ⟨⟨by decide +kernel, by decide +kernel⟩, List.mem_of_getElem? (i := 14) (by decide +kernel), List.mem_of_getElem? (i := 426) (by decide +kernel), List.mem_of_getElem? (i := 427) (by decide +kernel)⟩
theorem lw_p14 : lw_okq (⟨"ChannelRules", "barByPiece", "(II)I"⟩, 7) := ⟨⟨by decide +kernel, by decide +kernel⟩, List.mem_of_getElem? (i := 14) (by decide +kernel), List.mem_of_getElem? (i := 430) (by decide +kernel), List.mem_of_getElem? (i := 431) (by decide +kernel)⟩
theorem lw_p15 : lw_okq (⟨"ChannelRules", "isAgainstOneWay", "(II)Z"⟩, 7) := ⟨⟨by decide +kernel, by decide +kernel⟩, List.mem_of_getElem? (i := 14) (by decide +kernel), List.mem_of_getElem? (i := 434) (by decide +kernel), List.mem_of_getElem? (i := 435) (by decide +kernel)⟩
def lw_privs_1 : List (MethodName × Nat) := [(⟨"ChannelRules", "isStillToBegin", "(I)Z"⟩, 7), (⟨"ChannelRules", "seekConflict", "(I)I"⟩, 7), (⟨"ChannelRules", "seekConflictOfPair", "(IIII)I"⟩, 7), (⟨"ChannelRules", "conflictWith", "(III)I"⟩, 7), (⟨"ChannelRules", "givenMark", "(I)I"⟩, 7), (⟨"java/lang/Throwable", "fillInStackTrace", "(I)Ljava/lang/Throwable;"⟩, 6), (⟨"ChannelRules", "isVoyage", "(III)Z"⟩, 7), (⟨"ChannelRules", "planRoute", "(III)Z"⟩, 7), (⟨"ChannelRules", "measureTimeLeft", "(II)V"⟩, 7), (⟨"ChannelRules", "fits", "(II)Z"⟩, 7), (⟨"ChannelRules", "travelTime", "(II)I"⟩, 7), (⟨"ChannelRules", "shortenBy", "(II)V"⟩, 7), (⟨"ChannelRules", "nextPiece", "(II)I"⟩, 7), (⟨"ChannelRules", "firstBar", "(I)I"⟩, 7), (⟨"ChannelRules", "barByPiece", "(II)I"⟩, 7), (⟨"ChannelRules", "isAgainstOneWay", "(II)Z"⟩, 7)]
theorem lw_r1 : ∀ q ∈ lw_privs_1, lw_okq q := List.forall_mem_cons.mpr ⟨lw_p0, List.forall_mem_cons.mpr ⟨lw_p1, List.forall_mem_cons.mpr ⟨lw_p2, List.forall_mem_cons.mpr ⟨lw_p3, List.forall_mem_cons.mpr ⟨lw_p4, List.forall_mem_cons.mpr ⟨lw_p5, List.forall_mem_cons.mpr ⟨lw_p6, List.forall_mem_cons.mpr ⟨lw_p7, List.forall_mem_cons.mpr ⟨lw_p8, List.forall_mem_cons.mpr ⟨lw_p9, List.forall_mem_cons.mpr ⟨lw_p10, List.forall_mem_cons.mpr ⟨lw_p11, List.forall_mem_cons.mpr ⟨lw_p12, List.forall_mem_cons.mpr ⟨lw_p13, List.forall_mem_cons.mpr ⟨lw_p14, List.forall_mem_cons.mpr ⟨lw_p15, fun _ h => absurd h List.not_mem_nil⟩⟩⟩⟩⟩⟩⟩⟩⟩⟩⟩⟩⟩⟩⟩⟩
theorem lw_p16 : lw_okq (⟨"ChannelRules", "isBarredAtNight", "(II)Z"⟩, 7) := ⟨⟨by decide +kernel, by decide +kernel⟩, List.mem_of_getElem? (i := 14) (by decide +kernel), List.mem_of_getElem? (i := 438) (by decide +kernel), List.mem_of_getElem? (i := 439) (by decide +kernel)⟩
theorem lw_p17 : lw_okq (⟨"ChannelRules", "isBarredInWind", "(II)Z"⟩, 7) := ⟨⟨by decide +kernel, by decide +kernel⟩, List.mem_of_getElem? (i := 14) (by decide +kernel), List.mem_of_getElem? (i := 442) (by decide +kernel), List.mem_of_getElem? (i := 443) (by decide +kernel)⟩
theorem lw_p18 : lw_okq (⟨"ChannelRules", "barBySlots", "(II)I"⟩, 7) := ⟨⟨by decide +kernel, by decide +kernel⟩, List.mem_of_getElem? (i := 14) (by decide +kernel), List.mem_of_getElem? (i := 454) (by decide +kernel), List.mem_of_getElem? (i := 455) (by decide +kernel)⟩
theorem lw_p19 : lw_okq (⟨"ChannelRules", "planWait", "()I"⟩, 7) := ⟨⟨by decide +kernel, by decide +kernel⟩, List.mem_of_getElem? (i := 14) (by decide +kernel), List.mem_of_getElem? (i := 471) (by decide +kernel), List.mem_of_getElem? (i := 472) (by decide +kernel)⟩
theorem lw_p20 : lw_okq (⟨"ChannelRules", "planWaitByPiece", "(I)I"⟩, 7) := ⟨⟨by decide +kernel, by decide +kernel⟩, List.mem_of_getElem? (i := 14) (by decide +kernel), List.mem_of_getElem? (i := 475) (by decide +kernel), List.mem_of_getElem? (i := 476) (by decide +kernel)⟩
theorem lw_p21 : lw_okq (⟨"ChannelRules", "planWaitBySlots", "(I)I"⟩, 7) := ⟨⟨by decide +kernel, by decide +kernel⟩, List.mem_of_getElem? (i := 14) (by decide +kernel), List.mem_of_getElem? (i := 486) (by decide +kernel), List.mem_of_getElem? (i := 487) (by decide +kernel)⟩
theorem lw_p22 : lw_okq (⟨"ChannelRules", "planWaitFor", "(II)I"⟩, 7) := ⟨⟨by decide +kernel, by decide +kernel⟩, List.mem_of_getElem? (i := 14) (by decide +kernel), List.mem_of_getElem? (i := 490) (by decide +kernel), List.mem_of_getElem? (i := 491) (by decide +kernel)⟩
theorem lw_p23 : lw_okq (⟨"ChannelRules", "endSlotsOn", "(III)I"⟩, 7) := ⟨⟨by decide +kernel, by decide +kernel⟩, List.mem_of_getElem? (i := 14) (by decide +kernel), List.mem_of_getElem? (i := 515) (by decide +kernel), List.mem_of_getElem? (i := 516) (by decide +kernel)⟩
theorem lw_p24 : lw_okq (⟨"ChannelRulesModel", "fails", "(I)I"⟩, 24) := ⟨⟨by decide +kernel, by decide +kernel⟩, List.mem_of_getElem? (i := 551) (by decide +kernel), List.mem_of_getElem? (i := 644) (by decide +kernel), List.mem_of_getElem? (i := 645) (by decide +kernel)⟩
theorem lw_p25 : lw_okq (⟨"ChannelRulesModel", "isPiece", "(I)Z"⟩, 24) := ⟨⟨by decide +kernel, by decide +kernel⟩, List.mem_of_getElem? (i := 551) (by decide +kernel), List.mem_of_getElem? (i := 652) (by decide +kernel), List.mem_of_getElem? (i := 653) (by decide +kernel)⟩
theorem lw_p26 : lw_okq (⟨"ChannelRulesModel", "isShip", "(I)Z"⟩, 24) := ⟨⟨by decide +kernel, by decide +kernel⟩, List.mem_of_getElem? (i := 551) (by decide +kernel), List.mem_of_getElem? (i := 668) (by decide +kernel), List.mem_of_getElem? (i := 669) (by decide +kernel)⟩
theorem lw_p27 : lw_okq (⟨"ChannelRulesModel", "lays", "(III)Z"⟩, 24) := ⟨⟨by decide +kernel, by decide +kernel⟩, List.mem_of_getElem? (i := 551) (by decide +kernel), List.mem_of_getElem? (i := 672) (by decide +kernel), List.mem_of_getElem? (i := 673) (by decide +kernel)⟩
theorem lw_p28 : lw_okq (⟨"ChannelRulesModel", "timesTo", "(II)V"⟩, 24) := ⟨⟨by decide +kernel, by decide +kernel⟩, List.mem_of_getElem? (i := 551) (by decide +kernel), List.mem_of_getElem? (i := 676) (by decide +kernel), List.mem_of_getElem? (i := 677) (by decide +kernel)⟩
theorem lw_p29 : lw_okq (⟨"ChannelRulesModel", "takes", "(II)I"⟩, 24) := ⟨⟨by decide +kernel, by decide +kernel⟩, List.mem_of_getElem? (i := 551) (by decide +kernel), List.mem_of_getElem? (i := 681) (by decide +kernel), List.mem_of_getElem? (i := 682) (by decide +kernel)⟩
theorem lw_p30 : lw_okq (⟨"ChannelRulesModel", "next", "(II)I"⟩, 24) := ⟨⟨by decide +kernel, by decide +kernel⟩, List.mem_of_getElem? (i := 551) (by decide +kernel), List.mem_of_getElem? (i := 685) (by decide +kernel), List.mem_of_getElem? (i := 686) (by decide +kernel)⟩
theorem lw_p31 : lw_okq (⟨"ChannelRulesModel", "isPassage", "(IIII)Z"⟩, 24) := ⟨⟨by decide +kernel, by decide +kernel⟩, List.mem_of_getElem? (i := 551) (by decide +kernel), List.mem_of_getElem? (i := 693) (by decide +kernel), List.mem_of_getElem? (i := 694) (by decide +kernel)⟩
def lw_privs_2 : List (MethodName × Nat) := [(⟨"ChannelRules", "isBarredAtNight", "(II)Z"⟩, 7), (⟨"ChannelRules", "isBarredInWind", "(II)Z"⟩, 7), (⟨"ChannelRules", "barBySlots", "(II)I"⟩, 7), (⟨"ChannelRules", "planWait", "()I"⟩, 7), (⟨"ChannelRules", "planWaitByPiece", "(I)I"⟩, 7), (⟨"ChannelRules", "planWaitBySlots", "(I)I"⟩, 7), (⟨"ChannelRules", "planWaitFor", "(II)I"⟩, 7), (⟨"ChannelRules", "endSlotsOn", "(III)I"⟩, 7), (⟨"ChannelRulesModel", "fails", "(I)I"⟩, 24), (⟨"ChannelRulesModel", "isPiece", "(I)Z"⟩, 24), (⟨"ChannelRulesModel", "isShip", "(I)Z"⟩, 24), (⟨"ChannelRulesModel", "lays", "(III)Z"⟩, 24), (⟨"ChannelRulesModel", "timesTo", "(II)V"⟩, 24), (⟨"ChannelRulesModel", "takes", "(II)I"⟩, 24), (⟨"ChannelRulesModel", "next", "(II)I"⟩, 24), (⟨"ChannelRulesModel", "isPassage", "(IIII)Z"⟩, 24)]
theorem lw_r2 : ∀ q ∈ lw_privs_2, lw_okq q := List.forall_mem_cons.mpr ⟨lw_p16, List.forall_mem_cons.mpr ⟨lw_p17, List.forall_mem_cons.mpr ⟨lw_p18, List.forall_mem_cons.mpr ⟨lw_p19, List.forall_mem_cons.mpr ⟨lw_p20, List.forall_mem_cons.mpr ⟨lw_p21, List.forall_mem_cons.mpr ⟨lw_p22, List.forall_mem_cons.mpr ⟨lw_p23, List.forall_mem_cons.mpr ⟨lw_p24, List.forall_mem_cons.mpr ⟨lw_p25, List.forall_mem_cons.mpr ⟨lw_p26, List.forall_mem_cons.mpr ⟨lw_p27, List.forall_mem_cons.mpr ⟨lw_p28, List.forall_mem_cons.mpr ⟨lw_p29, List.forall_mem_cons.mpr ⟨lw_p30, List.forall_mem_cons.mpr ⟨lw_p31, fun _ h => absurd h List.not_mem_nil⟩⟩⟩⟩⟩⟩⟩⟩⟩⟩⟩⟩⟩⟩⟩⟩
theorem lw_p32 : lw_okq (⟨"ChannelRulesModel", "isTime", "(I)Z"⟩, 24) := ⟨⟨by decide +kernel, by decide +kernel⟩, List.mem_of_getElem? (i := 551) (by decide +kernel), List.mem_of_getElem? (i := 697) (by decide +kernel), List.mem_of_getElem? (i := 698) (by decide +kernel)⟩
theorem lw_p33 : lw_okq (⟨"ChannelRulesModel", "against", "(II)I"⟩, 24) := ⟨⟨by decide +kernel, by decide +kernel⟩, List.mem_of_getElem? (i := 551) (by decide +kernel), List.mem_of_getElem? (i := 702) (by decide +kernel), List.mem_of_getElem? (i := 703) (by decide +kernel)⟩
theorem lw_p34 : lw_okq (⟨"ChannelRulesModel", "barred", "(II)I"⟩, 24) := ⟨⟨by decide +kernel, by decide +kernel⟩, List.mem_of_getElem? (i := 551) (by decide +kernel), List.mem_of_getElem? (i := 706) (by decide +kernel), List.mem_of_getElem? (i := 707) (by decide +kernel)⟩
theorem lw_p35 : lw_okq (⟨"ChannelRulesModel", "enters", "(II)I"⟩, 24) := ⟨⟨by decide +kernel, by decide +kernel⟩, List.mem_of_getElem? (i := 551) (by decide +kernel), List.mem_of_getElem? (i := 710) (by decide +kernel), List.mem_of_getElem? (i := 711) (by decide +kernel)⟩
theorem lw_p36 : lw_okq (⟨"ChannelRulesModel", "leaves", "(II)I"⟩, 24) := ⟨⟨by decide +kernel, by decide +kernel⟩, List.mem_of_getElem? (i := 551) (by decide +kernel), List.mem_of_getElem? (i := 714) (by decide +kernel), List.mem_of_getElem? (i := 715) (by decide +kernel)⟩
theorem lw_p37 : lw_okq (⟨"ChannelRulesModel", "with", "(III)I"⟩, 24) := ⟨⟨by decide +kernel, by decide +kernel⟩, List.mem_of_getElem? (i := 551) (by decide +kernel), List.mem_of_getElem? (i := 721) (by decide +kernel), List.mem_of_getElem? (i := 722) (by decide +kernel)⟩
theorem lw_p38 : lw_okq (⟨"ChannelRulesModel", "between", "(IIII)I"⟩, 24) := ⟨⟨by decide +kernel, by decide +kernel⟩, List.mem_of_getElem? (i := 551) (by decide +kernel), List.mem_of_getElem? (i := 725) (by decide +kernel), List.mem_of_getElem? (i := 726) (by decide +kernel)⟩
theorem lw_p39 : lw_okq (⟨"ChannelRulesModel", "isSlot", "(I)Z"⟩, 24) := ⟨⟨by decide +kernel, by decide +kernel⟩, List.mem_of_getElem? (i := 551) (by decide +kernel), List.mem_of_getElem? (i := 737) (by decide +kernel), List.mem_of_getElem? (i := 738) (by decide +kernel)⟩
theorem lw_p40 : lw_okq (⟨"ChannelRulesModel", "conflicts", "(II)I"⟩, 24) := ⟨⟨by decide +kernel, by decide +kernel⟩, List.mem_of_getElem? (i := 551) (by decide +kernel), List.mem_of_getElem? (i := 757) (by decide +kernel), List.mem_of_getElem? (i := 758) (by decide +kernel)⟩
def lw_privs_3 : List (MethodName × Nat) := [(⟨"ChannelRulesModel", "isTime", "(I)Z"⟩, 24), (⟨"ChannelRulesModel", "against", "(II)I"⟩, 24), (⟨"ChannelRulesModel", "barred", "(II)I"⟩, 24), (⟨"ChannelRulesModel", "enters", "(II)I"⟩, 24), (⟨"ChannelRulesModel", "leaves", "(II)I"⟩, 24), (⟨"ChannelRulesModel", "with", "(III)I"⟩, 24), (⟨"ChannelRulesModel", "between", "(IIII)I"⟩, 24), (⟨"ChannelRulesModel", "isSlot", "(I)Z"⟩, 24), (⟨"ChannelRulesModel", "conflicts", "(II)I"⟩, 24)]
theorem lw_r3 : ∀ q ∈ lw_privs_3, lw_okq q := List.forall_mem_cons.mpr ⟨lw_p32, List.forall_mem_cons.mpr ⟨lw_p33, List.forall_mem_cons.mpr ⟨lw_p34, List.forall_mem_cons.mpr ⟨lw_p35, List.forall_mem_cons.mpr ⟨lw_p36, List.forall_mem_cons.mpr ⟨lw_p37, List.forall_mem_cons.mpr ⟨lw_p38, List.forall_mem_cons.mpr ⟨lw_p39, List.forall_mem_cons.mpr ⟨lw_p40, fun _ h => absurd h List.not_mem_nil⟩⟩⟩⟩⟩⟩⟩⟩⟩
def lw_privs : List (MethodName × Nat) := lw_privs_1 ++ (lw_privs_2 ++ (lw_privs_3))
def lw_tbl : List Cond := k2_sels lw_privs ++ tables_1
theorem lw_privs_ok : ∀ q ∈ lw_privs, lw_okq q := by
  show ∀ q ∈ lw_privs_1 ++ (lw_privs_2 ++ (lw_privs_3)), lw_okq q
  exact List.forall_mem_append.mpr ⟨lw_r1, List.forall_mem_append.mpr ⟨lw_r2, lw_r3⟩⟩
end
section
/-- the words that stay, whatever is linked on the way -/
def twk : Cond → Bool
  | .arrayClass _ => true
  | .methodLinkNest .. => true
  | .declares _ => true
  | .privateMethod _ => true
  | .castable .. => true
  | w => w.onTables && w.keeps
def tws : List Cond := lw_tbl.filter twk
theorem tb_0 {w : Cond} (h : w ∈ k2_sels lw_privs) (g : twk w = true) : w ∈ tws := List.mem_filter.mpr ⟨List.mem_append_left _ h, g⟩
theorem tb_1 {w : Cond} (h : w ∈ tables_1_1) (g : twk w = true) : w ∈ tws := List.mem_filter.mpr ⟨List.mem_append_right _ (List.mem_append_left _ h), g⟩
theorem tb_2 {w : Cond} (h : w ∈ tables_1_2) (g : twk w = true) : w ∈ tws := List.mem_filter.mpr ⟨List.mem_append_right _ (List.mem_append_right _ (List.mem_append_left _ h)), g⟩
theorem tb_3 {w : Cond} (h : w ∈ tables_1_3) (g : twk w = true) : w ∈ tws := List.mem_filter.mpr ⟨List.mem_append_right _ (List.mem_append_right _ (List.mem_append_right _ (List.mem_append_left _ h))), g⟩
theorem tb_4 {w : Cond} (h : w ∈ tables_1_4) (g : twk w = true) : w ∈ tws := List.mem_filter.mpr ⟨List.mem_append_right _ (List.mem_append_right _ (List.mem_append_right _ (List.mem_append_right _ h))), g⟩
theorem tw_word {args args' : Array Value} {s U : State} (hW : s.WarmedH U.vm) {w : Cond} (hk : twk w = true) (h : w.before args s = true) : w.before args' U = true := by
  by_cases hg : goodWord w = true
  · exact word_at hW (good_of_word hg) h
  · have face : ∀ c : Cond, c.keepsFace = true → c.onTables = true → c.before args s = true → c.before args' U = true := by
      intro c h1 h2 h3
      have h4 := Cond.before_shiftedFace (State.Shifted.of_warmed hW) c h1 h3
      have h5 := Cond.onTables_vm (A := args) (A' := args') (U := s) (U' := U) U.vm c h2
      rw [State.setVm_self] at h5
      rw [← h5]
      exact h4
    cases w with
    | arrayClass ty => exact word_at hW (Or.inr ⟨ty, rfl⟩) h
    | methodLinkNest a i x hh => exact va_Nw.use rfl (va_Nw.warmM hW (va_Nw.of rfl h))
    | declares x => exact face _ rfl rfl h
    | privateMethod x => exact face _ rfl rfl h
    | castable a b => exact face _ rfl rfl h
    | _ => exact absurd hk hg
theorem tw_warm {args args' : Array Value} {s U : State} (hW : s.WarmedH U.vm) (h : ∀ w ∈ tws, w.before args s = true) : ∀ w ∈ tws, w.before args' U = true := fun w hw => tw_word hW (List.mem_filter.mp hw).2 (h w hw)
theorem tw_same {args args' : Array Value} {s U : State} (hv : U.vm = s.vm) (h : ∀ w ∈ tws, w.before args s = true) : ∀ w ∈ tws, w.before args' U = true := by
  intro w hw
  have h1 := h w hw
  have hk := (List.mem_filter.mp hw).2
  have key : ∀ c : Cond, c.onTables = true → c.before args s = true → c.before args' U = true := by
    intro c h2 h3
    have h5 := Cond.onTables_vm (A := args) (A' := args') (U := s) (U' := U) s.vm c h2
    rw [State.setVm_self] at h5
    rw [← hv, State.setVm_self] at h5
    rw [← h5]
    exact h3
  by_cases hg : w.onTables = true
  · exact key w hg h1
  · cases w with
    | arrayClass ty =>
      simp only [Cond.before, Cond.holds, Cond.value] at h1 ⊢
      rw [hv]
      exact h1
    | _ => first | exact absurd rfl hg | (simp [twk, hg] at hk; done) | (exfalso; apply hg; simp [twk] at hk; exact hk.1)

def R_ps : String := "ChannelRules$Passages"
def T_ps : u_T := fun k => match k with
  | 0 => ("ChannelRules$Passages", "slots", "I", false)
  | 1 => ("ChannelRules$Passages", "given", "[Z", true)
  | 2 => ("ChannelRules$Passages", "ship", "[I", true)
  | 3 => ("ChannelRules$Passages", "begin", "[I", true)
  | 4 => ("ChannelRules$Passages", "stays", "[I", true)
  | 5 => ("ChannelRules$Passages", "pieceOfStay", "[I", true)
  | 6 => ("ChannelRules$Passages", "forward", "[Z", true)
  | 7 => ("ChannelRules$Passages", "offset", "[I", true)
  | _ => ("ChannelRules$Passages", "stayMark", "[I", true)
def ty_ps : Nat → FieldType := fun k => match k with
  | 0 => .int
  | 1 => .array .boolean
  | 2 => .array .int
  | 3 => .array .int
  | 4 => .array .int
  | 5 => .array .int
  | 6 => .array .boolean
  | 7 => .array .int
  | _ => .array .int
theorem nm_ps : ∀ a, a < 9 → ∀ b, b < 9 → a ≠ b → (T_ps a).2.1 ≠ (T_ps b).2.1 := by decide +kernel
theorem ty_ps_ok : ∀ k, k < 9 → parseFieldDescriptor (T_ps k).2.2.1 = some (ty_ps k) := by decide +kernel
set_option maxRecDepth 20000 in
theorem inl_ps : ∀ w ∈ u_ws R_ps T_ps 9, w ∈ lw_tbl := by decide +kernel
theorem in_ps : ∀ w ∈ u_ws R_ps T_ps 9, w ∈ tws := fun w h => List.mem_filter.mpr ⟨inl_ps w h, List.all_eq_true.mp (show (u_ws R_ps T_ps 9).all twk = true by decide +kernel) w h⟩
def R_pc : String := "ChannelRules$Pieces"
def T_pc : u_T := fun k => match k with
  | 0 => ("ChannelRules$Pieces", "made", "I", false)
  | 1 => ("ChannelRules$Pieces", "first", "[I", true)
  | 2 => ("ChannelRules$Pieces", "second", "[I", true)
  | 3 => ("ChannelRules$Pieces", "length", "[I", true)
  | 4 => ("ChannelRules$Pieces", "width", "[I", true)
  | 5 => ("ChannelRules$Pieces", "rules", "[I", true)
  | 6 => ("ChannelRules$Pieces", "spans", "[I", true)
  | 7 => ("ChannelRules$Pieces", "spanFrom", "[I", true)
  | _ => ("ChannelRules$Pieces", "spanTo", "[I", true)
def ty_pc : Nat → FieldType := fun k => match k with
  | 0 => .int
  | 1 => .array .int
  | 2 => .array .int
  | 3 => .array .int
  | 4 => .array .int
  | 5 => .array .int
  | 6 => .array .int
  | 7 => .array .int
  | _ => .array .int
theorem nm_pc : ∀ a, a < 9 → ∀ b, b < 9 → a ≠ b → (T_pc a).2.1 ≠ (T_pc b).2.1 := by decide +kernel
theorem ty_pc_ok : ∀ k, k < 9 → parseFieldDescriptor (T_pc k).2.2.1 = some (ty_pc k) := by decide +kernel
set_option maxRecDepth 20000 in
theorem inl_pc : ∀ w ∈ u_ws R_pc T_pc 9, w ∈ lw_tbl := by decide +kernel
theorem in_pc : ∀ w ∈ u_ws R_pc T_pc 9, w ∈ tws := fun w h => List.mem_filter.mpr ⟨inl_pc w h, List.all_eq_true.mp (show (u_ws R_pc T_pc 9).all twk = true by decide +kernel) w h⟩
def R_sh : String := "ChannelRules$Ships"
def T_sh : u_T := fun k => match k with
  | 0 => ("ChannelRules$Ships", "made", "I", false)
  | 1 => ("ChannelRules$Ships", "width", "[I", true)
  | 2 => ("ChannelRules$Ships", "speed", "[I", true)
  | _ => ("ChannelRules$Ships", "cls", "[I", true)
def ty_sh : Nat → FieldType := fun k => match k with
  | 0 => .int
  | 1 => .array .int
  | 2 => .array .int
  | _ => .array .int
theorem nm_sh : ∀ a, a < 4 → ∀ b, b < 4 → a ≠ b → (T_sh a).2.1 ≠ (T_sh b).2.1 := by decide +kernel
theorem ty_sh_ok : ∀ k, k < 4 → parseFieldDescriptor (T_sh k).2.2.1 = some (ty_sh k) := by decide +kernel
set_option maxRecDepth 20000 in
theorem inl_sh : ∀ w ∈ u_ws R_sh T_sh 4, w ∈ lw_tbl := by decide +kernel
theorem in_sh : ∀ w ∈ u_ws R_sh T_sh 4, w ∈ tws := fun w h => List.mem_filter.mpr ⟨inl_sh w h, List.all_eq_true.mp (show (u_ws R_sh T_sh 4).all twk = true by decide +kernel) w h⟩
def R_cr : String := "ChannelRules"
def T_cr : u_T := fun k => match k with
  | 0 => ("ChannelRules", "pieces", "LChannelRules$Pieces;", true)
  | 1 => ("ChannelRules", "ships", "LChannelRules$Ships;", true)
  | 2 => ("ChannelRules", "passages", "LChannelRules$Passages;", true)
  | 3 => ("ChannelRules", "timeLeft", "[I", true)
  | 4 => ("ChannelRules", "foundConflict", "[I", true)
  | 5 => ("ChannelRules", "windy", "Z", false)
  | _ => ("ChannelRules", "now", "I", false)
def ty_cr : Nat → FieldType := fun k => match k with
  | 0 => .object "ChannelRules$Pieces"
  | 1 => .object "ChannelRules$Ships"
  | 2 => .object "ChannelRules$Passages"
  | 3 => .array .int
  | 4 => .array .int
  | 5 => .boolean
  | _ => .int
theorem nm_cr : ∀ a, a < 7 → ∀ b, b < 7 → a ≠ b → (T_cr a).2.1 ≠ (T_cr b).2.1 := by decide +kernel
theorem ty_cr_ok : ∀ k, k < 7 → parseFieldDescriptor (T_cr k).2.2.1 = some (ty_cr k) := by decide +kernel
set_option maxRecDepth 20000 in
theorem inl_cr : ∀ w ∈ u_ws R_cr T_cr 7, w ∈ lw_tbl := by decide +kernel
theorem in_cr : ∀ w ∈ u_ws R_cr T_cr 7, w ∈ tws := fun w h => List.mem_filter.mpr ⟨inl_cr w h, List.all_eq_true.mp (show (u_ws R_cr T_cr 7).all twk = true by decide +kernel) w h⟩
def R_md : String := "ChannelRulesModel"
def T_md : u_T := fun k => match k with
  | 0 => ("ChannelRulesModel", "thrown", "I", false)
  | 1 => ("ChannelRulesModel", "pieces", "I", false)
  | 2 => ("ChannelRulesModel", "first", "[I", true)
  | 3 => ("ChannelRulesModel", "second", "[I", true)
  | 4 => ("ChannelRulesModel", "length", "[I", true)
  | 5 => ("ChannelRulesModel", "wide", "[I", true)
  | 6 => ("ChannelRulesModel", "rules", "[I", true)
  | 7 => ("ChannelRulesModel", "spans", "[I", true)
  | 8 => ("ChannelRulesModel", "spanFrom", "[I", true)
  | 9 => ("ChannelRulesModel", "spanTo", "[I", true)
  | 10 => ("ChannelRulesModel", "ships", "I", false)
  | 11 => ("ChannelRulesModel", "width", "[I", true)
  | 12 => ("ChannelRulesModel", "speed", "[I", true)
  | 13 => ("ChannelRulesModel", "cls", "[I", true)
  | 14 => ("ChannelRulesModel", "wind", "Z", false)
  | 15 => ("ChannelRulesModel", "now", "I", false)
  | 16 => ("ChannelRulesModel", "slots", "I", false)
  | 17 => ("ChannelRulesModel", "slotShip", "[I", true)
  | 18 => ("ChannelRulesModel", "begins", "[I", true)
  | 19 => ("ChannelRulesModel", "given", "[Z", true)
  | 20 => ("ChannelRulesModel", "stays", "[I", true)
  | 21 => ("ChannelRulesModel", "stayPiece", "[I", true)
  | 22 => ("ChannelRulesModel", "stayForward", "[I", true)
  | _ => ("ChannelRulesModel", "far", "[I", true)
def ty_md : Nat → FieldType := fun k => match k with
  | 0 => .int
  | 1 => .int
  | 2 => .array .int
  | 3 => .array .int
  | 4 => .array .int
  | 5 => .array .int
  | 6 => .array .int
  | 7 => .array .int
  | 8 => .array .int
  | 9 => .array .int
  | 10 => .int
  | 11 => .array .int
  | 12 => .array .int
  | 13 => .array .int
  | 14 => .boolean
  | 15 => .int
  | 16 => .int
  | 17 => .array .int
  | 18 => .array .int
  | 19 => .array .boolean
  | 20 => .array .int
  | 21 => .array .int
  | 22 => .array .int
  | _ => .array .int
theorem nm_md : ∀ a, a < 24 → ∀ b, b < 24 → a ≠ b → (T_md a).2.1 ≠ (T_md b).2.1 := by decide +kernel
theorem ty_md_ok : ∀ k, k < 24 → parseFieldDescriptor (T_md k).2.2.1 = some (ty_md k) := by decide +kernel
set_option maxRecDepth 20000 in
theorem inl_md : ∀ w ∈ u_ws R_md T_md 24, w ∈ lw_tbl := by decide +kernel
theorem in_md : ∀ w ∈ u_ws R_md T_md 24, w ∈ tws := fun w h => List.mem_filter.mpr ⟨inl_md w h, List.all_eq_true.mp (show (u_ws R_md T_md 24).all twk = true by decide +kernel) w h⟩
abbrev cls_all : List vw_C := [(R_ps, T_ps, 9), (R_pc, T_pc, 9), (R_sh, T_sh, 4), (R_cr, T_cr, 7), (R_md, T_md, 24)]
def R_lw : String := "ChannelRulesLaw"
abbrev b_cr_init : ByteArray := prog_1_method_1_code
abbrev y_cr_init : MethodName := ⟨"ChannelRules", "<init>", "()V"⟩
abbrev b_pc_init : ByteArray := prog_3_method_1_code
abbrev y_pc_init : MethodName := ⟨"ChannelRules$Pieces", "<init>", "()V"⟩
abbrev b_sh_init : ByteArray := prog_4_method_1_code
abbrev y_sh_init : MethodName := ⟨"ChannelRules$Ships", "<init>", "()V"⟩
abbrev b_ps_init : ByteArray := prog_2_method_1_code
abbrev y_ps_init : MethodName := ⟨"ChannelRules$Passages", "<init>", "()V"⟩
abbrev b_cr_rule : ByteArray := prog_1_method_3_code
abbrev y_cr_rule : MethodName := ⟨"ChannelRules", "rule", "(III)Z"⟩
abbrev b_pc_has : ByteArray := prog_3_method_2_code
abbrev y_pc_has : MethodName := ⟨"ChannelRules$Pieces", "has", "(I)Z"⟩
abbrev b_cr_isWithin : ByteArray := prog_1_method_17_code
abbrev y_cr_isWithin : MethodName := ⟨"ChannelRules", "isWithin", "(III)Z"⟩
abbrev b_pc_setRule : ByteArray := prog_3_method_6_code
abbrev y_pc_setRule : MethodName := ⟨"ChannelRules$Pieces", "setRule", "(III)V"⟩
abbrev b_cr_wind : ByteArray := prog_1_method_4_code
abbrev y_cr_wind : MethodName := ⟨"ChannelRules", "wind", "(Z)Z"⟩
abbrev b_cr_back : ByteArray := prog_1_method_10_code
abbrev y_cr_back : MethodName := ⟨"ChannelRules", "back", "(I)Z"⟩
abbrev b_ps_hasSlot : ByteArray := prog_2_method_2_code
abbrev y_ps_hasSlot : MethodName := ⟨"ChannelRules$Passages", "hasSlot", "(I)Z"⟩
abbrev b_cr_isStillToBegin : ByteArray := prog_1_method_20_code
abbrev y_cr_isStillToBegin : MethodName := ⟨"ChannelRules", "isStillToBegin", "(I)Z"⟩
abbrev b_cr_tick : ByteArray := prog_1_method_12_code
abbrev y_cr_tick : MethodName := ⟨"ChannelRules", "tick", "(I)Z"⟩
abbrev b_cr_count : ByteArray := prog_1_method_15_code
abbrev y_cr_count : MethodName := ⟨"ChannelRules", "count", "(I)I"⟩
abbrev b_ps_givenSlots : ByteArray := prog_2_method_3_code
abbrev y_ps_givenSlots : MethodName := ⟨"ChannelRules$Passages", "givenSlots", "()I"⟩
abbrev b_cr_seekConflict : ByteArray := prog_1_method_41_code
abbrev y_cr_seekConflict : MethodName := ⟨"ChannelRules", "seekConflict", "(I)I"⟩
abbrev b_cr_seekConflictOfPair : ByteArray := prog_1_method_42_code
abbrev y_cr_seekConflictOfPair : MethodName := ⟨"ChannelRules", "seekConflictOfPair", "(IIII)I"⟩
abbrev b_cr_conflictWith : ByteArray := prog_1_method_34_code
abbrev y_cr_conflictWith : MethodName := ⟨"ChannelRules", "conflictWith", "(III)I"⟩
abbrev b_ps_pieceOf : ByteArray := prog_2_method_4_code
abbrev y_ps_pieceOf : MethodName := ⟨"ChannelRules$Passages", "pieceOf", "(II)I"⟩
abbrev b_ps_stayOn : ByteArray := prog_2_method_8_code
abbrev y_ps_stayOn : MethodName := ⟨"ChannelRules$Passages", "stayOn", "(II)I"⟩
abbrev b_ps_entersAt : ByteArray := prog_2_method_6_code
abbrev y_ps_entersAt : MethodName := ⟨"ChannelRules$Passages", "entersAt", "(II)I"⟩
abbrev b_ps_leavesAt : ByteArray := prog_2_method_7_code
abbrev y_ps_leavesAt : MethodName := ⟨"ChannelRules$Passages", "leavesAt", "(II)I"⟩
abbrev b_cr_shareMinute : ByteArray := prog_1_method_21_code
abbrev y_cr_shareMinute : MethodName := ⟨"ChannelRules", "shareMinute", "(IIII)Z"⟩
abbrev b_ps_isForward : ByteArray := prog_2_method_5_code
abbrev y_ps_isForward : MethodName := ⟨"ChannelRules$Passages", "isForward", "(II)Z"⟩
abbrev b_pc_ruleOf : ByteArray := prog_3_method_5_code
abbrev y_pc_ruleOf : MethodName := ⟨"ChannelRules$Pieces", "ruleOf", "(II)I"⟩
abbrev b_ps_isOvertaking : ByteArray := prog_2_method_9_code
abbrev y_ps_isOvertaking : MethodName := ⟨"ChannelRules$Passages", "isOvertaking", "(IIII)Z"⟩
abbrev b_cr_givenMark : ByteArray := prog_1_method_16_code
abbrev y_cr_givenMark : MethodName := ⟨"ChannelRules", "givenMark", "(I)I"⟩
abbrev b_lw_piece : ByteArray := method_3_code
abbrev y_lw_piece : MethodName := ⟨"ChannelRulesLaw", "piece", "(LChannelRules;IIII[J)I"⟩
abbrev b_cr_piece : ByteArray := prog_1_method_2_code
abbrev y_cr_piece : MethodName := ⟨"ChannelRules", "piece", "(IIII)I"⟩
abbrev b_cr_isPoint : ByteArray := prog_1_method_18_code
abbrev y_cr_isPoint : MethodName := ⟨"ChannelRules", "isPoint", "(I)Z"⟩
abbrev b_pc_add : ByteArray := prog_3_method_3_code
abbrev y_pc_add : MethodName := ⟨"ChannelRules$Pieces", "add", "(IIII)I"⟩
abbrev b_lw_ship : ByteArray := method_4_code
abbrev y_lw_ship : MethodName := ⟨"ChannelRulesLaw", "ship", "(LChannelRules;III[J)I"⟩
abbrev b_cr_ship : ByteArray := prog_1_method_5_code
abbrev y_cr_ship : MethodName := ⟨"ChannelRules", "ship", "(III)I"⟩
abbrev b_sh_add : ByteArray := prog_4_method_3_code
abbrev y_sh_add : MethodName := ⟨"ChannelRules$Ships", "add", "(III)I"⟩
abbrev b_lw_route : ByteArray := method_5_code
abbrev y_lw_route : MethodName := ⟨"ChannelRulesLaw", "route", "(LChannelRules;IIII[J)I"⟩
abbrev b_cr_route : ByteArray := prog_1_method_6_code
abbrev y_cr_route : MethodName := ⟨"ChannelRules", "route", "(IIII)I"⟩
abbrev b_cr_isVoyage : ByteArray := prog_1_method_19_code
abbrev y_cr_isVoyage : MethodName := ⟨"ChannelRules", "isVoyage", "(III)Z"⟩
abbrev b_sh_has : ByteArray := prog_4_method_2_code
abbrev y_sh_has : MethodName := ⟨"ChannelRules$Ships", "has", "(I)Z"⟩
abbrev b_cr_planRoute : ByteArray := prog_1_method_22_code
abbrev y_cr_planRoute : MethodName := ⟨"ChannelRules", "planRoute", "(III)Z"⟩
abbrev b_ps_startPlan : ByteArray := prog_2_method_10_code
abbrev y_ps_startPlan : MethodName := ⟨"ChannelRules$Passages", "startPlan", "(I)V"⟩
abbrev b_cr_measureTimeLeft : ByteArray := prog_1_method_23_code
abbrev y_cr_measureTimeLeft : MethodName := ⟨"ChannelRules", "measureTimeLeft", "(II)V"⟩
abbrev b_cr_fits : ByteArray := prog_1_method_26_code
abbrev y_cr_fits : MethodName := ⟨"ChannelRules", "fits", "(II)Z"⟩
abbrev b_cr_travelTime : ByteArray := prog_1_method_27_code
abbrev y_cr_travelTime : MethodName := ⟨"ChannelRules", "travelTime", "(II)I"⟩
abbrev b_cr_shortenBy : ByteArray := prog_1_method_24_code
abbrev y_cr_shortenBy : MethodName := ⟨"ChannelRules", "shortenBy", "(II)V"⟩
abbrev b_cr_nextPiece : ByteArray := prog_1_method_25_code
abbrev y_cr_nextPiece : MethodName := ⟨"ChannelRules", "nextPiece", "(II)I"⟩
abbrev b_pc_otherEnd : ByteArray := prog_3_method_4_code
abbrev y_pc_otherEnd : MethodName := ⟨"ChannelRules$Pieces", "otherEnd", "(II)I"⟩
abbrev b_ps_addStay : ByteArray := prog_2_method_11_code
abbrev y_ps_addStay : MethodName := ⟨"ChannelRules$Passages", "addStay", "(IZI)V"⟩
abbrev b_lw_ask : ByteArray := method_6_code
abbrev y_lw_ask : MethodName := ⟨"ChannelRulesLaw", "ask", "(LChannelRules;IIII[J)I"⟩
abbrev b_cr_ask : ByteArray := prog_1_method_7_code
abbrev y_cr_ask : MethodName := ⟨"ChannelRules", "ask", "(IIII)I"⟩
abbrev b_cr_firstBar : ByteArray := prog_1_method_28_code
abbrev y_cr_firstBar : MethodName := ⟨"ChannelRules", "firstBar", "(I)I"⟩
abbrev b_cr_barByPiece : ByteArray := prog_1_method_29_code
abbrev y_cr_barByPiece : MethodName := ⟨"ChannelRules", "barByPiece", "(II)I"⟩
abbrev b_cr_isAgainstOneWay : ByteArray := prog_1_method_30_code
abbrev y_cr_isAgainstOneWay : MethodName := ⟨"ChannelRules", "isAgainstOneWay", "(II)Z"⟩
abbrev b_cr_isBarredAtNight : ByteArray := prog_1_method_31_code
abbrev y_cr_isBarredAtNight : MethodName := ⟨"ChannelRules", "isBarredAtNight", "(II)Z"⟩
abbrev b_cr_isBarredInWind : ByteArray := prog_1_method_32_code
abbrev y_cr_isBarredInWind : MethodName := ⟨"ChannelRules", "isBarredInWind", "(II)Z"⟩
abbrev b_pc_closedFor : ByteArray := prog_3_method_8_code
abbrev y_pc_closedFor : MethodName := ⟨"ChannelRules$Pieces", "closedFor", "(III)I"⟩
abbrev b_cr_barBySlots : ByteArray := prog_1_method_33_code
abbrev y_cr_barBySlots : MethodName := ⟨"ChannelRules", "barBySlots", "(II)I"⟩
abbrev b_ps_giveSlot : ByteArray := prog_2_method_12_code
abbrev y_ps_giveSlot : MethodName := ⟨"ChannelRules$Passages", "giveSlot", "()I"⟩
abbrev b_lw_earliest : ByteArray := method_7_code
abbrev y_lw_earliest : MethodName := ⟨"ChannelRulesLaw", "earliest", "(LChannelRules;IIII[J)I"⟩
abbrev b_cr_earliest : ByteArray := prog_1_method_8_code
abbrev y_cr_earliest : MethodName := ⟨"ChannelRules", "earliest", "(IIII)I"⟩
abbrev b_cr_planWait : ByteArray := prog_1_method_35_code
abbrev y_cr_planWait : MethodName := ⟨"ChannelRules", "planWait", "()I"⟩
abbrev b_cr_planWaitByPiece : ByteArray := prog_1_method_36_code
abbrev y_cr_planWaitByPiece : MethodName := ⟨"ChannelRules", "planWaitByPiece", "(I)I"⟩
abbrev b_cr_minutesToMorning : ByteArray := prog_1_method_37_code
abbrev y_cr_minutesToMorning : MethodName := ⟨"ChannelRules", "minutesToMorning", "(I)I"⟩
abbrev b_cr_planWaitBySlots : ByteArray := prog_1_method_38_code
abbrev y_cr_planWaitBySlots : MethodName := ⟨"ChannelRules", "planWaitBySlots", "(I)I"⟩
abbrev b_cr_planWaitFor : ByteArray := prog_1_method_39_code
abbrev y_cr_planWaitFor : MethodName := ⟨"ChannelRules", "planWaitFor", "(II)I"⟩
abbrev b_lw_change : ByteArray := method_8_code
abbrev y_lw_change : MethodName := ⟨"ChannelRulesLaw", "change", "(LChannelRules;II[J)I"⟩
abbrev b_cr_change : ByteArray := prog_1_method_9_code
abbrev y_cr_change : MethodName := ⟨"ChannelRules", "change", "(II)I"⟩
abbrev b_lw_close : ByteArray := method_9_code
abbrev y_lw_close : MethodName := ⟨"ChannelRulesLaw", "close", "(LChannelRules;III[J)I"⟩
abbrev b_cr_close : ByteArray := prog_1_method_11_code
abbrev y_cr_close : MethodName := ⟨"ChannelRules", "close", "(III)I"⟩
abbrev b_pc_addSpan : ByteArray := prog_3_method_7_code
abbrev y_pc_addSpan : MethodName := ⟨"ChannelRules$Pieces", "addSpan", "(III)V"⟩
abbrev b_cr_endSlotsOn : ByteArray := prog_1_method_40_code
abbrev y_cr_endSlotsOn : MethodName := ⟨"ChannelRules", "endSlotsOn", "(III)I"⟩
abbrev b_lw_conflict : ByteArray := method_10_code
abbrev y_lw_conflict : MethodName := ⟨"ChannelRulesLaw", "conflict", "(LChannelRules;II[J)I"⟩
abbrev b_cr_conflict : ByteArray := prog_1_method_13_code
abbrev y_cr_conflict : MethodName := ⟨"ChannelRules", "conflict", "(II)I"⟩
abbrev b_lw_at : ByteArray := method_11_code
abbrev y_lw_at : MethodName := ⟨"ChannelRulesLaw", "at", "(LChannelRules;III[J)I"⟩
abbrev b_cr_at : ByteArray := prog_1_method_14_code
abbrev y_cr_at : MethodName := ⟨"ChannelRules", "at", "(III)I"⟩
abbrev b_md_init : ByteArray := prog_6_method_1_code
abbrev y_md_init : MethodName := ⟨"ChannelRulesModel", "<init>", "()V"⟩
abbrev b_md_thrown : ByteArray := prog_6_method_2_code
abbrev y_md_thrown : MethodName := ⟨"ChannelRulesModel", "thrown", "()I"⟩
abbrev b_md_piece : ByteArray := prog_6_method_10_code
abbrev y_md_piece : MethodName := ⟨"ChannelRulesModel", "piece", "(IIII)I"⟩
abbrev b_md_isPoint : ByteArray := prog_6_method_5_code
abbrev y_md_isPoint : MethodName := ⟨"ChannelRulesModel", "isPoint", "(I)Z"⟩
abbrev b_md_in : ByteArray := prog_6_method_4_code
abbrev y_md_in : MethodName := ⟨"ChannelRulesModel", "in", "(III)Z"⟩
abbrev b_md_fails : ByteArray := prog_6_method_3_code
abbrev y_md_fails : MethodName := ⟨"ChannelRulesModel", "fails", "(I)I"⟩
abbrev b_md_rule : ByteArray := prog_6_method_11_code
abbrev y_md_rule : MethodName := ⟨"ChannelRulesModel", "rule", "(III)Z"⟩
abbrev b_md_isPiece : ByteArray := prog_6_method_6_code
abbrev y_md_isPiece : MethodName := ⟨"ChannelRulesModel", "isPiece", "(I)Z"⟩
abbrev b_md_wind : ByteArray := prog_6_method_12_code
abbrev y_md_wind : MethodName := ⟨"ChannelRulesModel", "wind", "(Z)Z"⟩
abbrev b_md_ship : ByteArray := prog_6_method_13_code
abbrev y_md_ship : MethodName := ⟨"ChannelRulesModel", "ship", "(III)I"⟩
abbrev b_md_route : ByteArray := prog_6_method_18_code
abbrev y_md_route : MethodName := ⟨"ChannelRulesModel", "route", "(IIII)I"⟩
abbrev b_md_isShip : ByteArray := prog_6_method_7_code
abbrev y_md_isShip : MethodName := ⟨"ChannelRulesModel", "isShip", "(I)Z"⟩
abbrev b_md_lays : ByteArray := prog_6_method_17_code
abbrev y_md_lays : MethodName := ⟨"ChannelRulesModel", "lays", "(III)Z"⟩
abbrev b_md_timesTo : ByteArray := prog_6_method_15_code
abbrev y_md_timesTo : MethodName := ⟨"ChannelRulesModel", "timesTo", "(II)V"⟩
abbrev b_md_takes : ByteArray := prog_6_method_14_code
abbrev y_md_takes : MethodName := ⟨"ChannelRulesModel", "takes", "(II)I"⟩
abbrev b_md_next : ByteArray := prog_6_method_16_code
abbrev y_md_next : MethodName := ⟨"ChannelRulesModel", "next", "(II)I"⟩
abbrev b_md_ask : ByteArray := prog_6_method_27_code
abbrev y_md_ask : MethodName := ⟨"ChannelRulesModel", "ask", "(IIII)I"⟩
abbrev b_md_isPassage : ByteArray := prog_6_method_26_code
abbrev y_md_isPassage : MethodName := ⟨"ChannelRulesModel", "isPassage", "(IIII)Z"⟩
abbrev b_md_isTime : ByteArray := prog_6_method_9_code
abbrev y_md_isTime : MethodName := ⟨"ChannelRulesModel", "isTime", "(I)Z"⟩
abbrev b_md_against : ByteArray := prog_6_method_25_code
abbrev y_md_against : MethodName := ⟨"ChannelRulesModel", "against", "(II)I"⟩
abbrev b_md_barred : ByteArray := prog_6_method_22_code
abbrev y_md_barred : MethodName := ⟨"ChannelRulesModel", "barred", "(II)I"⟩
abbrev b_md_enters : ByteArray := prog_6_method_19_code
abbrev y_md_enters : MethodName := ⟨"ChannelRulesModel", "enters", "(II)I"⟩
abbrev b_md_leaves : ByteArray := prog_6_method_20_code
abbrev y_md_leaves : MethodName := ⟨"ChannelRulesModel", "leaves", "(II)I"⟩
abbrev b_md_isNight : ByteArray := prog_6_method_21_code
abbrev y_md_isNight : MethodName := ⟨"ChannelRulesModel", "isNight", "(II)Z"⟩
abbrev b_md_with : ByteArray := prog_6_method_24_code
abbrev y_md_with : MethodName := ⟨"ChannelRulesModel", "with", "(III)I"⟩
abbrev b_md_between : ByteArray := prog_6_method_23_code
abbrev y_md_between : MethodName := ⟨"ChannelRulesModel", "between", "(IIII)I"⟩
abbrev b_md_earliest : ByteArray := prog_6_method_28_code
abbrev y_md_earliest : MethodName := ⟨"ChannelRulesModel", "earliest", "(IIII)I"⟩
abbrev b_md_change : ByteArray := prog_6_method_29_code
abbrev y_md_change : MethodName := ⟨"ChannelRulesModel", "change", "(II)I"⟩
abbrev b_md_isSlot : ByteArray := prog_6_method_8_code
abbrev y_md_isSlot : MethodName := ⟨"ChannelRulesModel", "isSlot", "(I)Z"⟩
abbrev b_md_back : ByteArray := prog_6_method_30_code
abbrev y_md_back : MethodName := ⟨"ChannelRulesModel", "back", "(I)Z"⟩
abbrev b_md_close : ByteArray := prog_6_method_31_code
abbrev y_md_close : MethodName := ⟨"ChannelRulesModel", "close", "(III)I"⟩
abbrev b_md_tick : ByteArray := prog_6_method_32_code
abbrev y_md_tick : MethodName := ⟨"ChannelRulesModel", "tick", "(I)Z"⟩
abbrev b_md_conflict : ByteArray := prog_6_method_34_code
abbrev y_md_conflict : MethodName := ⟨"ChannelRulesModel", "conflict", "(II)I"⟩
abbrev b_md_conflicts : ByteArray := prog_6_method_33_code
abbrev y_md_conflicts : MethodName := ⟨"ChannelRulesModel", "conflicts", "(II)I"⟩
abbrev b_md_at : ByteArray := prog_6_method_35_code
abbrev y_md_at : MethodName := ⟨"ChannelRulesModel", "at", "(III)I"⟩
abbrev b_md_count : ByteArray := prog_6_method_36_code
abbrev y_md_count : MethodName := ⟨"ChannelRulesModel", "count", "(I)I"⟩
abbrev b_lw_law : ByteArray := code
abbrev y_lw_law : MethodName := ⟨"ChannelRulesLaw", "law", "([I)Z"⟩
theorem tw_0 : (Jvm.Cond.initialized "ChannelRulesLaw") ∈ tws := tb_1 (List.mem_of_getElem? (i := 0) rfl) rfl
theorem tw_1 : (Jvm.Cond.initialized "ChannelRules") ∈ tws := tb_1 (List.mem_of_getElem? (i := 1) rfl) rfl
theorem tw_2 : (Jvm.Cond.initialized "ChannelRules$Pieces") ∈ tws := tb_1 (List.mem_of_getElem? (i := 2) rfl) rfl
theorem tw_3 : (Jvm.Cond.initialized "ChannelRules$Ships") ∈ tws := tb_1 (List.mem_of_getElem? (i := 3) rfl) rfl
theorem tw_4 : (Jvm.Cond.initialized "ChannelRules$Passages") ∈ tws := tb_1 (List.mem_of_getElem? (i := 4) rfl) rfl
theorem tw_5 : (Jvm.Cond.initialized "ChannelRulesModel") ∈ tws := tb_1 (List.mem_of_getElem? (i := 5) rfl) rfl
theorem tw_6 : (Jvm.Cond.initialized "java/lang/Throwable") ∈ tws := tb_1 (List.mem_of_getElem? (i := 6) rfl) rfl
theorem tw_7 : (Jvm.Cond.initialized "java/lang/Exception") ∈ tws := tb_1 (List.mem_of_getElem? (i := 7) rfl) rfl
theorem tw_8 : (Jvm.Cond.initialized "java/lang/RuntimeException") ∈ tws := tb_1 (List.mem_of_getElem? (i := 8) rfl) rfl
theorem tw_9 : (Jvm.Cond.initialized "java/lang/IllegalArgumentException") ∈ tws := tb_1 (List.mem_of_getElem? (i := 9) rfl) rfl
theorem tw_10 : (Jvm.Cond.initialized "java/lang/IllegalStateException") ∈ tws := tb_1 (List.mem_of_getElem? (i := 10) rfl) rfl
theorem tw_11 : (Jvm.Cond.initialized "java/lang/Math") ∈ tws := tb_1 (List.mem_of_getElem? (i := 11) rfl) rfl
theorem tw_12 : (Jvm.Cond.initialized "java/lang/IndexOutOfBoundsException") ∈ tws := tb_1 (List.mem_of_getElem? (i := 12) rfl) rfl
theorem tw_13 : (Jvm.Cond.classLink "ChannelRulesLaw" (8 : Nat) "ChannelRules") ∈ tws := tb_1 (List.mem_of_getElem? (i := 13) rfl) rfl
theorem tw_14 : (Jvm.Cond.instantiable "ChannelRules" (7 : Nat)) ∈ tws := tb_1 (List.mem_of_getElem? (i := 14) rfl) rfl
theorem tw_15 : (Jvm.Cond.methodLink "ChannelRulesLaw" (45 : Nat) ({ cls := "ChannelRules", name := "<init>", desc := "()V" } : Jvm.MethodName)) ∈ tws := tb_1 (List.mem_of_getElem? (i := 15) rfl) rfl
theorem tw_16 : (Jvm.Cond.instanceMethod ({ cls := "ChannelRules", name := "<init>", desc := "()V" } : Jvm.MethodName)) ∈ tws := tb_1 (List.mem_of_getElem? (i := 16) rfl) rfl
theorem tw_17 : (Jvm.Cond.code ({ cls := "ChannelRules", name := "<init>", desc := "()V" } : Jvm.MethodName) prog_1_method_1_code (1 : Nat) (Option.none : Option Jvm.ClassFile.FieldType)) ∈ tws := tb_1 (List.mem_of_getElem? (i := 17) rfl) rfl
theorem tw_18 : (Jvm.Cond.methodLink "ChannelRules" (3 : Nat) ({ cls := "java/lang/Object", name := "<init>", desc := "()V" } : Jvm.MethodName)) ∈ tws := tb_1 (List.mem_of_getElem? (i := 18) rfl) rfl
theorem tw_19 : (Jvm.Cond.instanceMethod ({ cls := "java/lang/Object", name := "<init>", desc := "()V" } : Jvm.MethodName)) ∈ tws := tb_1 (List.mem_of_getElem? (i := 19) rfl) rfl
theorem tw_20 : (Jvm.Cond.code ({ cls := "java/lang/Object", name := "<init>", desc := "()V" } : Jvm.MethodName) object_method_1_code (1 : Nat) (Option.none : Option Jvm.ClassFile.FieldType)) ∈ tws := tb_1 (List.mem_of_getElem? (i := 20) rfl) rfl
theorem tw_21 : (Jvm.Cond.classLink "ChannelRules" (9 : Nat) "ChannelRules$Pieces") ∈ tws := tb_1 (List.mem_of_getElem? (i := 21) rfl) rfl
theorem tw_22 : (Jvm.Cond.instantiable "ChannelRules$Pieces" (9 : Nat)) ∈ tws := tb_1 (List.mem_of_getElem? (i := 22) rfl) rfl
theorem tw_23 : (Jvm.Cond.methodLink "ChannelRules" (11 : Nat) ({ cls := "ChannelRules$Pieces", name := "<init>", desc := "()V" } : Jvm.MethodName)) ∈ tws := tb_1 (List.mem_of_getElem? (i := 23) rfl) rfl
theorem tw_24 : (Jvm.Cond.instanceMethod ({ cls := "ChannelRules$Pieces", name := "<init>", desc := "()V" } : Jvm.MethodName)) ∈ tws := tb_1 (List.mem_of_getElem? (i := 24) rfl) rfl
theorem tw_25 : (Jvm.Cond.code ({ cls := "ChannelRules$Pieces", name := "<init>", desc := "()V" } : Jvm.MethodName) prog_3_method_1_code (1 : Nat) (Option.none : Option Jvm.ClassFile.FieldType)) ∈ tws := tb_1 (List.mem_of_getElem? (i := 25) rfl) rfl
theorem tw_26 : (Jvm.Cond.methodLink "ChannelRules$Pieces" (3 : Nat) ({ cls := "java/lang/Object", name := "<init>", desc := "()V" } : Jvm.MethodName)) ∈ tws := tb_1 (List.mem_of_getElem? (i := 26) rfl) rfl
theorem tw_27 : (Jvm.Cond.fieldLink "ChannelRules$Pieces" (9 : Nat) "ChannelRules$Pieces" "made" "I") ∈ tws := tb_1 (List.mem_of_getElem? (i := 27) rfl) rfl
theorem tw_28 : (Jvm.Cond.fieldLink "ChannelRules" (62 : Nat) "ChannelRules$Pieces" "made" "I") ∈ tws := tb_1 (List.mem_of_getElem? (i := 28) rfl) rfl
theorem tw_29 : (Jvm.Cond.fieldLink "ChannelRules$Pieces" (15 : Nat) "ChannelRules$Pieces" "first" "[I") ∈ tws := tb_1 (List.mem_of_getElem? (i := 29) rfl) rfl
theorem tw_30 : (Jvm.Cond.fieldLink "ChannelRules" (197 : Nat) "ChannelRules$Pieces" "first" "[I") ∈ tws := tb_1 (List.mem_of_getElem? (i := 30) rfl) rfl
theorem tw_31 : (Jvm.Cond.fieldLink "ChannelRules$Pieces" (19 : Nat) "ChannelRules$Pieces" "second" "[I") ∈ tws := tb_1 (List.mem_of_getElem? (i := 31) rfl) rfl
theorem tw_32 : (Jvm.Cond.fieldLink "ChannelRules" (217 : Nat) "ChannelRules$Pieces" "second" "[I") ∈ tws := tb_1 (List.mem_of_getElem? (i := 32) rfl) rfl
theorem tw_33 : (Jvm.Cond.fieldLink "ChannelRules$Pieces" (22 : Nat) "ChannelRules$Pieces" "length" "[I") ∈ tws := tb_1 (List.mem_of_getElem? (i := 33) rfl) rfl
theorem tw_34 : (Jvm.Cond.fieldLink "ChannelRules" (227 : Nat) "ChannelRules$Pieces" "length" "[I") ∈ tws := tb_1 (List.mem_of_getElem? (i := 34) rfl) rfl
theorem tw_35 : (Jvm.Cond.fieldLink "ChannelRules$Pieces" (25 : Nat) "ChannelRules$Pieces" "width" "[I") ∈ tws := tb_1 (List.mem_of_getElem? (i := 35) rfl) rfl
theorem tw_36 : (Jvm.Cond.fieldLink "ChannelRules" (220 : Nat) "ChannelRules$Pieces" "width" "[I") ∈ tws := tb_1 (List.mem_of_getElem? (i := 36) rfl) rfl
theorem tw_37 : (Jvm.Cond.fieldLink "ChannelRules$Pieces" (28 : Nat) "ChannelRules$Pieces" "rules" "[I") ∈ tws := tb_1 (List.mem_of_getElem? (i := 37) rfl) rfl
theorem tw_38 : (Jvm.Cond.fieldLink "ChannelRules$Pieces" (31 : Nat) "ChannelRules$Pieces" "spans" "[I") ∈ tws := tb_1 (List.mem_of_getElem? (i := 38) rfl) rfl
theorem tw_39 : (Jvm.Cond.fieldLink "ChannelRules" (148 : Nat) "ChannelRules$Pieces" "spans" "[I") ∈ tws := tb_1 (List.mem_of_getElem? (i := 39) rfl) rfl
theorem tw_40 : (Jvm.Cond.fieldLink "ChannelRules$Pieces" (34 : Nat) "ChannelRules$Pieces" "spanFrom" "[I") ∈ tws := tb_1 (List.mem_of_getElem? (i := 40) rfl) rfl
theorem tw_41 : (Jvm.Cond.fieldLink "ChannelRules$Pieces" (37 : Nat) "ChannelRules$Pieces" "spanTo" "[I") ∈ tws := tb_1 (List.mem_of_getElem? (i := 41) rfl) rfl
theorem tw_60 : (Jvm.Cond.superclass "ChannelRules$Pieces" "java/lang/Object") ∈ tws := tb_1 (List.mem_of_getElem? (i := 60) rfl) rfl
theorem tw_61 : (Jvm.Cond.arrayClass Jvm.ClassFile.FieldType.int) ∈ tws := tb_1 (List.mem_of_getElem? (i := 61) rfl) rfl
theorem tw_62 : (Jvm.Cond.classLink "ChannelRules" (16 : Nat) "ChannelRules$Ships") ∈ tws := tb_1 (List.mem_of_getElem? (i := 62) rfl) rfl
theorem tw_63 : (Jvm.Cond.instantiable "ChannelRules$Ships" (4 : Nat)) ∈ tws := tb_1 (List.mem_of_getElem? (i := 63) rfl) rfl
theorem tw_64 : (Jvm.Cond.methodLink "ChannelRules" (18 : Nat) ({ cls := "ChannelRules$Ships", name := "<init>", desc := "()V" } : Jvm.MethodName)) ∈ tws := tb_1 (List.mem_of_getElem? (i := 64) rfl) rfl
theorem tw_65 : (Jvm.Cond.instanceMethod ({ cls := "ChannelRules$Ships", name := "<init>", desc := "()V" } : Jvm.MethodName)) ∈ tws := tb_1 (List.mem_of_getElem? (i := 65) rfl) rfl
theorem tw_66 : (Jvm.Cond.code ({ cls := "ChannelRules$Ships", name := "<init>", desc := "()V" } : Jvm.MethodName) prog_4_method_1_code (1 : Nat) (Option.none : Option Jvm.ClassFile.FieldType)) ∈ tws := tb_1 (List.mem_of_getElem? (i := 66) rfl) rfl
theorem tw_67 : (Jvm.Cond.methodLink "ChannelRules$Ships" (3 : Nat) ({ cls := "java/lang/Object", name := "<init>", desc := "()V" } : Jvm.MethodName)) ∈ tws := tb_1 (List.mem_of_getElem? (i := 67) rfl) rfl
theorem tw_68 : (Jvm.Cond.fieldLink "ChannelRules$Ships" (9 : Nat) "ChannelRules$Ships" "made" "I") ∈ tws := tb_1 (List.mem_of_getElem? (i := 68) rfl) rfl
theorem tw_69 : (Jvm.Cond.fieldLink "ChannelRules" (86 : Nat) "ChannelRules$Ships" "made" "I") ∈ tws := tb_1 (List.mem_of_getElem? (i := 69) rfl) rfl
theorem tw_70 : (Jvm.Cond.fieldLink "ChannelRules$Ships" (15 : Nat) "ChannelRules$Ships" "width" "[I") ∈ tws := tb_1 (List.mem_of_getElem? (i := 70) rfl) rfl
theorem tw_71 : (Jvm.Cond.fieldLink "ChannelRules" (223 : Nat) "ChannelRules$Ships" "width" "[I") ∈ tws := tb_1 (List.mem_of_getElem? (i := 71) rfl) rfl
theorem tw_72 : (Jvm.Cond.fieldLink "ChannelRules$Ships" (19 : Nat) "ChannelRules$Ships" "speed" "[I") ∈ tws := tb_1 (List.mem_of_getElem? (i := 72) rfl) rfl
theorem tw_73 : (Jvm.Cond.fieldLink "ChannelRules" (224 : Nat) "ChannelRules$Ships" "speed" "[I") ∈ tws := tb_1 (List.mem_of_getElem? (i := 73) rfl) rfl
theorem tw_74 : (Jvm.Cond.fieldLink "ChannelRules$Ships" (22 : Nat) "ChannelRules$Ships" "cls" "[I") ∈ tws := tb_1 (List.mem_of_getElem? (i := 74) rfl) rfl
theorem tw_75 : (Jvm.Cond.fieldLink "ChannelRules" (251 : Nat) "ChannelRules$Ships" "cls" "[I") ∈ tws := tb_1 (List.mem_of_getElem? (i := 75) rfl) rfl
theorem tw_84 : (Jvm.Cond.superclass "ChannelRules$Ships" "java/lang/Object") ∈ tws := tb_1 (List.mem_of_getElem? (i := 84) rfl) rfl
theorem tw_85 : (Jvm.Cond.classLink "ChannelRules" (23 : Nat) "ChannelRules$Passages") ∈ tws := tb_1 (List.mem_of_getElem? (i := 85) rfl) rfl
theorem tw_86 : (Jvm.Cond.instantiable "ChannelRules$Passages" (9 : Nat)) ∈ tws := tb_1 (List.mem_of_getElem? (i := 86) rfl) rfl
theorem tw_87 : (Jvm.Cond.methodLink "ChannelRules" (25 : Nat) ({ cls := "ChannelRules$Passages", name := "<init>", desc := "()V" } : Jvm.MethodName)) ∈ tws := tb_1 (List.mem_of_getElem? (i := 87) rfl) rfl
theorem tw_88 : (Jvm.Cond.instanceMethod ({ cls := "ChannelRules$Passages", name := "<init>", desc := "()V" } : Jvm.MethodName)) ∈ tws := tb_1 (List.mem_of_getElem? (i := 88) rfl) rfl
theorem tw_89 : (Jvm.Cond.code ({ cls := "ChannelRules$Passages", name := "<init>", desc := "()V" } : Jvm.MethodName) prog_2_method_1_code (1 : Nat) (Option.none : Option Jvm.ClassFile.FieldType)) ∈ tws := tb_1 (List.mem_of_getElem? (i := 89) rfl) rfl
theorem tw_90 : (Jvm.Cond.methodLink "ChannelRules$Passages" (3 : Nat) ({ cls := "java/lang/Object", name := "<init>", desc := "()V" } : Jvm.MethodName)) ∈ tws := tb_1 (List.mem_of_getElem? (i := 90) rfl) rfl
theorem tw_91 : (Jvm.Cond.fieldLink "ChannelRules$Passages" (9 : Nat) "ChannelRules$Passages" "slots" "I") ∈ tws := tb_1 (List.mem_of_getElem? (i := 91) rfl) rfl
theorem tw_92 : (Jvm.Cond.fieldLink "ChannelRules" (110 : Nat) "ChannelRules$Passages" "slots" "I") ∈ tws := tb_1 (List.mem_of_getElem? (i := 92) rfl) rfl
theorem tw_93 : (Jvm.Cond.fieldLink "ChannelRules$Passages" (15 : Nat) "ChannelRules$Passages" "given" "[Z") ∈ tws := tb_1 (List.mem_of_getElem? (i := 93) rfl) rfl
theorem tw_94 : (Jvm.Cond.fieldLink "ChannelRules" (142 : Nat) "ChannelRules$Passages" "given" "[Z") ∈ tws := tb_1 (List.mem_of_getElem? (i := 94) rfl) rfl
theorem tw_95 : (Jvm.Cond.fieldLink "ChannelRules$Passages" (19 : Nat) "ChannelRules$Passages" "ship" "[I") ∈ tws := tb_1 (List.mem_of_getElem? (i := 95) rfl) rfl
theorem tw_96 : (Jvm.Cond.fieldLink "ChannelRules" (254 : Nat) "ChannelRules$Passages" "ship" "[I") ∈ tws := tb_1 (List.mem_of_getElem? (i := 96) rfl) rfl
theorem tw_97 : (Jvm.Cond.fieldLink "ChannelRules$Passages" (23 : Nat) "ChannelRules$Passages" "begin" "[I") ∈ tws := tb_1 (List.mem_of_getElem? (i := 97) rfl) rfl
theorem tw_98 : (Jvm.Cond.fieldLink "ChannelRules" (115 : Nat) "ChannelRules$Passages" "begin" "[I") ∈ tws := tb_1 (List.mem_of_getElem? (i := 98) rfl) rfl
theorem tw_99 : (Jvm.Cond.fieldLink "ChannelRules$Passages" (26 : Nat) "ChannelRules$Passages" "stays" "[I") ∈ tws := tb_1 (List.mem_of_getElem? (i := 99) rfl) rfl
theorem tw_100 : (Jvm.Cond.fieldLink "ChannelRules" (104 : Nat) "ChannelRules$Passages" "stays" "[I") ∈ tws := tb_1 (List.mem_of_getElem? (i := 100) rfl) rfl
theorem tw_101 : (Jvm.Cond.fieldLink "ChannelRules$Passages" (29 : Nat) "ChannelRules$Passages" "pieceOfStay" "[I") ∈ tws := tb_1 (List.mem_of_getElem? (i := 101) rfl) rfl
theorem tw_102 : (Jvm.Cond.fieldLink "ChannelRules$Passages" (32 : Nat) "ChannelRules$Passages" "forward" "[Z") ∈ tws := tb_1 (List.mem_of_getElem? (i := 102) rfl) rfl
theorem tw_103 : (Jvm.Cond.fieldLink "ChannelRules$Passages" (35 : Nat) "ChannelRules$Passages" "offset" "[I") ∈ tws := tb_1 (List.mem_of_getElem? (i := 103) rfl) rfl
theorem tw_104 : (Jvm.Cond.fieldLink "ChannelRules$Passages" (38 : Nat) "ChannelRules$Passages" "stayMark" "[I") ∈ tws := tb_1 (List.mem_of_getElem? (i := 104) rfl) rfl
theorem tw_123 : (Jvm.Cond.superclass "ChannelRules$Passages" "java/lang/Object") ∈ tws := tb_1 (List.mem_of_getElem? (i := 123) rfl) rfl
theorem tw_124 : (Jvm.Cond.arrayClass Jvm.ClassFile.FieldType.boolean) ∈ tws := tb_1 (List.mem_of_getElem? (i := 124) rfl) rfl
theorem tw_125 : (Jvm.Cond.fieldLink "ChannelRules" (12 : Nat) "ChannelRules" "pieces" "LChannelRules$Pieces;") ∈ tws := tb_1 (List.mem_of_getElem? (i := 125) rfl) rfl
theorem tw_126 : (Jvm.Cond.fieldLink "ChannelRules" (19 : Nat) "ChannelRules" "ships" "LChannelRules$Ships;") ∈ tws := tb_1 (List.mem_of_getElem? (i := 126) rfl) rfl
theorem tw_127 : (Jvm.Cond.fieldLink "ChannelRules" (26 : Nat) "ChannelRules" "passages" "LChannelRules$Passages;") ∈ tws := tb_1 (List.mem_of_getElem? (i := 127) rfl) rfl
theorem tw_128 : (Jvm.Cond.fieldLink "ChannelRules" (30 : Nat) "ChannelRules" "timeLeft" "[I") ∈ tws := tb_1 (List.mem_of_getElem? (i := 128) rfl) rfl
theorem tw_129 : (Jvm.Cond.fieldLink "ChannelRules" (34 : Nat) "ChannelRules" "foundConflict" "[I") ∈ tws := tb_1 (List.mem_of_getElem? (i := 129) rfl) rfl
theorem tw_130 : (Jvm.Cond.fieldLink "ChannelRules" (37 : Nat) "ChannelRules" "windy" "Z") ∈ tws := tb_1 (List.mem_of_getElem? (i := 130) rfl) rfl
theorem tw_131 : (Jvm.Cond.fieldLink "ChannelRules" (41 : Nat) "ChannelRules" "now" "I") ∈ tws := tb_1 (List.mem_of_getElem? (i := 131) rfl) rfl
theorem tw_146 : (Jvm.Cond.superclass "ChannelRules" "java/lang/Object") ∈ tws := tb_1 (List.mem_of_getElem? (i := 146) rfl) rfl
theorem tw_147 : (Jvm.Cond.methodLink "ChannelRulesLaw" (59 : Nat) ({ cls := "ChannelRules", name := "rule", desc := "(III)Z" } : Jvm.MethodName)) ∈ tws := tb_1 (List.mem_of_getElem? (i := 147) rfl) rfl
theorem tw_148 : (Jvm.Cond.instanceMethod ({ cls := "ChannelRules", name := "rule", desc := "(III)Z" } : Jvm.MethodName)) ∈ tws := tb_1 (List.mem_of_getElem? (i := 148) rfl) rfl
theorem tw_149 : (Jvm.Cond.selects "ChannelRules" ({ cls := "ChannelRules", name := "rule", desc := "(III)Z" } : Jvm.MethodName) ({ cls := "ChannelRules", name := "rule", desc := "(III)Z" } : Jvm.MethodName)) ∈ tws := tb_1 (List.mem_of_getElem? (i := 149) rfl) rfl
theorem tw_150 : (Jvm.Cond.code ({ cls := "ChannelRules", name := "rule", desc := "(III)Z" } : Jvm.MethodName) prog_1_method_3_code (4 : Nat) (Option.some Jvm.ClassFile.FieldType.boolean)) ∈ tws := tb_1 (List.mem_of_getElem? (i := 150) rfl) rfl
theorem tw_151 : (Jvm.Cond.methodLink "ChannelRules" (74 : Nat) ({ cls := "ChannelRules$Pieces", name := "has", desc := "(I)Z" } : Jvm.MethodName)) ∈ tws := tb_1 (List.mem_of_getElem? (i := 151) rfl) rfl
theorem tw_152 : (Jvm.Cond.instanceMethod ({ cls := "ChannelRules$Pieces", name := "has", desc := "(I)Z" } : Jvm.MethodName)) ∈ tws := tb_1 (List.mem_of_getElem? (i := 152) rfl) rfl
theorem tw_153 : (Jvm.Cond.selects "ChannelRules$Pieces" ({ cls := "ChannelRules$Pieces", name := "has", desc := "(I)Z" } : Jvm.MethodName) ({ cls := "ChannelRules$Pieces", name := "has", desc := "(I)Z" } : Jvm.MethodName)) ∈ tws := tb_1 (List.mem_of_getElem? (i := 153) rfl) rfl
theorem tw_154 : (Jvm.Cond.code ({ cls := "ChannelRules$Pieces", name := "has", desc := "(I)Z" } : Jvm.MethodName) prog_3_method_2_code (2 : Nat) (Option.some Jvm.ClassFile.FieldType.boolean)) ∈ tws := tb_1 (List.mem_of_getElem? (i := 154) rfl) rfl
theorem tw_155 : (Jvm.Cond.methodLinkNest "ChannelRules$Pieces" (40 : Nat) ({ cls := "ChannelRules", name := "isWithin", desc := "(III)Z" } : Jvm.MethodName) "ChannelRules") ∈ tws := tb_1 (List.mem_of_getElem? (i := 155) rfl) rfl
theorem tw_156 : (Jvm.Cond.static ({ cls := "ChannelRules", name := "isWithin", desc := "(III)Z" } : Jvm.MethodName)) ∈ tws := tb_1 (List.mem_of_getElem? (i := 156) rfl) rfl
theorem tw_157 : (Jvm.Cond.code ({ cls := "ChannelRules", name := "isWithin", desc := "(III)Z" } : Jvm.MethodName) prog_1_method_17_code (3 : Nat) (Option.some Jvm.ClassFile.FieldType.boolean)) ∈ tws := tb_1 (List.mem_of_getElem? (i := 157) rfl) rfl
theorem tw_158 : (Jvm.Cond.methodLink "ChannelRules" (56 : Nat) ({ cls := "ChannelRules", name := "isWithin", desc := "(III)Z" } : Jvm.MethodName)) ∈ tws := tb_1 (List.mem_of_getElem? (i := 158) rfl) rfl
theorem tw_159 : (Jvm.Cond.fieldLink "ChannelRules" (77 : Nat) "ChannelRules" "GREATEST_V" "[I") ∈ tws := tb_1 (List.mem_of_getElem? (i := 159) rfl) rfl
theorem tx_160 : (Jvm.Cond.laysStatic "ChannelRules" "GREATEST_V" "[I") ∈ lw_tbl := List.mem_append_right _ (List.mem_append_left _ (List.mem_of_getElem? (i := 160) rfl))
theorem tw_161 : (Jvm.Cond.methodLink "ChannelRules" (80 : Nat) ({ cls := "ChannelRules$Pieces", name := "setRule", desc := "(III)V" } : Jvm.MethodName)) ∈ tws := tb_1 (List.mem_of_getElem? (i := 161) rfl) rfl
theorem tw_162 : (Jvm.Cond.instanceMethod ({ cls := "ChannelRules$Pieces", name := "setRule", desc := "(III)V" } : Jvm.MethodName)) ∈ tws := tb_1 (List.mem_of_getElem? (i := 162) rfl) rfl
theorem tw_163 : (Jvm.Cond.selects "ChannelRules$Pieces" ({ cls := "ChannelRules$Pieces", name := "setRule", desc := "(III)V" } : Jvm.MethodName) ({ cls := "ChannelRules$Pieces", name := "setRule", desc := "(III)V" } : Jvm.MethodName)) ∈ tws := tb_1 (List.mem_of_getElem? (i := 163) rfl) rfl
theorem tw_164 : (Jvm.Cond.code ({ cls := "ChannelRules$Pieces", name := "setRule", desc := "(III)V" } : Jvm.MethodName) prog_3_method_6_code (4 : Nat) (Option.none : Option Jvm.ClassFile.FieldType)) ∈ tws := tb_1 (List.mem_of_getElem? (i := 164) rfl) rfl
theorem tw_165 : (Jvm.Cond.methodLink "ChannelRulesLaw" (64 : Nat) ({ cls := "ChannelRules", name := "wind", desc := "(Z)Z" } : Jvm.MethodName)) ∈ tws := tb_1 (List.mem_of_getElem? (i := 165) rfl) rfl
theorem tw_166 : (Jvm.Cond.instanceMethod ({ cls := "ChannelRules", name := "wind", desc := "(Z)Z" } : Jvm.MethodName)) ∈ tws := tb_1 (List.mem_of_getElem? (i := 166) rfl) rfl
theorem tw_167 : (Jvm.Cond.selects "ChannelRules" ({ cls := "ChannelRules", name := "wind", desc := "(Z)Z" } : Jvm.MethodName) ({ cls := "ChannelRules", name := "wind", desc := "(Z)Z" } : Jvm.MethodName)) ∈ tws := tb_1 (List.mem_of_getElem? (i := 167) rfl) rfl
theorem tw_168 : (Jvm.Cond.code ({ cls := "ChannelRules", name := "wind", desc := "(Z)Z" } : Jvm.MethodName) prog_1_method_4_code (2 : Nat) (Option.some Jvm.ClassFile.FieldType.boolean)) ∈ tws := tb_1 (List.mem_of_getElem? (i := 168) rfl) rfl
theorem tw_169 : (Jvm.Cond.methodLink "ChannelRulesLaw" (86 : Nat) ({ cls := "ChannelRules", name := "back", desc := "(I)Z" } : Jvm.MethodName)) ∈ tws := tb_1 (List.mem_of_getElem? (i := 169) rfl) rfl
theorem tw_170 : (Jvm.Cond.instanceMethod ({ cls := "ChannelRules", name := "back", desc := "(I)Z" } : Jvm.MethodName)) ∈ tws := tb_1 (List.mem_of_getElem? (i := 170) rfl) rfl
theorem tw_171 : (Jvm.Cond.selects "ChannelRules" ({ cls := "ChannelRules", name := "back", desc := "(I)Z" } : Jvm.MethodName) ({ cls := "ChannelRules", name := "back", desc := "(I)Z" } : Jvm.MethodName)) ∈ tws := tb_1 (List.mem_of_getElem? (i := 171) rfl) rfl
theorem tw_172 : (Jvm.Cond.code ({ cls := "ChannelRules", name := "back", desc := "(I)Z" } : Jvm.MethodName) prog_1_method_10_code (2 : Nat) (Option.some Jvm.ClassFile.FieldType.boolean)) ∈ tws := tb_1 (List.mem_of_getElem? (i := 172) rfl) rfl
theorem tw_173 : (Jvm.Cond.methodLink "ChannelRules" (134 : Nat) ({ cls := "ChannelRules$Passages", name := "hasSlot", desc := "(I)Z" } : Jvm.MethodName)) ∈ tws := tb_1 (List.mem_of_getElem? (i := 173) rfl) rfl
theorem tw_174 : (Jvm.Cond.instanceMethod ({ cls := "ChannelRules$Passages", name := "hasSlot", desc := "(I)Z" } : Jvm.MethodName)) ∈ tws := tb_1 (List.mem_of_getElem? (i := 174) rfl) rfl
theorem tw_175 : (Jvm.Cond.selects "ChannelRules$Passages" ({ cls := "ChannelRules$Passages", name := "hasSlot", desc := "(I)Z" } : Jvm.MethodName) ({ cls := "ChannelRules$Passages", name := "hasSlot", desc := "(I)Z" } : Jvm.MethodName)) ∈ tws := tb_1 (List.mem_of_getElem? (i := 175) rfl) rfl
theorem tw_176 : (Jvm.Cond.code ({ cls := "ChannelRules$Passages", name := "hasSlot", desc := "(I)Z" } : Jvm.MethodName) prog_2_method_2_code (2 : Nat) (Option.some Jvm.ClassFile.FieldType.boolean)) ∈ tws := tb_1 (List.mem_of_getElem? (i := 176) rfl) rfl
theorem tw_177 : (Jvm.Cond.methodLinkNest "ChannelRules$Passages" (41 : Nat) ({ cls := "ChannelRules", name := "isWithin", desc := "(III)Z" } : Jvm.MethodName) "ChannelRules") ∈ tws := tb_1 (List.mem_of_getElem? (i := 177) rfl) rfl
theorem tw_178 : (Jvm.Cond.methodLink "ChannelRules" (139 : Nat) ({ cls := "ChannelRules", name := "isStillToBegin", desc := "(I)Z" } : Jvm.MethodName)) ∈ tws := tb_1 (List.mem_of_getElem? (i := 178) rfl) rfl
theorem tw_179 : (Jvm.Cond.privateMethod ({ cls := "ChannelRules", name := "isStillToBegin", desc := "(I)Z" } : Jvm.MethodName)) ∈ tws := tb_1 (List.mem_of_getElem? (i := 179) rfl) rfl
theorem tw_180 : (Jvm.Cond.instanceMethod ({ cls := "ChannelRules", name := "isStillToBegin", desc := "(I)Z" } : Jvm.MethodName)) ∈ tws := tb_1 (List.mem_of_getElem? (i := 180) rfl) rfl
theorem tw_181 : (Jvm.Cond.code ({ cls := "ChannelRules", name := "isStillToBegin", desc := "(I)Z" } : Jvm.MethodName) prog_1_method_20_code (2 : Nat) (Option.some Jvm.ClassFile.FieldType.boolean)) ∈ tws := tb_1 (List.mem_of_getElem? (i := 181) rfl) rfl
theorem tw_182 : (Jvm.Cond.methodLink "ChannelRulesLaw" (94 : Nat) ({ cls := "ChannelRules", name := "tick", desc := "(I)Z" } : Jvm.MethodName)) ∈ tws := tb_1 (List.mem_of_getElem? (i := 182) rfl) rfl
theorem tw_183 : (Jvm.Cond.instanceMethod ({ cls := "ChannelRules", name := "tick", desc := "(I)Z" } : Jvm.MethodName)) ∈ tws := tb_1 (List.mem_of_getElem? (i := 183) rfl) rfl
theorem tw_184 : (Jvm.Cond.selects "ChannelRules" ({ cls := "ChannelRules", name := "tick", desc := "(I)Z" } : Jvm.MethodName) ({ cls := "ChannelRules", name := "tick", desc := "(I)Z" } : Jvm.MethodName)) ∈ tws := tb_1 (List.mem_of_getElem? (i := 184) rfl) rfl
theorem tw_185 : (Jvm.Cond.code ({ cls := "ChannelRules", name := "tick", desc := "(I)Z" } : Jvm.MethodName) prog_1_method_12_code (2 : Nat) (Option.some Jvm.ClassFile.FieldType.boolean)) ∈ tws := tb_1 (List.mem_of_getElem? (i := 185) rfl) rfl
theorem tw_186 : (Jvm.Cond.constant "ChannelRules" (107 : Nat) (100000 : Int32)) ∈ tws := tb_1 (List.mem_of_getElem? (i := 186) rfl) rfl
theorem tw_187 : (Jvm.Cond.methodLink "ChannelRulesLaw" (104 : Nat) ({ cls := "ChannelRules", name := "count", desc := "(I)I" } : Jvm.MethodName)) ∈ tws := tb_1 (List.mem_of_getElem? (i := 187) rfl) rfl
theorem tw_188 : (Jvm.Cond.instanceMethod ({ cls := "ChannelRules", name := "count", desc := "(I)I" } : Jvm.MethodName)) ∈ tws := tb_1 (List.mem_of_getElem? (i := 188) rfl) rfl
theorem tw_189 : (Jvm.Cond.selects "ChannelRules" ({ cls := "ChannelRules", name := "count", desc := "(I)I" } : Jvm.MethodName) ({ cls := "ChannelRules", name := "count", desc := "(I)I" } : Jvm.MethodName)) ∈ tws := tb_1 (List.mem_of_getElem? (i := 189) rfl) rfl
theorem tw_190 : (Jvm.Cond.code ({ cls := "ChannelRules", name := "count", desc := "(I)I" } : Jvm.MethodName) prog_1_method_15_code (2 : Nat) (Option.some Jvm.ClassFile.FieldType.int)) ∈ tws := tb_1 (List.mem_of_getElem? (i := 190) rfl) rfl
theorem tw_191 : (Jvm.Cond.methodLink "ChannelRules" (179 : Nat) ({ cls := "ChannelRules$Passages", name := "givenSlots", desc := "()I" } : Jvm.MethodName)) ∈ tws := tb_1 (List.mem_of_getElem? (i := 191) rfl) rfl
theorem tw_192 : (Jvm.Cond.instanceMethod ({ cls := "ChannelRules$Passages", name := "givenSlots", desc := "()I" } : Jvm.MethodName)) ∈ tws := tb_1 (List.mem_of_getElem? (i := 192) rfl) rfl
theorem tw_193 : (Jvm.Cond.selects "ChannelRules$Passages" ({ cls := "ChannelRules$Passages", name := "givenSlots", desc := "()I" } : Jvm.MethodName) ({ cls := "ChannelRules$Passages", name := "givenSlots", desc := "()I" } : Jvm.MethodName)) ∈ tws := tb_1 (List.mem_of_getElem? (i := 193) rfl) rfl
theorem tw_194 : (Jvm.Cond.code ({ cls := "ChannelRules$Passages", name := "givenSlots", desc := "()I" } : Jvm.MethodName) prog_2_method_3_code (3 : Nat) (Option.some Jvm.ClassFile.FieldType.int)) ∈ tws := tb_1 (List.mem_of_getElem? (i := 194) rfl) rfl
theorem tw_195 : (Jvm.Cond.methodLink "ChannelRules" (161 : Nat) ({ cls := "ChannelRules", name := "seekConflict", desc := "(I)I" } : Jvm.MethodName)) ∈ tws := tb_1 (List.mem_of_getElem? (i := 195) rfl) rfl
theorem tw_196 : (Jvm.Cond.privateMethod ({ cls := "ChannelRules", name := "seekConflict", desc := "(I)I" } : Jvm.MethodName)) ∈ tws := tb_1 (List.mem_of_getElem? (i := 196) rfl) rfl
theorem tw_197 : (Jvm.Cond.instanceMethod ({ cls := "ChannelRules", name := "seekConflict", desc := "(I)I" } : Jvm.MethodName)) ∈ tws := tb_1 (List.mem_of_getElem? (i := 197) rfl) rfl
theorem tw_198 : (Jvm.Cond.code ({ cls := "ChannelRules", name := "seekConflict", desc := "(I)I" } : Jvm.MethodName) prog_1_method_41_code (5 : Nat) (Option.some Jvm.ClassFile.FieldType.int)) ∈ tws := tb_1 (List.mem_of_getElem? (i := 198) rfl) rfl
theorem tw_199 : (Jvm.Cond.methodLink "ChannelRules" (288 : Nat) ({ cls := "ChannelRules", name := "seekConflictOfPair", desc := "(IIII)I" } : Jvm.MethodName)) ∈ tws := tb_1 (List.mem_of_getElem? (i := 199) rfl) rfl
theorem tw_200 : (Jvm.Cond.privateMethod ({ cls := "ChannelRules", name := "seekConflictOfPair", desc := "(IIII)I" } : Jvm.MethodName)) ∈ tws := tb_1 (List.mem_of_getElem? (i := 200) rfl) rfl
theorem tw_201 : (Jvm.Cond.instanceMethod ({ cls := "ChannelRules", name := "seekConflictOfPair", desc := "(IIII)I" } : Jvm.MethodName)) ∈ tws := tb_1 (List.mem_of_getElem? (i := 201) rfl) rfl
theorem tw_202 : (Jvm.Cond.code ({ cls := "ChannelRules", name := "seekConflictOfPair", desc := "(IIII)I" } : Jvm.MethodName) prog_1_method_42_code (8 : Nat) (Option.some Jvm.ClassFile.FieldType.int)) ∈ tws := tb_1 (List.mem_of_getElem? (i := 202) rfl) rfl
theorem tw_203 : (Jvm.Cond.methodLink "ChannelRules" (257 : Nat) ({ cls := "ChannelRules", name := "conflictWith", desc := "(III)I" } : Jvm.MethodName)) ∈ tws := tb_1 (List.mem_of_getElem? (i := 203) rfl) rfl
theorem tw_204 : (Jvm.Cond.privateMethod ({ cls := "ChannelRules", name := "conflictWith", desc := "(III)I" } : Jvm.MethodName)) ∈ tws := tb_1 (List.mem_of_getElem? (i := 204) rfl) rfl
theorem tw_205 : (Jvm.Cond.instanceMethod ({ cls := "ChannelRules", name := "conflictWith", desc := "(III)I" } : Jvm.MethodName)) ∈ tws := tb_1 (List.mem_of_getElem? (i := 205) rfl) rfl
theorem tw_206 : (Jvm.Cond.code ({ cls := "ChannelRules", name := "conflictWith", desc := "(III)I" } : Jvm.MethodName) prog_1_method_34_code (10 : Nat) (Option.some Jvm.ClassFile.FieldType.int)) ∈ tws := tb_1 (List.mem_of_getElem? (i := 206) rfl) rfl
theorem tw_207 : (Jvm.Cond.methodLink "ChannelRules" (100 : Nat) ({ cls := "ChannelRules$Passages", name := "pieceOf", desc := "(II)I" } : Jvm.MethodName)) ∈ tws := tb_1 (List.mem_of_getElem? (i := 207) rfl) rfl
theorem tw_208 : (Jvm.Cond.instanceMethod ({ cls := "ChannelRules$Passages", name := "pieceOf", desc := "(II)I" } : Jvm.MethodName)) ∈ tws := tb_1 (List.mem_of_getElem? (i := 208) rfl) rfl
theorem tw_209 : (Jvm.Cond.selects "ChannelRules$Passages" ({ cls := "ChannelRules$Passages", name := "pieceOf", desc := "(II)I" } : Jvm.MethodName) ({ cls := "ChannelRules$Passages", name := "pieceOf", desc := "(II)I" } : Jvm.MethodName)) ∈ tws := tb_1 (List.mem_of_getElem? (i := 209) rfl) rfl
theorem tw_210 : (Jvm.Cond.code ({ cls := "ChannelRules$Passages", name := "pieceOf", desc := "(II)I" } : Jvm.MethodName) prog_2_method_4_code (3 : Nat) (Option.some Jvm.ClassFile.FieldType.int)) ∈ tws := tb_1 (List.mem_of_getElem? (i := 210) rfl) rfl
theorem tw_211 : (Jvm.Cond.methodLink "ChannelRules" (260 : Nat) ({ cls := "ChannelRules$Passages", name := "stayOn", desc := "(II)I" } : Jvm.MethodName)) ∈ tws := tb_1 (List.mem_of_getElem? (i := 211) rfl) rfl
theorem tw_212 : (Jvm.Cond.instanceMethod ({ cls := "ChannelRules$Passages", name := "stayOn", desc := "(II)I" } : Jvm.MethodName)) ∈ tws := tb_1 (List.mem_of_getElem? (i := 212) rfl) rfl
theorem tw_213 : (Jvm.Cond.selects "ChannelRules$Passages" ({ cls := "ChannelRules$Passages", name := "stayOn", desc := "(II)I" } : Jvm.MethodName) ({ cls := "ChannelRules$Passages", name := "stayOn", desc := "(II)I" } : Jvm.MethodName)) ∈ tws := tb_1 (List.mem_of_getElem? (i := 213) rfl) rfl
theorem tw_214 : (Jvm.Cond.code ({ cls := "ChannelRules$Passages", name := "stayOn", desc := "(II)I" } : Jvm.MethodName) prog_2_method_8_code (3 : Nat) (Option.some Jvm.ClassFile.FieldType.int)) ∈ tws := tb_1 (List.mem_of_getElem? (i := 214) rfl) rfl
theorem tw_215 : (Jvm.Cond.methodLink "ChannelRules" (169 : Nat) ({ cls := "ChannelRules$Passages", name := "entersAt", desc := "(II)I" } : Jvm.MethodName)) ∈ tws := tb_1 (List.mem_of_getElem? (i := 215) rfl) rfl
theorem tw_216 : (Jvm.Cond.instanceMethod ({ cls := "ChannelRules$Passages", name := "entersAt", desc := "(II)I" } : Jvm.MethodName)) ∈ tws := tb_1 (List.mem_of_getElem? (i := 216) rfl) rfl
theorem tw_217 : (Jvm.Cond.selects "ChannelRules$Passages" ({ cls := "ChannelRules$Passages", name := "entersAt", desc := "(II)I" } : Jvm.MethodName) ({ cls := "ChannelRules$Passages", name := "entersAt", desc := "(II)I" } : Jvm.MethodName)) ∈ tws := tb_1 (List.mem_of_getElem? (i := 217) rfl) rfl
theorem tw_218 : (Jvm.Cond.code ({ cls := "ChannelRules$Passages", name := "entersAt", desc := "(II)I" } : Jvm.MethodName) prog_2_method_6_code (3 : Nat) (Option.some Jvm.ClassFile.FieldType.int)) ∈ tws := tb_1 (List.mem_of_getElem? (i := 218) rfl) rfl
theorem tw_219 : (Jvm.Cond.methodLink "ChannelRules" (172 : Nat) ({ cls := "ChannelRules$Passages", name := "leavesAt", desc := "(II)I" } : Jvm.MethodName)) ∈ tws := tb_1 (List.mem_of_getElem? (i := 219) rfl) rfl
theorem tw_220 : (Jvm.Cond.instanceMethod ({ cls := "ChannelRules$Passages", name := "leavesAt", desc := "(II)I" } : Jvm.MethodName)) ∈ tws := tb_1 (List.mem_of_getElem? (i := 220) rfl) rfl
theorem tw_221 : (Jvm.Cond.selects "ChannelRules$Passages" ({ cls := "ChannelRules$Passages", name := "leavesAt", desc := "(II)I" } : Jvm.MethodName) ({ cls := "ChannelRules$Passages", name := "leavesAt", desc := "(II)I" } : Jvm.MethodName)) ∈ tws := tb_1 (List.mem_of_getElem? (i := 221) rfl) rfl
theorem tw_222 : (Jvm.Cond.code ({ cls := "ChannelRules$Passages", name := "leavesAt", desc := "(II)I" } : Jvm.MethodName) prog_2_method_7_code (3 : Nat) (Option.some Jvm.ClassFile.FieldType.int)) ∈ tws := tb_1 (List.mem_of_getElem? (i := 222) rfl) rfl
theorem tw_223 : (Jvm.Cond.methodLink "ChannelRules" (263 : Nat) ({ cls := "ChannelRules", name := "shareMinute", desc := "(IIII)Z" } : Jvm.MethodName)) ∈ tws := tb_1 (List.mem_of_getElem? (i := 223) rfl) rfl
theorem tw_224 : (Jvm.Cond.static ({ cls := "ChannelRules", name := "shareMinute", desc := "(IIII)Z" } : Jvm.MethodName)) ∈ tws := tb_1 (List.mem_of_getElem? (i := 224) rfl) rfl
theorem tw_225 : (Jvm.Cond.code ({ cls := "ChannelRules", name := "shareMinute", desc := "(IIII)Z" } : Jvm.MethodName) prog_1_method_21_code (4 : Nat) (Option.some Jvm.ClassFile.FieldType.boolean)) ∈ tws := tb_1 (List.mem_of_getElem? (i := 225) rfl) rfl
theorem tw_226 : (Jvm.Cond.methodLink "ChannelRules" (175 : Nat) ({ cls := "ChannelRules$Passages", name := "isForward", desc := "(II)Z" } : Jvm.MethodName)) ∈ tws := tb_1 (List.mem_of_getElem? (i := 226) rfl) rfl
theorem tw_227 : (Jvm.Cond.instanceMethod ({ cls := "ChannelRules$Passages", name := "isForward", desc := "(II)Z" } : Jvm.MethodName)) ∈ tws := tb_1 (List.mem_of_getElem? (i := 227) rfl) rfl
theorem tw_228 : (Jvm.Cond.selects "ChannelRules$Passages" ({ cls := "ChannelRules$Passages", name := "isForward", desc := "(II)Z" } : Jvm.MethodName) ({ cls := "ChannelRules$Passages", name := "isForward", desc := "(II)Z" } : Jvm.MethodName)) ∈ tws := tb_1 (List.mem_of_getElem? (i := 228) rfl) rfl
theorem tw_229 : (Jvm.Cond.code ({ cls := "ChannelRules$Passages", name := "isForward", desc := "(II)Z" } : Jvm.MethodName) prog_2_method_5_code (3 : Nat) (Option.some Jvm.ClassFile.FieldType.boolean)) ∈ tws := tb_1 (List.mem_of_getElem? (i := 229) rfl) rfl
theorem tw_230 : (Jvm.Cond.methodLink "ChannelRules" (248 : Nat) ({ cls := "ChannelRules$Pieces", name := "ruleOf", desc := "(II)I" } : Jvm.MethodName)) ∈ tws := tb_1 (List.mem_of_getElem? (i := 230) rfl) rfl
theorem tw_231 : (Jvm.Cond.instanceMethod ({ cls := "ChannelRules$Pieces", name := "ruleOf", desc := "(II)I" } : Jvm.MethodName)) ∈ tws := tb_1 (List.mem_of_getElem? (i := 231) rfl) rfl
theorem tw_232 : (Jvm.Cond.selects "ChannelRules$Pieces" ({ cls := "ChannelRules$Pieces", name := "ruleOf", desc := "(II)I" } : Jvm.MethodName) ({ cls := "ChannelRules$Pieces", name := "ruleOf", desc := "(II)I" } : Jvm.MethodName)) ∈ tws := tb_1 (List.mem_of_getElem? (i := 232) rfl) rfl
theorem tw_233 : (Jvm.Cond.code ({ cls := "ChannelRules$Pieces", name := "ruleOf", desc := "(II)I" } : Jvm.MethodName) prog_3_method_5_code (3 : Nat) (Option.some Jvm.ClassFile.FieldType.int)) ∈ tws := tb_1 (List.mem_of_getElem? (i := 233) rfl) rfl
theorem tw_234 : (Jvm.Cond.methodLink "ChannelRules" (267 : Nat) ({ cls := "ChannelRules$Passages", name := "isOvertaking", desc := "(IIII)Z" } : Jvm.MethodName)) ∈ tws := tb_1 (List.mem_of_getElem? (i := 234) rfl) rfl
theorem tw_235 : (Jvm.Cond.instanceMethod ({ cls := "ChannelRules$Passages", name := "isOvertaking", desc := "(IIII)Z" } : Jvm.MethodName)) ∈ tws := tb_1 (List.mem_of_getElem? (i := 235) rfl) rfl
theorem tw_236 : (Jvm.Cond.selects "ChannelRules$Passages" ({ cls := "ChannelRules$Passages", name := "isOvertaking", desc := "(IIII)Z" } : Jvm.MethodName) ({ cls := "ChannelRules$Passages", name := "isOvertaking", desc := "(IIII)Z" } : Jvm.MethodName)) ∈ tws := tb_1 (List.mem_of_getElem? (i := 236) rfl) rfl
theorem tw_237 : (Jvm.Cond.code ({ cls := "ChannelRules$Passages", name := "isOvertaking", desc := "(IIII)Z" } : Jvm.MethodName) prog_2_method_9_code (9 : Nat) (Option.some Jvm.ClassFile.FieldType.boolean)) ∈ tws := tb_1 (List.mem_of_getElem? (i := 237) rfl) rfl
theorem tw_238 : (Jvm.Cond.methodLink "ChannelRules$Passages" (45 : Nat) ({ cls := "ChannelRules$Passages", name := "entersAt", desc := "(II)I" } : Jvm.MethodName)) ∈ tws := tb_1 (List.mem_of_getElem? (i := 238) rfl) rfl
theorem tw_239 : (Jvm.Cond.methodLink "ChannelRules$Passages" (49 : Nat) ({ cls := "ChannelRules$Passages", name := "leavesAt", desc := "(II)I" } : Jvm.MethodName)) ∈ tws := tb_1 (List.mem_of_getElem? (i := 239) rfl) rfl
theorem tw_240 : (Jvm.Cond.methodLink "ChannelRules" (182 : Nat) ({ cls := "ChannelRules", name := "givenMark", desc := "(I)I" } : Jvm.MethodName)) ∈ tws := tb_2 (List.mem_of_getElem? (i := 0) rfl) rfl
theorem tw_241 : (Jvm.Cond.privateMethod ({ cls := "ChannelRules", name := "givenMark", desc := "(I)I" } : Jvm.MethodName)) ∈ tws := tb_2 (List.mem_of_getElem? (i := 1) rfl) rfl
theorem tw_242 : (Jvm.Cond.instanceMethod ({ cls := "ChannelRules", name := "givenMark", desc := "(I)I" } : Jvm.MethodName)) ∈ tws := tb_2 (List.mem_of_getElem? (i := 2) rfl) rfl
theorem tw_243 : (Jvm.Cond.code ({ cls := "ChannelRules", name := "givenMark", desc := "(I)I" } : Jvm.MethodName) prog_1_method_16_code (2 : Nat) (Option.some Jvm.ClassFile.FieldType.int)) ∈ tws := tb_2 (List.mem_of_getElem? (i := 3) rfl) rfl
theorem tw_244 : (Jvm.Cond.methodLink "ChannelRulesLaw" (49 : Nat) ({ cls := "ChannelRulesLaw", name := "piece", desc := "(LChannelRules;IIII[J)I" } : Jvm.MethodName)) ∈ tws := tb_2 (List.mem_of_getElem? (i := 4) rfl) rfl
theorem tw_245 : (Jvm.Cond.static ({ cls := "ChannelRulesLaw", name := "piece", desc := "(LChannelRules;IIII[J)I" } : Jvm.MethodName)) ∈ tws := tb_2 (List.mem_of_getElem? (i := 5) rfl) rfl
theorem tw_246 : (Jvm.Cond.codeWith ({ cls := "ChannelRulesLaw", name := "piece", desc := "(LChannelRules;IIII[J)I" } : Jvm.MethodName) method_3_code (7 : Nat) (Option.some Jvm.ClassFile.FieldType.int) [((0 : Nat), (14 : Nat), (17 : Nat), (13 : Nat)), ((0 : Nat), (14 : Nat), (21 : Nat), (15 : Nat))]) ∈ tws := tb_2 (List.mem_of_getElem? (i := 6) rfl) rfl
theorem tw_247 : (Jvm.Cond.classLink "ChannelRulesLaw" (13 : Nat) "java/lang/IllegalArgumentException") ∈ tws := tb_2 (List.mem_of_getElem? (i := 7) rfl) rfl
theorem tw_248 : (Jvm.Cond.classLink "ChannelRulesLaw" (15 : Nat) "java/lang/IllegalStateException") ∈ tws := tb_2 (List.mem_of_getElem? (i := 8) rfl) rfl
theorem tw_249 : (Jvm.Cond.methodLink "ChannelRulesLaw" (7 : Nat) ({ cls := "ChannelRules", name := "piece", desc := "(IIII)I" } : Jvm.MethodName)) ∈ tws := tb_2 (List.mem_of_getElem? (i := 9) rfl) rfl
theorem tw_250 : (Jvm.Cond.instanceMethod ({ cls := "ChannelRules", name := "piece", desc := "(IIII)I" } : Jvm.MethodName)) ∈ tws := tb_2 (List.mem_of_getElem? (i := 10) rfl) rfl
theorem tw_251 : (Jvm.Cond.selects "ChannelRules" ({ cls := "ChannelRules", name := "piece", desc := "(IIII)I" } : Jvm.MethodName) ({ cls := "ChannelRules", name := "piece", desc := "(IIII)I" } : Jvm.MethodName)) ∈ tws := tb_2 (List.mem_of_getElem? (i := 11) rfl) rfl
theorem tw_252 : (Jvm.Cond.code ({ cls := "ChannelRules", name := "piece", desc := "(IIII)I" } : Jvm.MethodName) prog_1_method_2_code (5 : Nat) (Option.some Jvm.ClassFile.FieldType.int)) ∈ tws := tb_2 (List.mem_of_getElem? (i := 12) rfl) rfl
theorem tw_253 : (Jvm.Cond.methodLink "ChannelRules" (45 : Nat) ({ cls := "ChannelRules", name := "isPoint", desc := "(I)Z" } : Jvm.MethodName)) ∈ tws := tb_2 (List.mem_of_getElem? (i := 13) rfl) rfl
theorem tw_254 : (Jvm.Cond.static ({ cls := "ChannelRules", name := "isPoint", desc := "(I)Z" } : Jvm.MethodName)) ∈ tws := tb_2 (List.mem_of_getElem? (i := 14) rfl) rfl
theorem tw_255 : (Jvm.Cond.code ({ cls := "ChannelRules", name := "isPoint", desc := "(I)Z" } : Jvm.MethodName) prog_1_method_18_code (1 : Nat) (Option.some Jvm.ClassFile.FieldType.boolean)) ∈ tws := tb_2 (List.mem_of_getElem? (i := 15) rfl) rfl
theorem tw_256 : (Jvm.Cond.classLink "ChannelRules" (49 : Nat) "java/lang/IllegalArgumentException") ∈ tws := tb_2 (List.mem_of_getElem? (i := 16) rfl) rfl
theorem tw_257 : (Jvm.Cond.instantiable "java/lang/IllegalArgumentException" (6 : Nat)) ∈ tws := tb_2 (List.mem_of_getElem? (i := 17) rfl) rfl
theorem tw_258 : (Jvm.Cond.castable "java/lang/IllegalArgumentException" "java/lang/IllegalArgumentException") ∈ tws := tb_2 (List.mem_of_getElem? (i := 18) rfl) rfl
theorem tw_259 : (Jvm.Cond.declares ({ cls := "java/lang/RuntimeException", name := "<init>", desc := "()V" } : Jvm.MethodName)) ∈ tws := tb_2 (List.mem_of_getElem? (i := 19) rfl) rfl
theorem tw_260 : (Jvm.Cond.declares ({ cls := "java/lang/RuntimeException", name := "<init>", desc := "(Ljava/lang/String;)V" } : Jvm.MethodName)) ∈ tws := tb_2 (List.mem_of_getElem? (i := 20) rfl) rfl
theorem tw_261 : (Jvm.Cond.declares ({ cls := "java/lang/Exception", name := "<init>", desc := "()V" } : Jvm.MethodName)) ∈ tws := tb_2 (List.mem_of_getElem? (i := 21) rfl) rfl
theorem tw_262 : (Jvm.Cond.declares ({ cls := "java/lang/Exception", name := "<init>", desc := "(Ljava/lang/String;)V" } : Jvm.MethodName)) ∈ tws := tb_2 (List.mem_of_getElem? (i := 22) rfl) rfl
theorem tw_263 : (Jvm.Cond.declares ({ cls := "java/lang/Throwable", name := "<init>", desc := "()V" } : Jvm.MethodName)) ∈ tws := tb_2 (List.mem_of_getElem? (i := 23) rfl) rfl
theorem tw_264 : (Jvm.Cond.declares ({ cls := "java/lang/Throwable", name := "<init>", desc := "(Ljava/lang/String;)V" } : Jvm.MethodName)) ∈ tws := tb_2 (List.mem_of_getElem? (i := 24) rfl) rfl
theorem tw_265 : (Jvm.Cond.selects "java/lang/IllegalArgumentException" ({ cls := "java/lang/Throwable", name := "fillInStackTrace", desc := "(I)Ljava/lang/Throwable;" } : Jvm.MethodName) ({ cls := "java/lang/Throwable", name := "fillInStackTrace", desc := "(I)Ljava/lang/Throwable;" } : Jvm.MethodName)) ∈ tws := tb_2 (List.mem_of_getElem? (i := 25) rfl) rfl
theorem tw_266 : (Jvm.Cond.selects "java/lang/IllegalArgumentException" ({ cls := "java/lang/Throwable", name := "fillInStackTrace", desc := "()Ljava/lang/Throwable;" } : Jvm.MethodName) ({ cls := "java/lang/Throwable", name := "fillInStackTrace", desc := "()Ljava/lang/Throwable;" } : Jvm.MethodName)) ∈ tws := tb_2 (List.mem_of_getElem? (i := 26) rfl) rfl
theorem tw_267 : (Jvm.Cond.lays "java/lang/IllegalArgumentException" "java/lang/Throwable" "cause" "Ljava/lang/Throwable;") ∈ tws := tb_2 (List.mem_of_getElem? (i := 27) rfl) rfl
theorem tw_268 : (Jvm.Cond.lays "java/lang/Throwable" "java/lang/Throwable" "cause" "Ljava/lang/Throwable;") ∈ tws := tb_2 (List.mem_of_getElem? (i := 28) rfl) rfl
theorem tw_269 : (Jvm.Cond.lays "java/lang/IllegalArgumentException" "java/lang/Throwable" "stackTrace" "[Ljava/lang/StackTraceElement;") ∈ tws := tb_2 (List.mem_of_getElem? (i := 29) rfl) rfl
theorem tw_270 : (Jvm.Cond.lays "java/lang/Throwable" "java/lang/Throwable" "stackTrace" "[Ljava/lang/StackTraceElement;") ∈ tws := tb_2 (List.mem_of_getElem? (i := 30) rfl) rfl
theorem tw_271 : (Jvm.Cond.lays "java/lang/IllegalArgumentException" "java/lang/Throwable" "suppressedExceptions" "Ljava/util/List;") ∈ tws := tb_2 (List.mem_of_getElem? (i := 31) rfl) rfl
theorem tw_272 : (Jvm.Cond.lays "java/lang/Throwable" "java/lang/Throwable" "suppressedExceptions" "Ljava/util/List;") ∈ tws := tb_2 (List.mem_of_getElem? (i := 32) rfl) rfl
theorem tw_273 : (Jvm.Cond.lays "java/lang/IllegalArgumentException" "java/lang/Throwable" "detailMessage" "Ljava/lang/String;") ∈ tws := tb_2 (List.mem_of_getElem? (i := 33) rfl) rfl
theorem tw_274 : (Jvm.Cond.lays "java/lang/Throwable" "java/lang/Throwable" "detailMessage" "Ljava/lang/String;") ∈ tws := tb_2 (List.mem_of_getElem? (i := 34) rfl) rfl
theorem tw_275 : (Jvm.Cond.lays "java/lang/IllegalArgumentException" "java/lang/Throwable" "backtrace" "Ljava/lang/Object;") ∈ tws := tb_2 (List.mem_of_getElem? (i := 35) rfl) rfl
theorem tw_276 : (Jvm.Cond.lays "java/lang/Throwable" "java/lang/Throwable" "backtrace" "Ljava/lang/Object;") ∈ tws := tb_2 (List.mem_of_getElem? (i := 36) rfl) rfl
theorem tw_277 : (Jvm.Cond.fieldLink "java/lang/Throwable" (198 : Nat) "java/lang/Throwable" "backtrace" "Ljava/lang/Object;") ∈ tws := tb_2 (List.mem_of_getElem? (i := 37) rfl) rfl
theorem tw_278 : (Jvm.Cond.superclass "java/lang/Throwable" "java/lang/Object") ∈ tws := tb_2 (List.mem_of_getElem? (i := 38) rfl) rfl
theorem tw_279 : (Jvm.Cond.instanceMethod ({ cls := "java/lang/Throwable", name := "<init>", desc := "()V" } : Jvm.MethodName)) ∈ tws := tb_2 (List.mem_of_getElem? (i := 39) rfl) rfl
theorem tw_280 : (Jvm.Cond.code ({ cls := "java/lang/Throwable", name := "<init>", desc := "()V" } : Jvm.MethodName) prog_14_method_1_code (1 : Nat) (Option.none : Option Jvm.ClassFile.FieldType)) ∈ tws := tb_2 (List.mem_of_getElem? (i := 40) rfl) rfl
theorem tw_281 : (Jvm.Cond.methodLink "java/lang/Throwable" (1 : Nat) ({ cls := "java/lang/Object", name := "<init>", desc := "()V" } : Jvm.MethodName)) ∈ tws := tb_2 (List.mem_of_getElem? (i := 41) rfl) rfl
theorem tw_282 : (Jvm.Cond.fieldLink "java/lang/Throwable" (13 : Nat) "java/lang/Throwable" "UNASSIGNED_STACK" "[Ljava/lang/StackTraceElement;") ∈ tws := tb_2 (List.mem_of_getElem? (i := 42) rfl) rfl
theorem tx_283 : (Jvm.Cond.laysStatic "java/lang/Throwable" "UNASSIGNED_STACK" "[Ljava/lang/StackTraceElement;") ∈ lw_tbl := List.mem_append_right _ (List.mem_append_right _ (List.mem_append_left _ (List.mem_of_getElem? (i := 43) rfl)))
theorem tw_284 : (Jvm.Cond.fieldLink "java/lang/Throwable" (20 : Nat) "java/lang/Throwable" "SUPPRESSED_SENTINEL" "Ljava/util/List;") ∈ tws := tb_2 (List.mem_of_getElem? (i := 44) rfl) rfl
theorem tx_285 : (Jvm.Cond.laysStatic "java/lang/Throwable" "SUPPRESSED_SENTINEL" "Ljava/util/List;") ∈ lw_tbl := List.mem_append_right _ (List.mem_append_right _ (List.mem_append_left _ (List.mem_of_getElem? (i := 45) rfl)))
theorem tw_286 : (Jvm.Cond.methodLink "java/lang/Throwable" (27 : Nat) ({ cls := "java/lang/Throwable", name := "fillInStackTrace", desc := "()Ljava/lang/Throwable;" } : Jvm.MethodName)) ∈ tws := tb_2 (List.mem_of_getElem? (i := 46) rfl) rfl
theorem tw_287 : (Jvm.Cond.instanceMethod ({ cls := "java/lang/Throwable", name := "fillInStackTrace", desc := "()Ljava/lang/Throwable;" } : Jvm.MethodName)) ∈ tws := tb_2 (List.mem_of_getElem? (i := 47) rfl) rfl
theorem tw_288 : (Jvm.Cond.sameMethod "java/lang/Throwable" "java/lang/Throwable" "fillInStackTrace" "()Ljava/lang/Throwable;") ∈ tws := tb_2 (List.mem_of_getElem? (i := 48) rfl) rfl
theorem tw_289 : (Jvm.Cond.selects "java/lang/IllegalStateException" ({ cls := "java/lang/Throwable", name := "fillInStackTrace", desc := "()Ljava/lang/Throwable;" } : Jvm.MethodName) ({ cls := "java/lang/Throwable", name := "fillInStackTrace", desc := "()Ljava/lang/Throwable;" } : Jvm.MethodName)) ∈ tws := tb_2 (List.mem_of_getElem? (i := 49) rfl) rfl
theorem tw_290 : (Jvm.Cond.selects "java/lang/IndexOutOfBoundsException" ({ cls := "java/lang/Throwable", name := "fillInStackTrace", desc := "()Ljava/lang/Throwable;" } : Jvm.MethodName) ({ cls := "java/lang/Throwable", name := "fillInStackTrace", desc := "()Ljava/lang/Throwable;" } : Jvm.MethodName)) ∈ tws := tb_2 (List.mem_of_getElem? (i := 50) rfl) rfl
theorem tw_291 : (Jvm.Cond.codeSync ({ cls := "java/lang/Throwable", name := "fillInStackTrace", desc := "()Ljava/lang/Throwable;" } : Jvm.MethodName) prog_14_method_18_code (1 : Nat) (Option.some (Jvm.ClassFile.FieldType.object "java/lang/Throwable"))) ∈ tws := tb_2 (List.mem_of_getElem? (i := 51) rfl) rfl
theorem tw_292 : (Jvm.Cond.methodLink "java/lang/Throwable" (202 : Nat) ({ cls := "java/lang/Throwable", name := "fillInStackTrace", desc := "(I)Ljava/lang/Throwable;" } : Jvm.MethodName)) ∈ tws := tb_2 (List.mem_of_getElem? (i := 52) rfl) rfl
theorem tw_293 : (Jvm.Cond.privateMethod ({ cls := "java/lang/Throwable", name := "fillInStackTrace", desc := "(I)Ljava/lang/Throwable;" } : Jvm.MethodName)) ∈ tws := tb_2 (List.mem_of_getElem? (i := 53) rfl) rfl
theorem tw_294 : (Jvm.Cond.instanceMethod ({ cls := "java/lang/Throwable", name := "fillInStackTrace", desc := "(I)Ljava/lang/Throwable;" } : Jvm.MethodName)) ∈ tws := tb_2 (List.mem_of_getElem? (i := 54) rfl) rfl
theorem tw_295 : (Jvm.Cond.instantiable "java/lang/Throwable" (6 : Nat)) ∈ tws := tb_2 (List.mem_of_getElem? (i := 55) rfl) rfl
theorem tw_296 : (Jvm.Cond.native ({ cls := "java/lang/Throwable", name := "fillInStackTrace", desc := "(I)Ljava/lang/Throwable;" } : Jvm.MethodName)) ∈ tws := tb_2 (List.mem_of_getElem? (i := 56) rfl) rfl
theorem tx_297 : (Jvm.Cond.stringRef "ChannelRules" (51 : Nat) "a piece joins two points of 0 to 7") ∈ lw_tbl := List.mem_append_right _ (List.mem_append_right _ (List.mem_append_left _ (List.mem_of_getElem? (i := 57) rfl)))
theorem tw_298 : (Jvm.Cond.methodLink "ChannelRules" (53 : Nat) ({ cls := "java/lang/IllegalArgumentException", name := "<init>", desc := "(Ljava/lang/String;)V" } : Jvm.MethodName)) ∈ tws := tb_2 (List.mem_of_getElem? (i := 58) rfl) rfl
theorem tw_299 : (Jvm.Cond.instanceMethod ({ cls := "java/lang/IllegalArgumentException", name := "<init>", desc := "(Ljava/lang/String;)V" } : Jvm.MethodName)) ∈ tws := tb_2 (List.mem_of_getElem? (i := 59) rfl) rfl
theorem tw_300 : (Jvm.Cond.code ({ cls := "java/lang/IllegalArgumentException", name := "<init>", desc := "(Ljava/lang/String;)V" } : Jvm.MethodName) prog_8_method_2_code (2 : Nat) (Option.none : Option Jvm.ClassFile.FieldType)) ∈ tws := tb_2 (List.mem_of_getElem? (i := 60) rfl) rfl
theorem tw_301 : (Jvm.Cond.methodLink "java/lang/IllegalArgumentException" (7 : Nat) ({ cls := "java/lang/RuntimeException", name := "<init>", desc := "(Ljava/lang/String;)V" } : Jvm.MethodName)) ∈ tws := tb_2 (List.mem_of_getElem? (i := 61) rfl) rfl
theorem tw_302 : (Jvm.Cond.instanceMethod ({ cls := "java/lang/RuntimeException", name := "<init>", desc := "(Ljava/lang/String;)V" } : Jvm.MethodName)) ∈ tws := tb_2 (List.mem_of_getElem? (i := 62) rfl) rfl
theorem tw_303 : (Jvm.Cond.code ({ cls := "java/lang/RuntimeException", name := "<init>", desc := "(Ljava/lang/String;)V" } : Jvm.MethodName) prog_12_method_2_code (2 : Nat) (Option.none : Option Jvm.ClassFile.FieldType)) ∈ tws := tb_2 (List.mem_of_getElem? (i := 63) rfl) rfl
theorem tw_304 : (Jvm.Cond.methodLink "java/lang/RuntimeException" (7 : Nat) ({ cls := "java/lang/Exception", name := "<init>", desc := "(Ljava/lang/String;)V" } : Jvm.MethodName)) ∈ tws := tb_2 (List.mem_of_getElem? (i := 64) rfl) rfl
theorem tw_305 : (Jvm.Cond.instanceMethod ({ cls := "java/lang/Exception", name := "<init>", desc := "(Ljava/lang/String;)V" } : Jvm.MethodName)) ∈ tws := tb_2 (List.mem_of_getElem? (i := 65) rfl) rfl
theorem tw_306 : (Jvm.Cond.code ({ cls := "java/lang/Exception", name := "<init>", desc := "(Ljava/lang/String;)V" } : Jvm.MethodName) prog_7_method_2_code (2 : Nat) (Option.none : Option Jvm.ClassFile.FieldType)) ∈ tws := tb_2 (List.mem_of_getElem? (i := 66) rfl) rfl
theorem tw_307 : (Jvm.Cond.methodLink "java/lang/Exception" (7 : Nat) ({ cls := "java/lang/Throwable", name := "<init>", desc := "(Ljava/lang/String;)V" } : Jvm.MethodName)) ∈ tws := tb_2 (List.mem_of_getElem? (i := 67) rfl) rfl
theorem tw_308 : (Jvm.Cond.instanceMethod ({ cls := "java/lang/Throwable", name := "<init>", desc := "(Ljava/lang/String;)V" } : Jvm.MethodName)) ∈ tws := tb_2 (List.mem_of_getElem? (i := 68) rfl) rfl
theorem tw_309 : (Jvm.Cond.code ({ cls := "java/lang/Throwable", name := "<init>", desc := "(Ljava/lang/String;)V" } : Jvm.MethodName) prog_14_method_2_code (2 : Nat) (Option.none : Option Jvm.ClassFile.FieldType)) ∈ tws := tb_2 (List.mem_of_getElem? (i := 69) rfl) rfl
theorem tw_310 : (Jvm.Cond.fieldLink "java/lang/Throwable" (198 : Nat) "java/lang/Throwable" "backtrace" "Ljava/lang/Object;") ∈ tws := tb_2 (List.mem_of_getElem? (i := 70) rfl) rfl
theorem tw_311 : (Jvm.Cond.fieldLink "java/lang/Throwable" (31 : Nat) "java/lang/Throwable" "detailMessage" "Ljava/lang/String;") ∈ tws := tb_2 (List.mem_of_getElem? (i := 71) rfl) rfl
theorem tw_312 : (Jvm.Cond.fieldLink "java/lang/Throwable" (7 : Nat) "java/lang/Throwable" "cause" "Ljava/lang/Throwable;") ∈ tws := tb_2 (List.mem_of_getElem? (i := 72) rfl) rfl
theorem tw_313 : (Jvm.Cond.fieldLink "java/lang/Throwable" (17 : Nat) "java/lang/Throwable" "stackTrace" "[Ljava/lang/StackTraceElement;") ∈ tws := tb_2 (List.mem_of_getElem? (i := 73) rfl) rfl
theorem tw_314 : (Jvm.Cond.fieldLink "java/lang/Throwable" (24 : Nat) "java/lang/Throwable" "suppressedExceptions" "Ljava/util/List;") ∈ tws := tb_2 (List.mem_of_getElem? (i := 74) rfl) rfl
theorem tw_315 : (Jvm.Cond.soleField "java/lang/Throwable" "backtrace") ∈ tws := tb_2 (List.mem_of_getElem? (i := 75) rfl) rfl
theorem tw_316 : (Jvm.Cond.soleField "java/lang/Throwable" "detailMessage") ∈ tws := tb_2 (List.mem_of_getElem? (i := 76) rfl) rfl
theorem tw_317 : (Jvm.Cond.soleField "java/lang/Throwable" "cause") ∈ tws := tb_2 (List.mem_of_getElem? (i := 77) rfl) rfl
theorem tw_318 : (Jvm.Cond.soleField "java/lang/Throwable" "stackTrace") ∈ tws := tb_2 (List.mem_of_getElem? (i := 78) rfl) rfl
theorem tw_319 : (Jvm.Cond.lays "java/lang/IllegalArgumentException" "java/lang/Throwable" "depth" "I") ∈ tws := tb_2 (List.mem_of_getElem? (i := 79) rfl) rfl
theorem tw_320 : (Jvm.Cond.soleField "java/lang/Throwable" "depth") ∈ tws := tb_2 (List.mem_of_getElem? (i := 80) rfl) rfl
theorem tw_321 : (Jvm.Cond.soleField "java/lang/Throwable" "suppressedExceptions") ∈ tws := tb_2 (List.mem_of_getElem? (i := 81) rfl) rfl
theorem tw_322 : (Jvm.Cond.superclass "java/lang/IllegalArgumentException" "java/lang/RuntimeException") ∈ tws := tb_2 (List.mem_of_getElem? (i := 82) rfl) rfl
theorem tw_323 : (Jvm.Cond.arrayClass Jvm.ClassFile.FieldType.byte) ∈ tws := tb_2 (List.mem_of_getElem? (i := 83) rfl) rfl
theorem tx_324 : (Jvm.Cond.stringRef "ChannelRules" (60 : Nat) "length and width are 1 to 100") ∈ lw_tbl := List.mem_append_right _ (List.mem_append_right _ (List.mem_append_left _ (List.mem_of_getElem? (i := 84) rfl)))
theorem tw_325 : (Jvm.Cond.classLink "ChannelRules" (65 : Nat) "java/lang/IllegalStateException") ∈ tws := tb_2 (List.mem_of_getElem? (i := 85) rfl) rfl
theorem tw_326 : (Jvm.Cond.instantiable "java/lang/IllegalStateException" (6 : Nat)) ∈ tws := tb_2 (List.mem_of_getElem? (i := 86) rfl) rfl
theorem tw_327 : (Jvm.Cond.castable "java/lang/IllegalStateException" "java/lang/IllegalStateException") ∈ tws := tb_2 (List.mem_of_getElem? (i := 87) rfl) rfl
theorem tw_328 : (Jvm.Cond.selects "java/lang/IllegalStateException" ({ cls := "java/lang/Throwable", name := "fillInStackTrace", desc := "(I)Ljava/lang/Throwable;" } : Jvm.MethodName) ({ cls := "java/lang/Throwable", name := "fillInStackTrace", desc := "(I)Ljava/lang/Throwable;" } : Jvm.MethodName)) ∈ tws := tb_2 (List.mem_of_getElem? (i := 88) rfl) rfl
theorem tw_329 : (Jvm.Cond.lays "java/lang/IllegalStateException" "java/lang/Throwable" "cause" "Ljava/lang/Throwable;") ∈ tws := tb_2 (List.mem_of_getElem? (i := 89) rfl) rfl
theorem tw_330 : (Jvm.Cond.lays "java/lang/IllegalStateException" "java/lang/Throwable" "stackTrace" "[Ljava/lang/StackTraceElement;") ∈ tws := tb_2 (List.mem_of_getElem? (i := 90) rfl) rfl
theorem tw_331 : (Jvm.Cond.lays "java/lang/IllegalStateException" "java/lang/Throwable" "suppressedExceptions" "Ljava/util/List;") ∈ tws := tb_2 (List.mem_of_getElem? (i := 91) rfl) rfl
theorem tw_332 : (Jvm.Cond.lays "java/lang/IllegalStateException" "java/lang/Throwable" "detailMessage" "Ljava/lang/String;") ∈ tws := tb_2 (List.mem_of_getElem? (i := 92) rfl) rfl
theorem tw_333 : (Jvm.Cond.lays "java/lang/IllegalStateException" "java/lang/Throwable" "backtrace" "Ljava/lang/Object;") ∈ tws := tb_2 (List.mem_of_getElem? (i := 93) rfl) rfl
theorem tx_334 : (Jvm.Cond.stringRef "ChannelRules" (67 : Nat) "there are 12 pieces") ∈ lw_tbl := List.mem_append_right _ (List.mem_append_right _ (List.mem_append_left _ (List.mem_of_getElem? (i := 94) rfl)))
theorem tw_335 : (Jvm.Cond.methodLink "ChannelRules" (69 : Nat) ({ cls := "java/lang/IllegalStateException", name := "<init>", desc := "(Ljava/lang/String;)V" } : Jvm.MethodName)) ∈ tws := tb_2 (List.mem_of_getElem? (i := 95) rfl) rfl
theorem tw_336 : (Jvm.Cond.instanceMethod ({ cls := "java/lang/IllegalStateException", name := "<init>", desc := "(Ljava/lang/String;)V" } : Jvm.MethodName)) ∈ tws := tb_2 (List.mem_of_getElem? (i := 96) rfl) rfl
theorem tw_337 : (Jvm.Cond.code ({ cls := "java/lang/IllegalStateException", name := "<init>", desc := "(Ljava/lang/String;)V" } : Jvm.MethodName) prog_9_method_2_code (2 : Nat) (Option.none : Option Jvm.ClassFile.FieldType)) ∈ tws := tb_2 (List.mem_of_getElem? (i := 97) rfl) rfl
theorem tw_338 : (Jvm.Cond.methodLink "java/lang/IllegalStateException" (7 : Nat) ({ cls := "java/lang/RuntimeException", name := "<init>", desc := "(Ljava/lang/String;)V" } : Jvm.MethodName)) ∈ tws := tb_2 (List.mem_of_getElem? (i := 98) rfl) rfl
theorem tw_339 : (Jvm.Cond.lays "java/lang/IllegalStateException" "java/lang/Throwable" "depth" "I") ∈ tws := tb_2 (List.mem_of_getElem? (i := 99) rfl) rfl
theorem tw_340 : (Jvm.Cond.superclass "java/lang/IllegalStateException" "java/lang/RuntimeException") ∈ tws := tb_2 (List.mem_of_getElem? (i := 100) rfl) rfl
theorem tw_341 : (Jvm.Cond.methodLink "ChannelRules" (70 : Nat) ({ cls := "ChannelRules$Pieces", name := "add", desc := "(IIII)I" } : Jvm.MethodName)) ∈ tws := tb_2 (List.mem_of_getElem? (i := 101) rfl) rfl
theorem tw_342 : (Jvm.Cond.instanceMethod ({ cls := "ChannelRules$Pieces", name := "add", desc := "(IIII)I" } : Jvm.MethodName)) ∈ tws := tb_2 (List.mem_of_getElem? (i := 102) rfl) rfl
theorem tw_343 : (Jvm.Cond.selects "ChannelRules$Pieces" ({ cls := "ChannelRules$Pieces", name := "add", desc := "(IIII)I" } : Jvm.MethodName) ({ cls := "ChannelRules$Pieces", name := "add", desc := "(IIII)I" } : Jvm.MethodName)) ∈ tws := tb_2 (List.mem_of_getElem? (i := 103) rfl) rfl
theorem tw_344 : (Jvm.Cond.code ({ cls := "ChannelRules$Pieces", name := "add", desc := "(IIII)I" } : Jvm.MethodName) prog_3_method_3_code (6 : Nat) (Option.some Jvm.ClassFile.FieldType.int)) ∈ tws := tb_2 (List.mem_of_getElem? (i := 104) rfl) rfl
theorem tw_345 : (Jvm.Cond.methodLink "ChannelRules$Pieces" (44 : Nat) ({ cls := "ChannelRules$Pieces", name := "setRule", desc := "(III)V" } : Jvm.MethodName)) ∈ tws := tb_2 (List.mem_of_getElem? (i := 105) rfl) rfl
theorem tw_346 : (Jvm.Cond.methodLink "ChannelRulesLaw" (69 : Nat) ({ cls := "ChannelRulesLaw", name := "ship", desc := "(LChannelRules;III[J)I" } : Jvm.MethodName)) ∈ tws := tb_2 (List.mem_of_getElem? (i := 106) rfl) rfl
theorem tw_347 : (Jvm.Cond.static ({ cls := "ChannelRulesLaw", name := "ship", desc := "(LChannelRules;III[J)I" } : Jvm.MethodName)) ∈ tws := tb_2 (List.mem_of_getElem? (i := 107) rfl) rfl
theorem tw_348 : (Jvm.Cond.codeWith ({ cls := "ChannelRulesLaw", name := "ship", desc := "(LChannelRules;III[J)I" } : Jvm.MethodName) method_4_code (6 : Nat) (Option.some Jvm.ClassFile.FieldType.int) [((0 : Nat), (12 : Nat), (15 : Nat), (13 : Nat)), ((0 : Nat), (12 : Nat), (19 : Nat), (15 : Nat))]) ∈ tws := tb_2 (List.mem_of_getElem? (i := 108) rfl) rfl
theorem tw_349 : (Jvm.Cond.methodLink "ChannelRulesLaw" (17 : Nat) ({ cls := "ChannelRules", name := "ship", desc := "(III)I" } : Jvm.MethodName)) ∈ tws := tb_2 (List.mem_of_getElem? (i := 109) rfl) rfl
theorem tw_350 : (Jvm.Cond.instanceMethod ({ cls := "ChannelRules", name := "ship", desc := "(III)I" } : Jvm.MethodName)) ∈ tws := tb_2 (List.mem_of_getElem? (i := 110) rfl) rfl
theorem tw_351 : (Jvm.Cond.selects "ChannelRules" ({ cls := "ChannelRules", name := "ship", desc := "(III)I" } : Jvm.MethodName) ({ cls := "ChannelRules", name := "ship", desc := "(III)I" } : Jvm.MethodName)) ∈ tws := tb_2 (List.mem_of_getElem? (i := 111) rfl) rfl
theorem tw_352 : (Jvm.Cond.code ({ cls := "ChannelRules", name := "ship", desc := "(III)I" } : Jvm.MethodName) prog_1_method_5_code (4 : Nat) (Option.some Jvm.ClassFile.FieldType.int)) ∈ tws := tb_2 (List.mem_of_getElem? (i := 112) rfl) rfl
theorem tx_353 : (Jvm.Cond.stringRef "ChannelRules" (84 : Nat) "width is 1 to 100, speed 1 to 20, class 0 to 2") ∈ lw_tbl := List.mem_append_right _ (List.mem_append_right _ (List.mem_append_left _ (List.mem_of_getElem? (i := 113) rfl)))
theorem tx_354 : (Jvm.Cond.stringRef "ChannelRules" (87 : Nat) "there are 12 ships") ∈ lw_tbl := List.mem_append_right _ (List.mem_append_right _ (List.mem_append_left _ (List.mem_of_getElem? (i := 114) rfl)))
theorem tw_355 : (Jvm.Cond.methodLink "ChannelRules" (89 : Nat) ({ cls := "ChannelRules$Ships", name := "add", desc := "(III)I" } : Jvm.MethodName)) ∈ tws := tb_2 (List.mem_of_getElem? (i := 115) rfl) rfl
theorem tw_356 : (Jvm.Cond.instanceMethod ({ cls := "ChannelRules$Ships", name := "add", desc := "(III)I" } : Jvm.MethodName)) ∈ tws := tb_2 (List.mem_of_getElem? (i := 116) rfl) rfl
theorem tw_357 : (Jvm.Cond.selects "ChannelRules$Ships" ({ cls := "ChannelRules$Ships", name := "add", desc := "(III)I" } : Jvm.MethodName) ({ cls := "ChannelRules$Ships", name := "add", desc := "(III)I" } : Jvm.MethodName)) ∈ tws := tb_2 (List.mem_of_getElem? (i := 117) rfl) rfl
theorem tw_358 : (Jvm.Cond.code ({ cls := "ChannelRules$Ships", name := "add", desc := "(III)I" } : Jvm.MethodName) prog_4_method_3_code (5 : Nat) (Option.some Jvm.ClassFile.FieldType.int)) ∈ tws := tb_2 (List.mem_of_getElem? (i := 118) rfl) rfl
theorem tw_359 : (Jvm.Cond.methodLink "ChannelRulesLaw" (73 : Nat) ({ cls := "ChannelRulesLaw", name := "route", desc := "(LChannelRules;IIII[J)I" } : Jvm.MethodName)) ∈ tws := tb_2 (List.mem_of_getElem? (i := 119) rfl) rfl
theorem tw_360 : (Jvm.Cond.static ({ cls := "ChannelRulesLaw", name := "route", desc := "(LChannelRules;IIII[J)I" } : Jvm.MethodName)) ∈ tws := tb_2 (List.mem_of_getElem? (i := 120) rfl) rfl
theorem tw_361 : (Jvm.Cond.codeWith ({ cls := "ChannelRulesLaw", name := "route", desc := "(LChannelRules;IIII[J)I" } : Jvm.MethodName) method_5_code (7 : Nat) (Option.some Jvm.ClassFile.FieldType.int) [((0 : Nat), (14 : Nat), (17 : Nat), (13 : Nat))]) ∈ tws := tb_2 (List.mem_of_getElem? (i := 121) rfl) rfl
theorem tw_362 : (Jvm.Cond.methodLink "ChannelRulesLaw" (21 : Nat) ({ cls := "ChannelRules", name := "route", desc := "(IIII)I" } : Jvm.MethodName)) ∈ tws := tb_2 (List.mem_of_getElem? (i := 122) rfl) rfl
theorem tw_363 : (Jvm.Cond.instanceMethod ({ cls := "ChannelRules", name := "route", desc := "(IIII)I" } : Jvm.MethodName)) ∈ tws := tb_2 (List.mem_of_getElem? (i := 123) rfl) rfl
theorem tw_364 : (Jvm.Cond.selects "ChannelRules" ({ cls := "ChannelRules", name := "route", desc := "(IIII)I" } : Jvm.MethodName) ({ cls := "ChannelRules", name := "route", desc := "(IIII)I" } : Jvm.MethodName)) ∈ tws := tb_2 (List.mem_of_getElem? (i := 124) rfl) rfl
theorem tw_365 : (Jvm.Cond.code ({ cls := "ChannelRules", name := "route", desc := "(IIII)I" } : Jvm.MethodName) prog_1_method_6_code (5 : Nat) (Option.some Jvm.ClassFile.FieldType.int)) ∈ tws := tb_2 (List.mem_of_getElem? (i := 125) rfl) rfl
theorem tw_366 : (Jvm.Cond.methodLink "ChannelRules" (92 : Nat) ({ cls := "ChannelRules", name := "isVoyage", desc := "(III)Z" } : Jvm.MethodName)) ∈ tws := tb_2 (List.mem_of_getElem? (i := 126) rfl) rfl
theorem tw_367 : (Jvm.Cond.privateMethod ({ cls := "ChannelRules", name := "isVoyage", desc := "(III)Z" } : Jvm.MethodName)) ∈ tws := tb_2 (List.mem_of_getElem? (i := 127) rfl) rfl
theorem tw_368 : (Jvm.Cond.instanceMethod ({ cls := "ChannelRules", name := "isVoyage", desc := "(III)Z" } : Jvm.MethodName)) ∈ tws := tb_2 (List.mem_of_getElem? (i := 128) rfl) rfl
theorem tw_369 : (Jvm.Cond.code ({ cls := "ChannelRules", name := "isVoyage", desc := "(III)Z" } : Jvm.MethodName) prog_1_method_19_code (4 : Nat) (Option.some Jvm.ClassFile.FieldType.boolean)) ∈ tws := tb_2 (List.mem_of_getElem? (i := 129) rfl) rfl
theorem tw_370 : (Jvm.Cond.methodLink "ChannelRules" (185 : Nat) ({ cls := "ChannelRules$Ships", name := "has", desc := "(I)Z" } : Jvm.MethodName)) ∈ tws := tb_2 (List.mem_of_getElem? (i := 130) rfl) rfl
theorem tw_371 : (Jvm.Cond.instanceMethod ({ cls := "ChannelRules$Ships", name := "has", desc := "(I)Z" } : Jvm.MethodName)) ∈ tws := tb_2 (List.mem_of_getElem? (i := 131) rfl) rfl
theorem tw_372 : (Jvm.Cond.selects "ChannelRules$Ships" ({ cls := "ChannelRules$Ships", name := "has", desc := "(I)Z" } : Jvm.MethodName) ({ cls := "ChannelRules$Ships", name := "has", desc := "(I)Z" } : Jvm.MethodName)) ∈ tws := tb_2 (List.mem_of_getElem? (i := 132) rfl) rfl
theorem tw_373 : (Jvm.Cond.code ({ cls := "ChannelRules$Ships", name := "has", desc := "(I)Z" } : Jvm.MethodName) prog_4_method_2_code (2 : Nat) (Option.some Jvm.ClassFile.FieldType.boolean)) ∈ tws := tb_2 (List.mem_of_getElem? (i := 133) rfl) rfl
theorem tw_374 : (Jvm.Cond.methodLinkNest "ChannelRules$Ships" (25 : Nat) ({ cls := "ChannelRules", name := "isWithin", desc := "(III)Z" } : Jvm.MethodName) "ChannelRules") ∈ tws := tb_2 (List.mem_of_getElem? (i := 134) rfl) rfl
theorem tx_375 : (Jvm.Cond.stringRef "ChannelRules" (95 : Nat) "no such ship, points or what") ∈ lw_tbl := List.mem_append_right _ (List.mem_append_right _ (List.mem_append_left _ (List.mem_of_getElem? (i := 135) rfl)))
theorem tw_376 : (Jvm.Cond.methodLink "ChannelRules" (97 : Nat) ({ cls := "ChannelRules", name := "planRoute", desc := "(III)Z" } : Jvm.MethodName)) ∈ tws := tb_2 (List.mem_of_getElem? (i := 136) rfl) rfl
theorem tw_377 : (Jvm.Cond.privateMethod ({ cls := "ChannelRules", name := "planRoute", desc := "(III)Z" } : Jvm.MethodName)) ∈ tws := tb_2 (List.mem_of_getElem? (i := 137) rfl) rfl
theorem tw_378 : (Jvm.Cond.instanceMethod ({ cls := "ChannelRules", name := "planRoute", desc := "(III)Z" } : Jvm.MethodName)) ∈ tws := tb_2 (List.mem_of_getElem? (i := 138) rfl) rfl
theorem tw_379 : (Jvm.Cond.code ({ cls := "ChannelRules", name := "planRoute", desc := "(III)Z" } : Jvm.MethodName) prog_1_method_22_code (7 : Nat) (Option.some Jvm.ClassFile.FieldType.boolean)) ∈ tws := tb_2 (List.mem_of_getElem? (i := 139) rfl) rfl
theorem tw_380 : (Jvm.Cond.methodLink "ChannelRules" (186 : Nat) ({ cls := "ChannelRules$Passages", name := "startPlan", desc := "(I)V" } : Jvm.MethodName)) ∈ tws := tb_2 (List.mem_of_getElem? (i := 140) rfl) rfl
theorem tw_381 : (Jvm.Cond.instanceMethod ({ cls := "ChannelRules$Passages", name := "startPlan", desc := "(I)V" } : Jvm.MethodName)) ∈ tws := tb_2 (List.mem_of_getElem? (i := 141) rfl) rfl
theorem tw_382 : (Jvm.Cond.selects "ChannelRules$Passages" ({ cls := "ChannelRules$Passages", name := "startPlan", desc := "(I)V" } : Jvm.MethodName) ({ cls := "ChannelRules$Passages", name := "startPlan", desc := "(I)V" } : Jvm.MethodName)) ∈ tws := tb_2 (List.mem_of_getElem? (i := 142) rfl) rfl
theorem tw_383 : (Jvm.Cond.code ({ cls := "ChannelRules$Passages", name := "startPlan", desc := "(I)V" } : Jvm.MethodName) prog_2_method_10_code (3 : Nat) (Option.none : Option Jvm.ClassFile.FieldType)) ∈ tws := tb_2 (List.mem_of_getElem? (i := 143) rfl) rfl
theorem tw_384 : (Jvm.Cond.methodLink "ChannelRules" (190 : Nat) ({ cls := "ChannelRules", name := "measureTimeLeft", desc := "(II)V" } : Jvm.MethodName)) ∈ tws := tb_2 (List.mem_of_getElem? (i := 144) rfl) rfl
theorem tw_385 : (Jvm.Cond.privateMethod ({ cls := "ChannelRules", name := "measureTimeLeft", desc := "(II)V" } : Jvm.MethodName)) ∈ tws := tb_2 (List.mem_of_getElem? (i := 145) rfl) rfl
theorem tw_386 : (Jvm.Cond.instanceMethod ({ cls := "ChannelRules", name := "measureTimeLeft", desc := "(II)V" } : Jvm.MethodName)) ∈ tws := tb_2 (List.mem_of_getElem? (i := 146) rfl) rfl
theorem tw_387 : (Jvm.Cond.code ({ cls := "ChannelRules", name := "measureTimeLeft", desc := "(II)V" } : Jvm.MethodName) prog_1_method_23_code (5 : Nat) (Option.none : Option Jvm.ClassFile.FieldType)) ∈ tws := tb_2 (List.mem_of_getElem? (i := 147) rfl) rfl
theorem tw_388 : (Jvm.Cond.constant "ChannelRules" (210 : Nat) (1000000 : Int32)) ∈ tws := tb_2 (List.mem_of_getElem? (i := 148) rfl) rfl
theorem tw_389 : (Jvm.Cond.methodLink "ChannelRules" (211 : Nat) ({ cls := "ChannelRules", name := "fits", desc := "(II)Z" } : Jvm.MethodName)) ∈ tws := tb_2 (List.mem_of_getElem? (i := 149) rfl) rfl
theorem tw_390 : (Jvm.Cond.privateMethod ({ cls := "ChannelRules", name := "fits", desc := "(II)Z" } : Jvm.MethodName)) ∈ tws := tb_2 (List.mem_of_getElem? (i := 150) rfl) rfl
theorem tw_391 : (Jvm.Cond.instanceMethod ({ cls := "ChannelRules", name := "fits", desc := "(II)Z" } : Jvm.MethodName)) ∈ tws := tb_2 (List.mem_of_getElem? (i := 151) rfl) rfl
theorem tw_392 : (Jvm.Cond.code ({ cls := "ChannelRules", name := "fits", desc := "(II)Z" } : Jvm.MethodName) prog_1_method_26_code (3 : Nat) (Option.some Jvm.ClassFile.FieldType.boolean)) ∈ tws := tb_2 (List.mem_of_getElem? (i := 152) rfl) rfl
theorem tw_393 : (Jvm.Cond.methodLink "ChannelRules" (200 : Nat) ({ cls := "ChannelRules", name := "travelTime", desc := "(II)I" } : Jvm.MethodName)) ∈ tws := tb_2 (List.mem_of_getElem? (i := 153) rfl) rfl
theorem tw_394 : (Jvm.Cond.privateMethod ({ cls := "ChannelRules", name := "travelTime", desc := "(II)I" } : Jvm.MethodName)) ∈ tws := tb_2 (List.mem_of_getElem? (i := 154) rfl) rfl
theorem tw_395 : (Jvm.Cond.instanceMethod ({ cls := "ChannelRules", name := "travelTime", desc := "(II)I" } : Jvm.MethodName)) ∈ tws := tb_2 (List.mem_of_getElem? (i := 155) rfl) rfl
theorem tw_396 : (Jvm.Cond.code ({ cls := "ChannelRules", name := "travelTime", desc := "(II)I" } : Jvm.MethodName) prog_1_method_27_code (4 : Nat) (Option.some Jvm.ClassFile.FieldType.int)) ∈ tws := tb_2 (List.mem_of_getElem? (i := 156) rfl) rfl
theorem tw_397 : (Jvm.Cond.methodLink "ChannelRules" (214 : Nat) ({ cls := "ChannelRules", name := "shortenBy", desc := "(II)V" } : Jvm.MethodName)) ∈ tws := tb_2 (List.mem_of_getElem? (i := 157) rfl) rfl
theorem tw_398 : (Jvm.Cond.privateMethod ({ cls := "ChannelRules", name := "shortenBy", desc := "(II)V" } : Jvm.MethodName)) ∈ tws := tb_2 (List.mem_of_getElem? (i := 158) rfl) rfl
theorem tw_399 : (Jvm.Cond.instanceMethod ({ cls := "ChannelRules", name := "shortenBy", desc := "(II)V" } : Jvm.MethodName)) ∈ tws := tb_2 (List.mem_of_getElem? (i := 159) rfl) rfl
theorem tw_400 : (Jvm.Cond.code ({ cls := "ChannelRules", name := "shortenBy", desc := "(II)V" } : Jvm.MethodName) prog_1_method_24_code (5 : Nat) (Option.none : Option Jvm.ClassFile.FieldType)) ∈ tws := tb_2 (List.mem_of_getElem? (i := 160) rfl) rfl
theorem tw_401 : (Jvm.Cond.methodLink "ChannelRules" (126 : Nat) ({ cls := "java/lang/Math", name := "min", desc := "(II)I" } : Jvm.MethodName)) ∈ tws := tb_2 (List.mem_of_getElem? (i := 161) rfl) rfl
theorem tw_402 : (Jvm.Cond.static ({ cls := "java/lang/Math", name := "min", desc := "(II)I" } : Jvm.MethodName)) ∈ tws := tb_2 (List.mem_of_getElem? (i := 162) rfl) rfl
theorem tw_403 : (Jvm.Cond.code ({ cls := "java/lang/Math", name := "min", desc := "(II)I" } : Jvm.MethodName) prog_11_method_69_code (2 : Nat) (Option.some Jvm.ClassFile.FieldType.int)) ∈ tws := tb_2 (List.mem_of_getElem? (i := 163) rfl) rfl
theorem tw_404 : (Jvm.Cond.methodLink "ChannelRules" (194 : Nat) ({ cls := "ChannelRules", name := "nextPiece", desc := "(II)I" } : Jvm.MethodName)) ∈ tws := tb_2 (List.mem_of_getElem? (i := 164) rfl) rfl
theorem tw_405 : (Jvm.Cond.privateMethod ({ cls := "ChannelRules", name := "nextPiece", desc := "(II)I" } : Jvm.MethodName)) ∈ tws := tb_2 (List.mem_of_getElem? (i := 165) rfl) rfl
theorem tw_406 : (Jvm.Cond.instanceMethod ({ cls := "ChannelRules", name := "nextPiece", desc := "(II)I" } : Jvm.MethodName)) ∈ tws := tb_2 (List.mem_of_getElem? (i := 166) rfl) rfl
theorem tw_407 : (Jvm.Cond.code ({ cls := "ChannelRules", name := "nextPiece", desc := "(II)I" } : Jvm.MethodName) prog_1_method_25_code (5 : Nat) (Option.some Jvm.ClassFile.FieldType.int)) ∈ tws := tb_2 (List.mem_of_getElem? (i := 167) rfl) rfl
theorem tw_408 : (Jvm.Cond.methodLink "ChannelRules" (207 : Nat) ({ cls := "ChannelRules$Pieces", name := "otherEnd", desc := "(II)I" } : Jvm.MethodName)) ∈ tws := tb_2 (List.mem_of_getElem? (i := 168) rfl) rfl
theorem tw_409 : (Jvm.Cond.instanceMethod ({ cls := "ChannelRules$Pieces", name := "otherEnd", desc := "(II)I" } : Jvm.MethodName)) ∈ tws := tb_2 (List.mem_of_getElem? (i := 169) rfl) rfl
theorem tw_410 : (Jvm.Cond.selects "ChannelRules$Pieces" ({ cls := "ChannelRules$Pieces", name := "otherEnd", desc := "(II)I" } : Jvm.MethodName) ({ cls := "ChannelRules$Pieces", name := "otherEnd", desc := "(II)I" } : Jvm.MethodName)) ∈ tws := tb_2 (List.mem_of_getElem? (i := 170) rfl) rfl
theorem tw_411 : (Jvm.Cond.code ({ cls := "ChannelRules$Pieces", name := "otherEnd", desc := "(II)I" } : Jvm.MethodName) prog_3_method_4_code (3 : Nat) (Option.some Jvm.ClassFile.FieldType.int)) ∈ tws := tb_2 (List.mem_of_getElem? (i := 171) rfl) rfl
theorem tw_412 : (Jvm.Cond.methodLink "ChannelRules" (203 : Nat) ({ cls := "ChannelRules$Passages", name := "addStay", desc := "(IZI)V" } : Jvm.MethodName)) ∈ tws := tb_2 (List.mem_of_getElem? (i := 172) rfl) rfl
theorem tw_413 : (Jvm.Cond.instanceMethod ({ cls := "ChannelRules$Passages", name := "addStay", desc := "(IZI)V" } : Jvm.MethodName)) ∈ tws := tb_2 (List.mem_of_getElem? (i := 173) rfl) rfl
theorem tw_414 : (Jvm.Cond.selects "ChannelRules$Passages" ({ cls := "ChannelRules$Passages", name := "addStay", desc := "(IZI)V" } : Jvm.MethodName) ({ cls := "ChannelRules$Passages", name := "addStay", desc := "(IZI)V" } : Jvm.MethodName)) ∈ tws := tb_2 (List.mem_of_getElem? (i := 174) rfl) rfl
theorem tw_415 : (Jvm.Cond.code ({ cls := "ChannelRules$Passages", name := "addStay", desc := "(IZI)V" } : Jvm.MethodName) prog_2_method_11_code (5 : Nat) (Option.none : Option Jvm.ClassFile.FieldType)) ∈ tws := tb_2 (List.mem_of_getElem? (i := 175) rfl) rfl
theorem tw_416 : (Jvm.Cond.methodLink "ChannelRulesLaw" (76 : Nat) ({ cls := "ChannelRulesLaw", name := "ask", desc := "(LChannelRules;IIII[J)I" } : Jvm.MethodName)) ∈ tws := tb_2 (List.mem_of_getElem? (i := 176) rfl) rfl
theorem tw_417 : (Jvm.Cond.static ({ cls := "ChannelRulesLaw", name := "ask", desc := "(LChannelRules;IIII[J)I" } : Jvm.MethodName)) ∈ tws := tb_2 (List.mem_of_getElem? (i := 177) rfl) rfl
theorem tw_418 : (Jvm.Cond.codeWith ({ cls := "ChannelRulesLaw", name := "ask", desc := "(LChannelRules;IIII[J)I" } : Jvm.MethodName) method_6_code (7 : Nat) (Option.some Jvm.ClassFile.FieldType.int) [((0 : Nat), (14 : Nat), (17 : Nat), (13 : Nat)), ((0 : Nat), (14 : Nat), (21 : Nat), (15 : Nat))]) ∈ tws := tb_2 (List.mem_of_getElem? (i := 178) rfl) rfl
theorem tw_419 : (Jvm.Cond.methodLink "ChannelRulesLaw" (24 : Nat) ({ cls := "ChannelRules", name := "ask", desc := "(IIII)I" } : Jvm.MethodName)) ∈ tws := tb_2 (List.mem_of_getElem? (i := 179) rfl) rfl
theorem tw_420 : (Jvm.Cond.instanceMethod ({ cls := "ChannelRules", name := "ask", desc := "(IIII)I" } : Jvm.MethodName)) ∈ tws := tb_2 (List.mem_of_getElem? (i := 180) rfl) rfl
theorem tw_421 : (Jvm.Cond.selects "ChannelRules" ({ cls := "ChannelRules", name := "ask", desc := "(IIII)I" } : Jvm.MethodName) ({ cls := "ChannelRules", name := "ask", desc := "(IIII)I" } : Jvm.MethodName)) ∈ tws := tb_2 (List.mem_of_getElem? (i := 181) rfl) rfl
theorem tw_422 : (Jvm.Cond.code ({ cls := "ChannelRules", name := "ask", desc := "(IIII)I" } : Jvm.MethodName) prog_1_method_7_code (6 : Nat) (Option.some Jvm.ClassFile.FieldType.int)) ∈ tws := tb_2 (List.mem_of_getElem? (i := 182) rfl) rfl
theorem tx_423 : (Jvm.Cond.stringRef "ChannelRules" (108 : Nat) "no such ship or points, or not such a time") ∈ lw_tbl := List.mem_append_right _ (List.mem_append_right _ (List.mem_append_left _ (List.mem_of_getElem? (i := 183) rfl)))
theorem tx_424 : (Jvm.Cond.stringRef "ChannelRules" (113 : Nat) "there are 30 slots") ∈ lw_tbl := List.mem_append_right _ (List.mem_append_right _ (List.mem_append_left _ (List.mem_of_getElem? (i := 184) rfl)))
theorem tw_425 : (Jvm.Cond.methodLink "ChannelRules" (118 : Nat) ({ cls := "ChannelRules", name := "firstBar", desc := "(I)I" } : Jvm.MethodName)) ∈ tws := tb_2 (List.mem_of_getElem? (i := 185) rfl) rfl
theorem tw_426 : (Jvm.Cond.privateMethod ({ cls := "ChannelRules", name := "firstBar", desc := "(I)I" } : Jvm.MethodName)) ∈ tws := tb_2 (List.mem_of_getElem? (i := 186) rfl) rfl
theorem tw_427 : (Jvm.Cond.instanceMethod ({ cls := "ChannelRules", name := "firstBar", desc := "(I)I" } : Jvm.MethodName)) ∈ tws := tb_2 (List.mem_of_getElem? (i := 187) rfl) rfl
theorem tw_428 : (Jvm.Cond.code ({ cls := "ChannelRules", name := "firstBar", desc := "(I)I" } : Jvm.MethodName) prog_1_method_28_code (4 : Nat) (Option.some Jvm.ClassFile.FieldType.int)) ∈ tws := tb_2 (List.mem_of_getElem? (i := 188) rfl) rfl
theorem tw_429 : (Jvm.Cond.methodLink "ChannelRules" (230 : Nat) ({ cls := "ChannelRules", name := "barByPiece", desc := "(II)I" } : Jvm.MethodName)) ∈ tws := tb_2 (List.mem_of_getElem? (i := 189) rfl) rfl
theorem tw_430 : (Jvm.Cond.privateMethod ({ cls := "ChannelRules", name := "barByPiece", desc := "(II)I" } : Jvm.MethodName)) ∈ tws := tb_2 (List.mem_of_getElem? (i := 190) rfl) rfl
theorem tw_431 : (Jvm.Cond.instanceMethod ({ cls := "ChannelRules", name := "barByPiece", desc := "(II)I" } : Jvm.MethodName)) ∈ tws := tb_2 (List.mem_of_getElem? (i := 191) rfl) rfl
theorem tw_432 : (Jvm.Cond.code ({ cls := "ChannelRules", name := "barByPiece", desc := "(II)I" } : Jvm.MethodName) prog_1_method_29_code (6 : Nat) (Option.some Jvm.ClassFile.FieldType.int)) ∈ tws := tb_2 (List.mem_of_getElem? (i := 192) rfl) rfl
theorem tw_433 : (Jvm.Cond.methodLink "ChannelRules" (236 : Nat) ({ cls := "ChannelRules", name := "isAgainstOneWay", desc := "(II)Z" } : Jvm.MethodName)) ∈ tws := tb_2 (List.mem_of_getElem? (i := 193) rfl) rfl
theorem tw_434 : (Jvm.Cond.privateMethod ({ cls := "ChannelRules", name := "isAgainstOneWay", desc := "(II)Z" } : Jvm.MethodName)) ∈ tws := tb_2 (List.mem_of_getElem? (i := 194) rfl) rfl
theorem tw_435 : (Jvm.Cond.instanceMethod ({ cls := "ChannelRules", name := "isAgainstOneWay", desc := "(II)Z" } : Jvm.MethodName)) ∈ tws := tb_2 (List.mem_of_getElem? (i := 195) rfl) rfl
theorem tw_436 : (Jvm.Cond.code ({ cls := "ChannelRules", name := "isAgainstOneWay", desc := "(II)Z" } : Jvm.MethodName) prog_1_method_30_code (4 : Nat) (Option.some Jvm.ClassFile.FieldType.boolean)) ∈ tws := tb_2 (List.mem_of_getElem? (i := 196) rfl) rfl
theorem tw_437 : (Jvm.Cond.methodLink "ChannelRules" (239 : Nat) ({ cls := "ChannelRules", name := "isBarredAtNight", desc := "(II)Z" } : Jvm.MethodName)) ∈ tws := tb_2 (List.mem_of_getElem? (i := 197) rfl) rfl
theorem tw_438 : (Jvm.Cond.privateMethod ({ cls := "ChannelRules", name := "isBarredAtNight", desc := "(II)Z" } : Jvm.MethodName)) ∈ tws := tb_2 (List.mem_of_getElem? (i := 198) rfl) rfl
theorem tw_439 : (Jvm.Cond.instanceMethod ({ cls := "ChannelRules", name := "isBarredAtNight", desc := "(II)Z" } : Jvm.MethodName)) ∈ tws := tb_2 (List.mem_of_getElem? (i := 199) rfl) rfl
theorem tw_440 : (Jvm.Cond.code ({ cls := "ChannelRules", name := "isBarredAtNight", desc := "(II)Z" } : Jvm.MethodName) prog_1_method_31_code (7 : Nat) (Option.some Jvm.ClassFile.FieldType.boolean)) ∈ tws := tb_2 (List.mem_of_getElem? (i := 200) rfl) rfl
theorem tw_441 : (Jvm.Cond.methodLink "ChannelRules" (242 : Nat) ({ cls := "ChannelRules", name := "isBarredInWind", desc := "(II)Z" } : Jvm.MethodName)) ∈ tws := tb_2 (List.mem_of_getElem? (i := 201) rfl) rfl
theorem tw_442 : (Jvm.Cond.privateMethod ({ cls := "ChannelRules", name := "isBarredInWind", desc := "(II)Z" } : Jvm.MethodName)) ∈ tws := tb_2 (List.mem_of_getElem? (i := 202) rfl) rfl
theorem tw_443 : (Jvm.Cond.instanceMethod ({ cls := "ChannelRules", name := "isBarredInWind", desc := "(II)Z" } : Jvm.MethodName)) ∈ tws := tb_2 (List.mem_of_getElem? (i := 203) rfl) rfl
theorem tw_444 : (Jvm.Cond.code ({ cls := "ChannelRules", name := "isBarredInWind", desc := "(II)Z" } : Jvm.MethodName) prog_1_method_32_code (4 : Nat) (Option.some Jvm.ClassFile.FieldType.boolean)) ∈ tws := tb_2 (List.mem_of_getElem? (i := 204) rfl) rfl
theorem tw_445 : (Jvm.Cond.methodLink "ChannelRules" (245 : Nat) ({ cls := "ChannelRules$Pieces", name := "closedFor", desc := "(III)I" } : Jvm.MethodName)) ∈ tws := tb_2 (List.mem_of_getElem? (i := 205) rfl) rfl
theorem tw_446 : (Jvm.Cond.instanceMethod ({ cls := "ChannelRules$Pieces", name := "closedFor", desc := "(III)I" } : Jvm.MethodName)) ∈ tws := tb_2 (List.mem_of_getElem? (i := 206) rfl) rfl
theorem tw_447 : (Jvm.Cond.selects "ChannelRules$Pieces" ({ cls := "ChannelRules$Pieces", name := "closedFor", desc := "(III)I" } : Jvm.MethodName) ({ cls := "ChannelRules$Pieces", name := "closedFor", desc := "(III)I" } : Jvm.MethodName)) ∈ tws := tb_2 (List.mem_of_getElem? (i := 207) rfl) rfl
theorem tw_448 : (Jvm.Cond.code ({ cls := "ChannelRules$Pieces", name := "closedFor", desc := "(III)I" } : Jvm.MethodName) prog_3_method_8_code (7 : Nat) (Option.some Jvm.ClassFile.FieldType.int)) ∈ tws := tb_2 (List.mem_of_getElem? (i := 208) rfl) rfl
theorem tw_449 : (Jvm.Cond.methodLinkNest "ChannelRules$Pieces" (48 : Nat) ({ cls := "ChannelRules", name := "shareMinute", desc := "(IIII)Z" } : Jvm.MethodName) "ChannelRules") ∈ tws := tb_2 (List.mem_of_getElem? (i := 209) rfl) rfl
theorem tw_450 : (Jvm.Cond.methodLink "ChannelRules$Pieces" (52 : Nat) ({ cls := "java/lang/Math", name := "max", desc := "(II)I" } : Jvm.MethodName)) ∈ tws := tb_2 (List.mem_of_getElem? (i := 210) rfl) rfl
theorem tw_451 : (Jvm.Cond.static ({ cls := "java/lang/Math", name := "max", desc := "(II)I" } : Jvm.MethodName)) ∈ tws := tb_2 (List.mem_of_getElem? (i := 211) rfl) rfl
theorem tw_452 : (Jvm.Cond.code ({ cls := "java/lang/Math", name := "max", desc := "(II)I" } : Jvm.MethodName) prog_11_method_65_code (2 : Nat) (Option.some Jvm.ClassFile.FieldType.int)) ∈ tws := tb_2 (List.mem_of_getElem? (i := 212) rfl) rfl
theorem tw_453 : (Jvm.Cond.methodLink "ChannelRules" (233 : Nat) ({ cls := "ChannelRules", name := "barBySlots", desc := "(II)I" } : Jvm.MethodName)) ∈ tws := tb_2 (List.mem_of_getElem? (i := 213) rfl) rfl
theorem tw_454 : (Jvm.Cond.privateMethod ({ cls := "ChannelRules", name := "barBySlots", desc := "(II)I" } : Jvm.MethodName)) ∈ tws := tb_2 (List.mem_of_getElem? (i := 214) rfl) rfl
theorem tw_455 : (Jvm.Cond.instanceMethod ({ cls := "ChannelRules", name := "barBySlots", desc := "(II)I" } : Jvm.MethodName)) ∈ tws := tb_2 (List.mem_of_getElem? (i := 215) rfl) rfl
theorem tw_456 : (Jvm.Cond.code ({ cls := "ChannelRules", name := "barBySlots", desc := "(II)I" } : Jvm.MethodName) prog_1_method_33_code (6 : Nat) (Option.some Jvm.ClassFile.FieldType.int)) ∈ tws := tb_2 (List.mem_of_getElem? (i := 216) rfl) rfl
theorem tw_457 : (Jvm.Cond.methodLink "ChannelRules" (122 : Nat) ({ cls := "ChannelRules$Passages", name := "giveSlot", desc := "()I" } : Jvm.MethodName)) ∈ tws := tb_2 (List.mem_of_getElem? (i := 217) rfl) rfl
theorem tw_458 : (Jvm.Cond.instanceMethod ({ cls := "ChannelRules$Passages", name := "giveSlot", desc := "()I" } : Jvm.MethodName)) ∈ tws := tb_2 (List.mem_of_getElem? (i := 218) rfl) rfl
theorem tw_459 : (Jvm.Cond.selects "ChannelRules$Passages" ({ cls := "ChannelRules$Passages", name := "giveSlot", desc := "()I" } : Jvm.MethodName) ({ cls := "ChannelRules$Passages", name := "giveSlot", desc := "()I" } : Jvm.MethodName)) ∈ tws := tb_2 (List.mem_of_getElem? (i := 219) rfl) rfl
theorem tw_460 : (Jvm.Cond.code ({ cls := "ChannelRules$Passages", name := "giveSlot", desc := "()I" } : Jvm.MethodName) prog_2_method_12_code (3 : Nat) (Option.some Jvm.ClassFile.FieldType.int)) ∈ tws := tb_2 (List.mem_of_getElem? (i := 220) rfl) rfl
theorem tw_461 : (Jvm.Cond.methodLink "ChannelRules$Passages" (52 : Nat) ({ cls := "ChannelRules$Passages", name := "pieceOf", desc := "(II)I" } : Jvm.MethodName)) ∈ tws := tb_2 (List.mem_of_getElem? (i := 221) rfl) rfl
theorem tw_462 : (Jvm.Cond.methodLink "ChannelRules$Passages" (55 : Nat) ({ cls := "ChannelRules$Passages", name := "isForward", desc := "(II)Z" } : Jvm.MethodName)) ∈ tws := tb_2 (List.mem_of_getElem? (i := 222) rfl) rfl
theorem tw_463 : (Jvm.Cond.methodLink "ChannelRulesLaw" (79 : Nat) ({ cls := "ChannelRulesLaw", name := "earliest", desc := "(LChannelRules;IIII[J)I" } : Jvm.MethodName)) ∈ tws := tb_2 (List.mem_of_getElem? (i := 223) rfl) rfl
theorem tw_464 : (Jvm.Cond.static ({ cls := "ChannelRulesLaw", name := "earliest", desc := "(LChannelRules;IIII[J)I" } : Jvm.MethodName)) ∈ tws := tb_2 (List.mem_of_getElem? (i := 224) rfl) rfl
theorem tw_465 : (Jvm.Cond.codeWith ({ cls := "ChannelRulesLaw", name := "earliest", desc := "(LChannelRules;IIII[J)I" } : Jvm.MethodName) method_7_code (7 : Nat) (Option.some Jvm.ClassFile.FieldType.int) [((0 : Nat), (14 : Nat), (17 : Nat), (13 : Nat))]) ∈ tws := tb_2 (List.mem_of_getElem? (i := 225) rfl) rfl
theorem tw_466 : (Jvm.Cond.methodLink "ChannelRulesLaw" (27 : Nat) ({ cls := "ChannelRules", name := "earliest", desc := "(IIII)I" } : Jvm.MethodName)) ∈ tws := tb_2 (List.mem_of_getElem? (i := 226) rfl) rfl
theorem tw_467 : (Jvm.Cond.instanceMethod ({ cls := "ChannelRules", name := "earliest", desc := "(IIII)I" } : Jvm.MethodName)) ∈ tws := tb_2 (List.mem_of_getElem? (i := 227) rfl) rfl
theorem tw_468 : (Jvm.Cond.selects "ChannelRules" ({ cls := "ChannelRules", name := "earliest", desc := "(IIII)I" } : Jvm.MethodName) ({ cls := "ChannelRules", name := "earliest", desc := "(IIII)I" } : Jvm.MethodName)) ∈ tws := tb_2 (List.mem_of_getElem? (i := 228) rfl) rfl
theorem tw_469 : (Jvm.Cond.code ({ cls := "ChannelRules", name := "earliest", desc := "(IIII)I" } : Jvm.MethodName) prog_1_method_8_code (8 : Nat) (Option.some Jvm.ClassFile.FieldType.int)) ∈ tws := tb_2 (List.mem_of_getElem? (i := 229) rfl) rfl
theorem tw_470 : (Jvm.Cond.methodLink "ChannelRules" (131 : Nat) ({ cls := "ChannelRules", name := "planWait", desc := "()I" } : Jvm.MethodName)) ∈ tws := tb_2 (List.mem_of_getElem? (i := 230) rfl) rfl
theorem tw_471 : (Jvm.Cond.privateMethod ({ cls := "ChannelRules", name := "planWait", desc := "()I" } : Jvm.MethodName)) ∈ tws := tb_2 (List.mem_of_getElem? (i := 231) rfl) rfl
theorem tw_472 : (Jvm.Cond.instanceMethod ({ cls := "ChannelRules", name := "planWait", desc := "()I" } : Jvm.MethodName)) ∈ tws := tb_2 (List.mem_of_getElem? (i := 232) rfl) rfl
theorem tw_473 : (Jvm.Cond.code ({ cls := "ChannelRules", name := "planWait", desc := "()I" } : Jvm.MethodName) prog_1_method_35_code (3 : Nat) (Option.some Jvm.ClassFile.FieldType.int)) ∈ tws := tb_2 (List.mem_of_getElem? (i := 233) rfl) rfl
theorem tw_474 : (Jvm.Cond.methodLink "ChannelRules" (270 : Nat) ({ cls := "ChannelRules", name := "planWaitByPiece", desc := "(I)I" } : Jvm.MethodName)) ∈ tws := tb_2 (List.mem_of_getElem? (i := 234) rfl) rfl
theorem tw_475 : (Jvm.Cond.privateMethod ({ cls := "ChannelRules", name := "planWaitByPiece", desc := "(I)I" } : Jvm.MethodName)) ∈ tws := tb_2 (List.mem_of_getElem? (i := 235) rfl) rfl
theorem tw_476 : (Jvm.Cond.instanceMethod ({ cls := "ChannelRules", name := "planWaitByPiece", desc := "(I)I" } : Jvm.MethodName)) ∈ tws := tb_2 (List.mem_of_getElem? (i := 236) rfl) rfl
theorem tw_477 : (Jvm.Cond.code ({ cls := "ChannelRules", name := "planWaitByPiece", desc := "(I)I" } : Jvm.MethodName) prog_1_method_36_code (5 : Nat) (Option.some Jvm.ClassFile.FieldType.int)) ∈ tws := tb_2 (List.mem_of_getElem? (i := 237) rfl) rfl
theorem tw_478 : (Jvm.Cond.methodLink "ChannelRules" (279 : Nat) ({ cls := "ChannelRules", name := "minutesToMorning", desc := "(I)I" } : Jvm.MethodName)) ∈ tws := tb_2 (List.mem_of_getElem? (i := 238) rfl) rfl
theorem tw_479 : (Jvm.Cond.static ({ cls := "ChannelRules", name := "minutesToMorning", desc := "(I)I" } : Jvm.MethodName)) ∈ tws := tb_2 (List.mem_of_getElem? (i := 239) rfl) rfl
theorem tw_480 : (Jvm.Cond.code ({ cls := "ChannelRules", name := "minutesToMorning", desc := "(I)I" } : Jvm.MethodName) prog_1_method_37_code (1 : Nat) (Option.some Jvm.ClassFile.FieldType.int)) ∈ tws := tb_3 (List.mem_of_getElem? (i := 0) rfl) rfl
theorem tw_481 : (Jvm.Cond.methodLink "ChannelRules" (282 : Nat) ({ cls := "java/lang/Math", name := "floorMod", desc := "(II)I" } : Jvm.MethodName)) ∈ tws := tb_3 (List.mem_of_getElem? (i := 1) rfl) rfl
theorem tw_482 : (Jvm.Cond.static ({ cls := "java/lang/Math", name := "floorMod", desc := "(II)I" } : Jvm.MethodName)) ∈ tws := tb_3 (List.mem_of_getElem? (i := 2) rfl) rfl
theorem tw_483 : (Jvm.Cond.code ({ cls := "java/lang/Math", name := "floorMod", desc := "(II)I" } : Jvm.MethodName) prog_11_method_50_code (3 : Nat) (Option.some Jvm.ClassFile.FieldType.int)) ∈ tws := tb_3 (List.mem_of_getElem? (i := 3) rfl) rfl
theorem tw_484 : (Jvm.Cond.methodLink "ChannelRules" (276 : Nat) ({ cls := "java/lang/Math", name := "max", desc := "(II)I" } : Jvm.MethodName)) ∈ tws := tb_3 (List.mem_of_getElem? (i := 4) rfl) rfl
theorem tw_485 : (Jvm.Cond.methodLink "ChannelRules" (273 : Nat) ({ cls := "ChannelRules", name := "planWaitBySlots", desc := "(I)I" } : Jvm.MethodName)) ∈ tws := tb_3 (List.mem_of_getElem? (i := 5) rfl) rfl
theorem tw_486 : (Jvm.Cond.privateMethod ({ cls := "ChannelRules", name := "planWaitBySlots", desc := "(I)I" } : Jvm.MethodName)) ∈ tws := tb_3 (List.mem_of_getElem? (i := 6) rfl) rfl
theorem tw_487 : (Jvm.Cond.instanceMethod ({ cls := "ChannelRules", name := "planWaitBySlots", desc := "(I)I" } : Jvm.MethodName)) ∈ tws := tb_3 (List.mem_of_getElem? (i := 7) rfl) rfl
theorem tw_488 : (Jvm.Cond.code ({ cls := "ChannelRules", name := "planWaitBySlots", desc := "(I)I" } : Jvm.MethodName) prog_1_method_38_code (4 : Nat) (Option.some Jvm.ClassFile.FieldType.int)) ∈ tws := tb_3 (List.mem_of_getElem? (i := 8) rfl) rfl
theorem tw_489 : (Jvm.Cond.methodLink "ChannelRules" (285 : Nat) ({ cls := "ChannelRules", name := "planWaitFor", desc := "(II)I" } : Jvm.MethodName)) ∈ tws := tb_3 (List.mem_of_getElem? (i := 9) rfl) rfl
theorem tw_490 : (Jvm.Cond.privateMethod ({ cls := "ChannelRules", name := "planWaitFor", desc := "(II)I" } : Jvm.MethodName)) ∈ tws := tb_3 (List.mem_of_getElem? (i := 10) rfl) rfl
theorem tw_491 : (Jvm.Cond.instanceMethod ({ cls := "ChannelRules", name := "planWaitFor", desc := "(II)I" } : Jvm.MethodName)) ∈ tws := tb_3 (List.mem_of_getElem? (i := 11) rfl) rfl
theorem tw_492 : (Jvm.Cond.code ({ cls := "ChannelRules", name := "planWaitFor", desc := "(II)I" } : Jvm.MethodName) prog_1_method_39_code (8 : Nat) (Option.some Jvm.ClassFile.FieldType.int)) ∈ tws := tb_3 (List.mem_of_getElem? (i := 12) rfl) rfl
theorem tw_493 : (Jvm.Cond.methodLink "ChannelRulesLaw" (82 : Nat) ({ cls := "ChannelRulesLaw", name := "change", desc := "(LChannelRules;II[J)I" } : Jvm.MethodName)) ∈ tws := tb_3 (List.mem_of_getElem? (i := 13) rfl) rfl
theorem tw_494 : (Jvm.Cond.static ({ cls := "ChannelRulesLaw", name := "change", desc := "(LChannelRules;II[J)I" } : Jvm.MethodName)) ∈ tws := tb_3 (List.mem_of_getElem? (i := 14) rfl) rfl
theorem tw_495 : (Jvm.Cond.codeWith ({ cls := "ChannelRulesLaw", name := "change", desc := "(LChannelRules;II[J)I" } : Jvm.MethodName) method_8_code (5 : Nat) (Option.some Jvm.ClassFile.FieldType.int) [((0 : Nat), (10 : Nat), (13 : Nat), (13 : Nat))]) ∈ tws := tb_3 (List.mem_of_getElem? (i := 15) rfl) rfl
theorem tw_496 : (Jvm.Cond.methodLink "ChannelRulesLaw" (30 : Nat) ({ cls := "ChannelRules", name := "change", desc := "(II)I" } : Jvm.MethodName)) ∈ tws := tb_3 (List.mem_of_getElem? (i := 16) rfl) rfl
theorem tw_497 : (Jvm.Cond.instanceMethod ({ cls := "ChannelRules", name := "change", desc := "(II)I" } : Jvm.MethodName)) ∈ tws := tb_3 (List.mem_of_getElem? (i := 17) rfl) rfl
theorem tw_498 : (Jvm.Cond.selects "ChannelRules" ({ cls := "ChannelRules", name := "change", desc := "(II)I" } : Jvm.MethodName) ({ cls := "ChannelRules", name := "change", desc := "(II)I" } : Jvm.MethodName)) ∈ tws := tb_3 (List.mem_of_getElem? (i := 18) rfl) rfl
theorem tw_499 : (Jvm.Cond.code ({ cls := "ChannelRules", name := "change", desc := "(II)I" } : Jvm.MethodName) prog_1_method_9_code (4 : Nat) (Option.some Jvm.ClassFile.FieldType.int)) ∈ tws := tb_3 (List.mem_of_getElem? (i := 19) rfl) rfl
theorem tx_500 : (Jvm.Cond.stringRef "ChannelRules" (137 : Nat) "no such slot, or not such a time") ∈ lw_tbl := List.mem_append_right _ (List.mem_append_right _ (List.mem_append_right _ (List.mem_append_left _ (List.mem_of_getElem? (i := 20) rfl))))
theorem tw_501 : (Jvm.Cond.methodLink "ChannelRulesLaw" (91 : Nat) ({ cls := "ChannelRulesLaw", name := "close", desc := "(LChannelRules;III[J)I" } : Jvm.MethodName)) ∈ tws := tb_3 (List.mem_of_getElem? (i := 21) rfl) rfl
theorem tw_502 : (Jvm.Cond.static ({ cls := "ChannelRulesLaw", name := "close", desc := "(LChannelRules;III[J)I" } : Jvm.MethodName)) ∈ tws := tb_3 (List.mem_of_getElem? (i := 22) rfl) rfl
theorem tw_503 : (Jvm.Cond.codeWith ({ cls := "ChannelRulesLaw", name := "close", desc := "(LChannelRules;III[J)I" } : Jvm.MethodName) method_9_code (6 : Nat) (Option.some Jvm.ClassFile.FieldType.int) [((0 : Nat), (12 : Nat), (15 : Nat), (13 : Nat)), ((0 : Nat), (12 : Nat), (19 : Nat), (15 : Nat))]) ∈ tws := tb_3 (List.mem_of_getElem? (i := 23) rfl) rfl
theorem tw_504 : (Jvm.Cond.methodLink "ChannelRulesLaw" (34 : Nat) ({ cls := "ChannelRules", name := "close", desc := "(III)I" } : Jvm.MethodName)) ∈ tws := tb_3 (List.mem_of_getElem? (i := 24) rfl) rfl
theorem tw_505 : (Jvm.Cond.instanceMethod ({ cls := "ChannelRules", name := "close", desc := "(III)I" } : Jvm.MethodName)) ∈ tws := tb_3 (List.mem_of_getElem? (i := 25) rfl) rfl
theorem tw_506 : (Jvm.Cond.selects "ChannelRules" ({ cls := "ChannelRules", name := "close", desc := "(III)I" } : Jvm.MethodName) ({ cls := "ChannelRules", name := "close", desc := "(III)I" } : Jvm.MethodName)) ∈ tws := tb_3 (List.mem_of_getElem? (i := 26) rfl) rfl
theorem tw_507 : (Jvm.Cond.code ({ cls := "ChannelRules", name := "close", desc := "(III)I" } : Jvm.MethodName) prog_1_method_11_code (4 : Nat) (Option.some Jvm.ClassFile.FieldType.int)) ∈ tws := tb_3 (List.mem_of_getElem? (i := 27) rfl) rfl
theorem tx_508 : (Jvm.Cond.stringRef "ChannelRules" (146 : Nat) "no such piece, or not such times") ∈ lw_tbl := List.mem_append_right _ (List.mem_append_right _ (List.mem_append_right _ (List.mem_append_left _ (List.mem_of_getElem? (i := 28) rfl))))
theorem tx_509 : (Jvm.Cond.stringRef "ChannelRules" (151 : Nat) "the piece has 4 closed spans") ∈ lw_tbl := List.mem_append_right _ (List.mem_append_right _ (List.mem_append_right _ (List.mem_append_left _ (List.mem_of_getElem? (i := 29) rfl))))
theorem tw_510 : (Jvm.Cond.methodLink "ChannelRules" (153 : Nat) ({ cls := "ChannelRules$Pieces", name := "addSpan", desc := "(III)V" } : Jvm.MethodName)) ∈ tws := tb_3 (List.mem_of_getElem? (i := 30) rfl) rfl
theorem tw_511 : (Jvm.Cond.instanceMethod ({ cls := "ChannelRules$Pieces", name := "addSpan", desc := "(III)V" } : Jvm.MethodName)) ∈ tws := tb_3 (List.mem_of_getElem? (i := 31) rfl) rfl
theorem tw_512 : (Jvm.Cond.selects "ChannelRules$Pieces" ({ cls := "ChannelRules$Pieces", name := "addSpan", desc := "(III)V" } : Jvm.MethodName) ({ cls := "ChannelRules$Pieces", name := "addSpan", desc := "(III)V" } : Jvm.MethodName)) ∈ tws := tb_3 (List.mem_of_getElem? (i := 32) rfl) rfl
theorem tw_513 : (Jvm.Cond.code ({ cls := "ChannelRules$Pieces", name := "addSpan", desc := "(III)V" } : Jvm.MethodName) prog_3_method_7_code (5 : Nat) (Option.none : Option Jvm.ClassFile.FieldType)) ∈ tws := tb_3 (List.mem_of_getElem? (i := 33) rfl) rfl
theorem tw_514 : (Jvm.Cond.methodLink "ChannelRules" (156 : Nat) ({ cls := "ChannelRules", name := "endSlotsOn", desc := "(III)I" } : Jvm.MethodName)) ∈ tws := tb_3 (List.mem_of_getElem? (i := 34) rfl) rfl
theorem tw_515 : (Jvm.Cond.privateMethod ({ cls := "ChannelRules", name := "endSlotsOn", desc := "(III)I" } : Jvm.MethodName)) ∈ tws := tb_3 (List.mem_of_getElem? (i := 35) rfl) rfl
theorem tw_516 : (Jvm.Cond.instanceMethod ({ cls := "ChannelRules", name := "endSlotsOn", desc := "(III)I" } : Jvm.MethodName)) ∈ tws := tb_3 (List.mem_of_getElem? (i := 36) rfl) rfl
theorem tw_517 : (Jvm.Cond.code ({ cls := "ChannelRules", name := "endSlotsOn", desc := "(III)I" } : Jvm.MethodName) prog_1_method_40_code (7 : Nat) (Option.some Jvm.ClassFile.FieldType.int)) ∈ tws := tb_3 (List.mem_of_getElem? (i := 37) rfl) rfl
theorem tw_518 : (Jvm.Cond.methodLink "ChannelRulesLaw" (98 : Nat) ({ cls := "ChannelRulesLaw", name := "conflict", desc := "(LChannelRules;II[J)I" } : Jvm.MethodName)) ∈ tws := tb_3 (List.mem_of_getElem? (i := 38) rfl) rfl
theorem tw_519 : (Jvm.Cond.static ({ cls := "ChannelRulesLaw", name := "conflict", desc := "(LChannelRules;II[J)I" } : Jvm.MethodName)) ∈ tws := tb_3 (List.mem_of_getElem? (i := 39) rfl) rfl
theorem tw_520 : (Jvm.Cond.codeWith ({ cls := "ChannelRulesLaw", name := "conflict", desc := "(LChannelRules;II[J)I" } : Jvm.MethodName) method_10_code (5 : Nat) (Option.some Jvm.ClassFile.FieldType.int) [((0 : Nat), (10 : Nat), (13 : Nat), (13 : Nat))]) ∈ tws := tb_3 (List.mem_of_getElem? (i := 40) rfl) rfl
theorem tw_521 : (Jvm.Cond.methodLink "ChannelRulesLaw" (37 : Nat) ({ cls := "ChannelRules", name := "conflict", desc := "(II)I" } : Jvm.MethodName)) ∈ tws := tb_3 (List.mem_of_getElem? (i := 41) rfl) rfl
theorem tw_522 : (Jvm.Cond.instanceMethod ({ cls := "ChannelRules", name := "conflict", desc := "(II)I" } : Jvm.MethodName)) ∈ tws := tb_3 (List.mem_of_getElem? (i := 42) rfl) rfl
theorem tw_523 : (Jvm.Cond.selects "ChannelRules" ({ cls := "ChannelRules", name := "conflict", desc := "(II)I" } : Jvm.MethodName) ({ cls := "ChannelRules", name := "conflict", desc := "(II)I" } : Jvm.MethodName)) ∈ tws := tb_3 (List.mem_of_getElem? (i := 43) rfl) rfl
theorem tw_524 : (Jvm.Cond.code ({ cls := "ChannelRules", name := "conflict", desc := "(II)I" } : Jvm.MethodName) prog_1_method_13_code (3 : Nat) (Option.some Jvm.ClassFile.FieldType.int)) ∈ tws := tb_3 (List.mem_of_getElem? (i := 44) rfl) rfl
theorem tx_525 : (Jvm.Cond.stringRef "ChannelRules" (159 : Nat) "no such side") ∈ lw_tbl := List.mem_append_right _ (List.mem_append_right _ (List.mem_append_right _ (List.mem_append_left _ (List.mem_of_getElem? (i := 45) rfl))))
theorem tw_526 : (Jvm.Cond.methodLink "ChannelRulesLaw" (101 : Nat) ({ cls := "ChannelRulesLaw", name := "at", desc := "(LChannelRules;III[J)I" } : Jvm.MethodName)) ∈ tws := tb_3 (List.mem_of_getElem? (i := 46) rfl) rfl
theorem tw_527 : (Jvm.Cond.static ({ cls := "ChannelRulesLaw", name := "at", desc := "(LChannelRules;III[J)I" } : Jvm.MethodName)) ∈ tws := tb_3 (List.mem_of_getElem? (i := 47) rfl) rfl
theorem tw_528 : (Jvm.Cond.codeWith ({ cls := "ChannelRulesLaw", name := "at", desc := "(LChannelRules;III[J)I" } : Jvm.MethodName) method_11_code (6 : Nat) (Option.some Jvm.ClassFile.FieldType.int) [((0 : Nat), (12 : Nat), (15 : Nat), (43 : Nat))]) ∈ tws := tb_3 (List.mem_of_getElem? (i := 48) rfl) rfl
theorem tw_529 : (Jvm.Cond.classLink "ChannelRulesLaw" (43 : Nat) "java/lang/IndexOutOfBoundsException") ∈ tws := tb_3 (List.mem_of_getElem? (i := 49) rfl) rfl
theorem tw_530 : (Jvm.Cond.methodLink "ChannelRulesLaw" (40 : Nat) ({ cls := "ChannelRules", name := "at", desc := "(III)I" } : Jvm.MethodName)) ∈ tws := tb_3 (List.mem_of_getElem? (i := 50) rfl) rfl
theorem tw_531 : (Jvm.Cond.instanceMethod ({ cls := "ChannelRules", name := "at", desc := "(III)I" } : Jvm.MethodName)) ∈ tws := tb_3 (List.mem_of_getElem? (i := 51) rfl) rfl
theorem tw_532 : (Jvm.Cond.selects "ChannelRules" ({ cls := "ChannelRules", name := "at", desc := "(III)I" } : Jvm.MethodName) ({ cls := "ChannelRules", name := "at", desc := "(III)I" } : Jvm.MethodName)) ∈ tws := tb_3 (List.mem_of_getElem? (i := 52) rfl) rfl
theorem tw_533 : (Jvm.Cond.code ({ cls := "ChannelRules", name := "at", desc := "(III)I" } : Jvm.MethodName) prog_1_method_14_code (4 : Nat) (Option.some Jvm.ClassFile.FieldType.int)) ∈ tws := tb_3 (List.mem_of_getElem? (i := 53) rfl) rfl
theorem tw_534 : (Jvm.Cond.classLink "ChannelRules" (164 : Nat) "java/lang/IndexOutOfBoundsException") ∈ tws := tb_3 (List.mem_of_getElem? (i := 54) rfl) rfl
theorem tw_535 : (Jvm.Cond.instantiable "java/lang/IndexOutOfBoundsException" (6 : Nat)) ∈ tws := tb_3 (List.mem_of_getElem? (i := 55) rfl) rfl
theorem tw_536 : (Jvm.Cond.castable "java/lang/IndexOutOfBoundsException" "java/lang/IndexOutOfBoundsException") ∈ tws := tb_3 (List.mem_of_getElem? (i := 56) rfl) rfl
theorem tw_537 : (Jvm.Cond.selects "java/lang/IndexOutOfBoundsException" ({ cls := "java/lang/Throwable", name := "fillInStackTrace", desc := "(I)Ljava/lang/Throwable;" } : Jvm.MethodName) ({ cls := "java/lang/Throwable", name := "fillInStackTrace", desc := "(I)Ljava/lang/Throwable;" } : Jvm.MethodName)) ∈ tws := tb_3 (List.mem_of_getElem? (i := 57) rfl) rfl
theorem tw_538 : (Jvm.Cond.lays "java/lang/IndexOutOfBoundsException" "java/lang/Throwable" "cause" "Ljava/lang/Throwable;") ∈ tws := tb_3 (List.mem_of_getElem? (i := 58) rfl) rfl
theorem tw_539 : (Jvm.Cond.lays "java/lang/IndexOutOfBoundsException" "java/lang/Throwable" "stackTrace" "[Ljava/lang/StackTraceElement;") ∈ tws := tb_3 (List.mem_of_getElem? (i := 59) rfl) rfl
theorem tw_540 : (Jvm.Cond.lays "java/lang/IndexOutOfBoundsException" "java/lang/Throwable" "suppressedExceptions" "Ljava/util/List;") ∈ tws := tb_3 (List.mem_of_getElem? (i := 60) rfl) rfl
theorem tw_541 : (Jvm.Cond.lays "java/lang/IndexOutOfBoundsException" "java/lang/Throwable" "detailMessage" "Ljava/lang/String;") ∈ tws := tb_3 (List.mem_of_getElem? (i := 61) rfl) rfl
theorem tw_542 : (Jvm.Cond.lays "java/lang/IndexOutOfBoundsException" "java/lang/Throwable" "backtrace" "Ljava/lang/Object;") ∈ tws := tb_3 (List.mem_of_getElem? (i := 62) rfl) rfl
theorem tx_543 : (Jvm.Cond.stringRef "ChannelRules" (166 : Nat) "no such slot, stay or what") ∈ lw_tbl := List.mem_append_right _ (List.mem_append_right _ (List.mem_append_right _ (List.mem_append_left _ (List.mem_of_getElem? (i := 63) rfl))))
theorem tw_544 : (Jvm.Cond.methodLink "ChannelRules" (168 : Nat) ({ cls := "java/lang/IndexOutOfBoundsException", name := "<init>", desc := "(Ljava/lang/String;)V" } : Jvm.MethodName)) ∈ tws := tb_3 (List.mem_of_getElem? (i := 64) rfl) rfl
theorem tw_545 : (Jvm.Cond.instanceMethod ({ cls := "java/lang/IndexOutOfBoundsException", name := "<init>", desc := "(Ljava/lang/String;)V" } : Jvm.MethodName)) ∈ tws := tb_3 (List.mem_of_getElem? (i := 65) rfl) rfl
theorem tw_546 : (Jvm.Cond.code ({ cls := "java/lang/IndexOutOfBoundsException", name := "<init>", desc := "(Ljava/lang/String;)V" } : Jvm.MethodName) prog_10_method_2_code (2 : Nat) (Option.none : Option Jvm.ClassFile.FieldType)) ∈ tws := tb_3 (List.mem_of_getElem? (i := 66) rfl) rfl
theorem tw_547 : (Jvm.Cond.methodLink "java/lang/IndexOutOfBoundsException" (7 : Nat) ({ cls := "java/lang/RuntimeException", name := "<init>", desc := "(Ljava/lang/String;)V" } : Jvm.MethodName)) ∈ tws := tb_3 (List.mem_of_getElem? (i := 67) rfl) rfl
theorem tw_548 : (Jvm.Cond.lays "java/lang/IndexOutOfBoundsException" "java/lang/Throwable" "depth" "I") ∈ tws := tb_3 (List.mem_of_getElem? (i := 68) rfl) rfl
theorem tw_549 : (Jvm.Cond.superclass "java/lang/IndexOutOfBoundsException" "java/lang/RuntimeException") ∈ tws := tb_3 (List.mem_of_getElem? (i := 69) rfl) rfl
theorem tw_550 : (Jvm.Cond.classLink "ChannelRulesLaw" (46 : Nat) "ChannelRulesModel") ∈ tws := tb_3 (List.mem_of_getElem? (i := 70) rfl) rfl
theorem tw_551 : (Jvm.Cond.instantiable "ChannelRulesModel" (24 : Nat)) ∈ tws := tb_3 (List.mem_of_getElem? (i := 71) rfl) rfl
theorem tw_552 : (Jvm.Cond.methodLink "ChannelRulesLaw" (48 : Nat) ({ cls := "ChannelRulesModel", name := "<init>", desc := "()V" } : Jvm.MethodName)) ∈ tws := tb_3 (List.mem_of_getElem? (i := 72) rfl) rfl
theorem tw_553 : (Jvm.Cond.instanceMethod ({ cls := "ChannelRulesModel", name := "<init>", desc := "()V" } : Jvm.MethodName)) ∈ tws := tb_3 (List.mem_of_getElem? (i := 73) rfl) rfl
theorem tw_554 : (Jvm.Cond.code ({ cls := "ChannelRulesModel", name := "<init>", desc := "()V" } : Jvm.MethodName) prog_6_method_1_code (1 : Nat) (Option.none : Option Jvm.ClassFile.FieldType)) ∈ tws := tb_3 (List.mem_of_getElem? (i := 74) rfl) rfl
theorem tw_555 : (Jvm.Cond.methodLink "ChannelRulesModel" (1 : Nat) ({ cls := "java/lang/Object", name := "<init>", desc := "()V" } : Jvm.MethodName)) ∈ tws := tb_3 (List.mem_of_getElem? (i := 75) rfl) rfl
theorem tw_556 : (Jvm.Cond.fieldLink "ChannelRulesModel" (65 : Nat) "ChannelRulesModel" "thrown" "I") ∈ tws := tb_3 (List.mem_of_getElem? (i := 76) rfl) rfl
theorem tw_557 : (Jvm.Cond.fieldLink "ChannelRulesModel" (69 : Nat) "ChannelRulesModel" "pieces" "I") ∈ tws := tb_3 (List.mem_of_getElem? (i := 77) rfl) rfl
theorem tw_558 : (Jvm.Cond.fieldLink "ChannelRulesModel" (7 : Nat) "ChannelRulesModel" "first" "[I") ∈ tws := tb_3 (List.mem_of_getElem? (i := 78) rfl) rfl
theorem tw_559 : (Jvm.Cond.fieldLink "ChannelRulesModel" (13 : Nat) "ChannelRulesModel" "second" "[I") ∈ tws := tb_3 (List.mem_of_getElem? (i := 79) rfl) rfl
theorem tw_560 : (Jvm.Cond.fieldLink "ChannelRulesModel" (16 : Nat) "ChannelRulesModel" "length" "[I") ∈ tws := tb_3 (List.mem_of_getElem? (i := 80) rfl) rfl
theorem tw_561 : (Jvm.Cond.fieldLink "ChannelRulesModel" (19 : Nat) "ChannelRulesModel" "wide" "[I") ∈ tws := tb_3 (List.mem_of_getElem? (i := 81) rfl) rfl
theorem tw_562 : (Jvm.Cond.fieldLink "ChannelRulesModel" (22 : Nat) "ChannelRulesModel" "rules" "[I") ∈ tws := tb_3 (List.mem_of_getElem? (i := 82) rfl) rfl
theorem tw_563 : (Jvm.Cond.fieldLink "ChannelRulesModel" (25 : Nat) "ChannelRulesModel" "spans" "[I") ∈ tws := tb_3 (List.mem_of_getElem? (i := 83) rfl) rfl
theorem tw_564 : (Jvm.Cond.fieldLink "ChannelRulesModel" (28 : Nat) "ChannelRulesModel" "spanFrom" "[I") ∈ tws := tb_3 (List.mem_of_getElem? (i := 84) rfl) rfl
theorem tw_565 : (Jvm.Cond.fieldLink "ChannelRulesModel" (31 : Nat) "ChannelRulesModel" "spanTo" "[I") ∈ tws := tb_3 (List.mem_of_getElem? (i := 85) rfl) rfl
theorem tw_566 : (Jvm.Cond.fieldLink "ChannelRulesModel" (72 : Nat) "ChannelRulesModel" "ships" "I") ∈ tws := tb_3 (List.mem_of_getElem? (i := 86) rfl) rfl
theorem tw_567 : (Jvm.Cond.fieldLink "ChannelRulesModel" (34 : Nat) "ChannelRulesModel" "width" "[I") ∈ tws := tb_3 (List.mem_of_getElem? (i := 87) rfl) rfl
theorem tw_568 : (Jvm.Cond.fieldLink "ChannelRulesModel" (37 : Nat) "ChannelRulesModel" "speed" "[I") ∈ tws := tb_3 (List.mem_of_getElem? (i := 88) rfl) rfl
theorem tw_569 : (Jvm.Cond.fieldLink "ChannelRulesModel" (40 : Nat) "ChannelRulesModel" "cls" "[I") ∈ tws := tb_3 (List.mem_of_getElem? (i := 89) rfl) rfl
theorem tw_570 : (Jvm.Cond.fieldLink "ChannelRulesModel" (97 : Nat) "ChannelRulesModel" "wind" "Z") ∈ tws := tb_3 (List.mem_of_getElem? (i := 90) rfl) rfl
theorem tw_571 : (Jvm.Cond.fieldLink "ChannelRulesModel" (78 : Nat) "ChannelRulesModel" "now" "I") ∈ tws := tb_3 (List.mem_of_getElem? (i := 91) rfl) rfl
theorem tw_572 : (Jvm.Cond.fieldLink "ChannelRulesModel" (75 : Nat) "ChannelRulesModel" "slots" "I") ∈ tws := tb_3 (List.mem_of_getElem? (i := 92) rfl) rfl
theorem tw_573 : (Jvm.Cond.fieldLink "ChannelRulesModel" (43 : Nat) "ChannelRulesModel" "slotShip" "[I") ∈ tws := tb_3 (List.mem_of_getElem? (i := 93) rfl) rfl
theorem tw_574 : (Jvm.Cond.fieldLink "ChannelRulesModel" (46 : Nat) "ChannelRulesModel" "begins" "[I") ∈ tws := tb_3 (List.mem_of_getElem? (i := 94) rfl) rfl
theorem tw_575 : (Jvm.Cond.fieldLink "ChannelRulesModel" (49 : Nat) "ChannelRulesModel" "given" "[Z") ∈ tws := tb_3 (List.mem_of_getElem? (i := 95) rfl) rfl
theorem tw_576 : (Jvm.Cond.fieldLink "ChannelRulesModel" (53 : Nat) "ChannelRulesModel" "stays" "[I") ∈ tws := tb_3 (List.mem_of_getElem? (i := 96) rfl) rfl
theorem tw_577 : (Jvm.Cond.fieldLink "ChannelRulesModel" (56 : Nat) "ChannelRulesModel" "stayPiece" "[I") ∈ tws := tb_3 (List.mem_of_getElem? (i := 97) rfl) rfl
theorem tw_578 : (Jvm.Cond.fieldLink "ChannelRulesModel" (59 : Nat) "ChannelRulesModel" "stayForward" "[I") ∈ tws := tb_3 (List.mem_of_getElem? (i := 98) rfl) rfl
theorem tw_579 : (Jvm.Cond.fieldLink "ChannelRulesModel" (62 : Nat) "ChannelRulesModel" "far" "[I") ∈ tws := tb_3 (List.mem_of_getElem? (i := 99) rfl) rfl
theorem tw_628 : (Jvm.Cond.superclass "ChannelRulesModel" "java/lang/Object") ∈ tws := tb_3 (List.mem_of_getElem? (i := 148) rfl) rfl
theorem tw_629 : (Jvm.Cond.methodLink "ChannelRulesLaw" (55 : Nat) ({ cls := "ChannelRulesModel", name := "thrown", desc := "()I" } : Jvm.MethodName)) ∈ tws := tb_3 (List.mem_of_getElem? (i := 149) rfl) rfl
theorem tw_630 : (Jvm.Cond.instanceMethod ({ cls := "ChannelRulesModel", name := "thrown", desc := "()I" } : Jvm.MethodName)) ∈ tws := tb_3 (List.mem_of_getElem? (i := 150) rfl) rfl
theorem tw_631 : (Jvm.Cond.selects "ChannelRulesModel" ({ cls := "ChannelRulesModel", name := "thrown", desc := "()I" } : Jvm.MethodName) ({ cls := "ChannelRulesModel", name := "thrown", desc := "()I" } : Jvm.MethodName)) ∈ tws := tb_3 (List.mem_of_getElem? (i := 151) rfl) rfl
theorem tw_632 : (Jvm.Cond.code ({ cls := "ChannelRulesModel", name := "thrown", desc := "()I" } : Jvm.MethodName) prog_6_method_2_code (1 : Nat) (Option.some Jvm.ClassFile.FieldType.int)) ∈ tws := tb_3 (List.mem_of_getElem? (i := 152) rfl) rfl
theorem tw_633 : (Jvm.Cond.methodLink "ChannelRulesLaw" (54 : Nat) ({ cls := "ChannelRulesModel", name := "piece", desc := "(IIII)I" } : Jvm.MethodName)) ∈ tws := tb_3 (List.mem_of_getElem? (i := 153) rfl) rfl
theorem tw_634 : (Jvm.Cond.instanceMethod ({ cls := "ChannelRulesModel", name := "piece", desc := "(IIII)I" } : Jvm.MethodName)) ∈ tws := tb_3 (List.mem_of_getElem? (i := 154) rfl) rfl
theorem tw_635 : (Jvm.Cond.selects "ChannelRulesModel" ({ cls := "ChannelRulesModel", name := "piece", desc := "(IIII)I" } : Jvm.MethodName) ({ cls := "ChannelRulesModel", name := "piece", desc := "(IIII)I" } : Jvm.MethodName)) ∈ tws := tb_3 (List.mem_of_getElem? (i := 155) rfl) rfl
theorem tw_636 : (Jvm.Cond.code ({ cls := "ChannelRulesModel", name := "piece", desc := "(IIII)I" } : Jvm.MethodName) prog_6_method_10_code (5 : Nat) (Option.some Jvm.ClassFile.FieldType.int)) ∈ tws := tb_3 (List.mem_of_getElem? (i := 156) rfl) rfl
theorem tw_637 : (Jvm.Cond.methodLink "ChannelRulesModel" (82 : Nat) ({ cls := "ChannelRulesModel", name := "isPoint", desc := "(I)Z" } : Jvm.MethodName)) ∈ tws := tb_3 (List.mem_of_getElem? (i := 157) rfl) rfl
theorem tw_638 : (Jvm.Cond.static ({ cls := "ChannelRulesModel", name := "isPoint", desc := "(I)Z" } : Jvm.MethodName)) ∈ tws := tb_3 (List.mem_of_getElem? (i := 158) rfl) rfl
theorem tw_639 : (Jvm.Cond.code ({ cls := "ChannelRulesModel", name := "isPoint", desc := "(I)Z" } : Jvm.MethodName) prog_6_method_5_code (1 : Nat) (Option.some Jvm.ClassFile.FieldType.boolean)) ∈ tws := tb_3 (List.mem_of_getElem? (i := 159) rfl) rfl
theorem tw_640 : (Jvm.Cond.methodLink "ChannelRulesModel" (86 : Nat) ({ cls := "ChannelRulesModel", name := "in", desc := "(III)Z" } : Jvm.MethodName)) ∈ tws := tb_3 (List.mem_of_getElem? (i := 160) rfl) rfl
theorem tw_641 : (Jvm.Cond.static ({ cls := "ChannelRulesModel", name := "in", desc := "(III)Z" } : Jvm.MethodName)) ∈ tws := tb_3 (List.mem_of_getElem? (i := 161) rfl) rfl
theorem tw_642 : (Jvm.Cond.code ({ cls := "ChannelRulesModel", name := "in", desc := "(III)Z" } : Jvm.MethodName) prog_6_method_4_code (3 : Nat) (Option.some Jvm.ClassFile.FieldType.boolean)) ∈ tws := tb_3 (List.mem_of_getElem? (i := 162) rfl) rfl
theorem tw_643 : (Jvm.Cond.methodLink "ChannelRulesModel" (90 : Nat) ({ cls := "ChannelRulesModel", name := "fails", desc := "(I)I" } : Jvm.MethodName)) ∈ tws := tb_3 (List.mem_of_getElem? (i := 163) rfl) rfl
theorem tw_644 : (Jvm.Cond.privateMethod ({ cls := "ChannelRulesModel", name := "fails", desc := "(I)I" } : Jvm.MethodName)) ∈ tws := tb_3 (List.mem_of_getElem? (i := 164) rfl) rfl
theorem tw_645 : (Jvm.Cond.instanceMethod ({ cls := "ChannelRulesModel", name := "fails", desc := "(I)I" } : Jvm.MethodName)) ∈ tws := tb_3 (List.mem_of_getElem? (i := 165) rfl) rfl
theorem tw_646 : (Jvm.Cond.code ({ cls := "ChannelRulesModel", name := "fails", desc := "(I)I" } : Jvm.MethodName) prog_6_method_3_code (2 : Nat) (Option.some Jvm.ClassFile.FieldType.int)) ∈ tws := tb_3 (List.mem_of_getElem? (i := 166) rfl) rfl
theorem tw_647 : (Jvm.Cond.methodLink "ChannelRulesLaw" (63 : Nat) ({ cls := "ChannelRulesModel", name := "rule", desc := "(III)Z" } : Jvm.MethodName)) ∈ tws := tb_3 (List.mem_of_getElem? (i := 167) rfl) rfl
theorem tw_648 : (Jvm.Cond.instanceMethod ({ cls := "ChannelRulesModel", name := "rule", desc := "(III)Z" } : Jvm.MethodName)) ∈ tws := tb_3 (List.mem_of_getElem? (i := 168) rfl) rfl
theorem tw_649 : (Jvm.Cond.selects "ChannelRulesModel" ({ cls := "ChannelRulesModel", name := "rule", desc := "(III)Z" } : Jvm.MethodName) ({ cls := "ChannelRulesModel", name := "rule", desc := "(III)Z" } : Jvm.MethodName)) ∈ tws := tb_3 (List.mem_of_getElem? (i := 169) rfl) rfl
theorem tw_650 : (Jvm.Cond.code ({ cls := "ChannelRulesModel", name := "rule", desc := "(III)Z" } : Jvm.MethodName) prog_6_method_11_code (5 : Nat) (Option.some Jvm.ClassFile.FieldType.boolean)) ∈ tws := tb_3 (List.mem_of_getElem? (i := 170) rfl) rfl
theorem tw_651 : (Jvm.Cond.methodLink "ChannelRulesModel" (94 : Nat) ({ cls := "ChannelRulesModel", name := "isPiece", desc := "(I)Z" } : Jvm.MethodName)) ∈ tws := tb_3 (List.mem_of_getElem? (i := 171) rfl) rfl
theorem tw_652 : (Jvm.Cond.privateMethod ({ cls := "ChannelRulesModel", name := "isPiece", desc := "(I)Z" } : Jvm.MethodName)) ∈ tws := tb_3 (List.mem_of_getElem? (i := 172) rfl) rfl
theorem tw_653 : (Jvm.Cond.instanceMethod ({ cls := "ChannelRulesModel", name := "isPiece", desc := "(I)Z" } : Jvm.MethodName)) ∈ tws := tb_3 (List.mem_of_getElem? (i := 173) rfl) rfl
theorem tw_654 : (Jvm.Cond.code ({ cls := "ChannelRulesModel", name := "isPiece", desc := "(I)Z" } : Jvm.MethodName) prog_6_method_6_code (2 : Nat) (Option.some Jvm.ClassFile.FieldType.boolean)) ∈ tws := tb_3 (List.mem_of_getElem? (i := 174) rfl) rfl
theorem tw_655 : (Jvm.Cond.methodLink "ChannelRulesLaw" (68 : Nat) ({ cls := "ChannelRulesModel", name := "wind", desc := "(Z)Z" } : Jvm.MethodName)) ∈ tws := tb_3 (List.mem_of_getElem? (i := 175) rfl) rfl
theorem tw_656 : (Jvm.Cond.instanceMethod ({ cls := "ChannelRulesModel", name := "wind", desc := "(Z)Z" } : Jvm.MethodName)) ∈ tws := tb_3 (List.mem_of_getElem? (i := 176) rfl) rfl
theorem tw_657 : (Jvm.Cond.selects "ChannelRulesModel" ({ cls := "ChannelRulesModel", name := "wind", desc := "(Z)Z" } : Jvm.MethodName) ({ cls := "ChannelRulesModel", name := "wind", desc := "(Z)Z" } : Jvm.MethodName)) ∈ tws := tb_3 (List.mem_of_getElem? (i := 177) rfl) rfl
theorem tw_658 : (Jvm.Cond.code ({ cls := "ChannelRulesModel", name := "wind", desc := "(Z)Z" } : Jvm.MethodName) prog_6_method_12_code (3 : Nat) (Option.some Jvm.ClassFile.FieldType.boolean)) ∈ tws := tb_3 (List.mem_of_getElem? (i := 178) rfl) rfl
theorem tw_659 : (Jvm.Cond.methodLink "ChannelRulesLaw" (72 : Nat) ({ cls := "ChannelRulesModel", name := "ship", desc := "(III)I" } : Jvm.MethodName)) ∈ tws := tb_3 (List.mem_of_getElem? (i := 179) rfl) rfl
theorem tw_660 : (Jvm.Cond.instanceMethod ({ cls := "ChannelRulesModel", name := "ship", desc := "(III)I" } : Jvm.MethodName)) ∈ tws := tb_3 (List.mem_of_getElem? (i := 180) rfl) rfl
theorem tw_661 : (Jvm.Cond.selects "ChannelRulesModel" ({ cls := "ChannelRulesModel", name := "ship", desc := "(III)I" } : Jvm.MethodName) ({ cls := "ChannelRulesModel", name := "ship", desc := "(III)I" } : Jvm.MethodName)) ∈ tws := tb_3 (List.mem_of_getElem? (i := 181) rfl) rfl
theorem tw_662 : (Jvm.Cond.code ({ cls := "ChannelRulesModel", name := "ship", desc := "(III)I" } : Jvm.MethodName) prog_6_method_13_code (4 : Nat) (Option.some Jvm.ClassFile.FieldType.int)) ∈ tws := tb_3 (List.mem_of_getElem? (i := 182) rfl) rfl
theorem tw_663 : (Jvm.Cond.methodLink "ChannelRulesLaw" (75 : Nat) ({ cls := "ChannelRulesModel", name := "route", desc := "(IIII)I" } : Jvm.MethodName)) ∈ tws := tb_3 (List.mem_of_getElem? (i := 183) rfl) rfl
theorem tw_664 : (Jvm.Cond.instanceMethod ({ cls := "ChannelRulesModel", name := "route", desc := "(IIII)I" } : Jvm.MethodName)) ∈ tws := tb_3 (List.mem_of_getElem? (i := 184) rfl) rfl
theorem tw_665 : (Jvm.Cond.selects "ChannelRulesModel" ({ cls := "ChannelRulesModel", name := "route", desc := "(IIII)I" } : Jvm.MethodName) ({ cls := "ChannelRulesModel", name := "route", desc := "(IIII)I" } : Jvm.MethodName)) ∈ tws := tb_3 (List.mem_of_getElem? (i := 185) rfl) rfl
theorem tw_666 : (Jvm.Cond.code ({ cls := "ChannelRulesModel", name := "route", desc := "(IIII)I" } : Jvm.MethodName) prog_6_method_18_code (5 : Nat) (Option.some Jvm.ClassFile.FieldType.int)) ∈ tws := tb_3 (List.mem_of_getElem? (i := 186) rfl) rfl
theorem tw_667 : (Jvm.Cond.methodLink "ChannelRulesModel" (113 : Nat) ({ cls := "ChannelRulesModel", name := "isShip", desc := "(I)Z" } : Jvm.MethodName)) ∈ tws := tb_3 (List.mem_of_getElem? (i := 187) rfl) rfl
theorem tw_668 : (Jvm.Cond.privateMethod ({ cls := "ChannelRulesModel", name := "isShip", desc := "(I)Z" } : Jvm.MethodName)) ∈ tws := tb_3 (List.mem_of_getElem? (i := 188) rfl) rfl
theorem tw_669 : (Jvm.Cond.instanceMethod ({ cls := "ChannelRulesModel", name := "isShip", desc := "(I)Z" } : Jvm.MethodName)) ∈ tws := tb_3 (List.mem_of_getElem? (i := 189) rfl) rfl
theorem tw_670 : (Jvm.Cond.code ({ cls := "ChannelRulesModel", name := "isShip", desc := "(I)Z" } : Jvm.MethodName) prog_6_method_7_code (2 : Nat) (Option.some Jvm.ClassFile.FieldType.boolean)) ∈ tws := tb_3 (List.mem_of_getElem? (i := 190) rfl) rfl
theorem tw_671 : (Jvm.Cond.methodLink "ChannelRulesModel" (116 : Nat) ({ cls := "ChannelRulesModel", name := "lays", desc := "(III)Z" } : Jvm.MethodName)) ∈ tws := tb_3 (List.mem_of_getElem? (i := 191) rfl) rfl
theorem tw_672 : (Jvm.Cond.privateMethod ({ cls := "ChannelRulesModel", name := "lays", desc := "(III)Z" } : Jvm.MethodName)) ∈ tws := tb_3 (List.mem_of_getElem? (i := 192) rfl) rfl
theorem tw_673 : (Jvm.Cond.instanceMethod ({ cls := "ChannelRulesModel", name := "lays", desc := "(III)Z" } : Jvm.MethodName)) ∈ tws := tb_3 (List.mem_of_getElem? (i := 193) rfl) rfl
theorem tw_674 : (Jvm.Cond.code ({ cls := "ChannelRulesModel", name := "lays", desc := "(III)Z" } : Jvm.MethodName) prog_6_method_17_code (6 : Nat) (Option.some Jvm.ClassFile.FieldType.boolean)) ∈ tws := tb_3 (List.mem_of_getElem? (i := 194) rfl) rfl
theorem tw_675 : (Jvm.Cond.methodLink "ChannelRulesModel" (106 : Nat) ({ cls := "ChannelRulesModel", name := "timesTo", desc := "(II)V" } : Jvm.MethodName)) ∈ tws := tb_3 (List.mem_of_getElem? (i := 195) rfl) rfl
theorem tw_676 : (Jvm.Cond.privateMethod ({ cls := "ChannelRulesModel", name := "timesTo", desc := "(II)V" } : Jvm.MethodName)) ∈ tws := tb_3 (List.mem_of_getElem? (i := 196) rfl) rfl
theorem tw_677 : (Jvm.Cond.instanceMethod ({ cls := "ChannelRulesModel", name := "timesTo", desc := "(II)V" } : Jvm.MethodName)) ∈ tws := tb_3 (List.mem_of_getElem? (i := 197) rfl) rfl
theorem tw_678 : (Jvm.Cond.code ({ cls := "ChannelRulesModel", name := "timesTo", desc := "(II)V" } : Jvm.MethodName) prog_6_method_15_code (8 : Nat) (Option.none : Option Jvm.ClassFile.FieldType)) ∈ tws := tb_3 (List.mem_of_getElem? (i := 198) rfl) rfl
theorem tw_679 : (Jvm.Cond.constant "ChannelRulesModel" (101 : Nat) (1000000 : Int32)) ∈ tws := tb_3 (List.mem_of_getElem? (i := 199) rfl) rfl
theorem tw_680 : (Jvm.Cond.methodLink "ChannelRulesModel" (102 : Nat) ({ cls := "ChannelRulesModel", name := "takes", desc := "(II)I" } : Jvm.MethodName)) ∈ tws := tb_3 (List.mem_of_getElem? (i := 200) rfl) rfl
theorem tw_681 : (Jvm.Cond.privateMethod ({ cls := "ChannelRulesModel", name := "takes", desc := "(II)I" } : Jvm.MethodName)) ∈ tws := tb_3 (List.mem_of_getElem? (i := 201) rfl) rfl
theorem tw_682 : (Jvm.Cond.instanceMethod ({ cls := "ChannelRulesModel", name := "takes", desc := "(II)I" } : Jvm.MethodName)) ∈ tws := tb_3 (List.mem_of_getElem? (i := 202) rfl) rfl
theorem tw_683 : (Jvm.Cond.code ({ cls := "ChannelRulesModel", name := "takes", desc := "(II)I" } : Jvm.MethodName) prog_6_method_14_code (3 : Nat) (Option.some Jvm.ClassFile.FieldType.int)) ∈ tws := tb_3 (List.mem_of_getElem? (i := 203) rfl) rfl
theorem tw_684 : (Jvm.Cond.methodLink "ChannelRulesModel" (110 : Nat) ({ cls := "ChannelRulesModel", name := "next", desc := "(II)I" } : Jvm.MethodName)) ∈ tws := tb_3 (List.mem_of_getElem? (i := 204) rfl) rfl
theorem tw_685 : (Jvm.Cond.privateMethod ({ cls := "ChannelRulesModel", name := "next", desc := "(II)I" } : Jvm.MethodName)) ∈ tws := tb_3 (List.mem_of_getElem? (i := 205) rfl) rfl
theorem tw_686 : (Jvm.Cond.instanceMethod ({ cls := "ChannelRulesModel", name := "next", desc := "(II)I" } : Jvm.MethodName)) ∈ tws := tb_3 (List.mem_of_getElem? (i := 206) rfl) rfl
theorem tw_687 : (Jvm.Cond.code ({ cls := "ChannelRulesModel", name := "next", desc := "(II)I" } : Jvm.MethodName) prog_6_method_16_code (7 : Nat) (Option.some Jvm.ClassFile.FieldType.int)) ∈ tws := tb_3 (List.mem_of_getElem? (i := 207) rfl) rfl
theorem tw_688 : (Jvm.Cond.methodLink "ChannelRulesLaw" (78 : Nat) ({ cls := "ChannelRulesModel", name := "ask", desc := "(IIII)I" } : Jvm.MethodName)) ∈ tws := tb_3 (List.mem_of_getElem? (i := 208) rfl) rfl
theorem tw_689 : (Jvm.Cond.instanceMethod ({ cls := "ChannelRulesModel", name := "ask", desc := "(IIII)I" } : Jvm.MethodName)) ∈ tws := tb_3 (List.mem_of_getElem? (i := 209) rfl) rfl
theorem tw_690 : (Jvm.Cond.selects "ChannelRulesModel" ({ cls := "ChannelRulesModel", name := "ask", desc := "(IIII)I" } : Jvm.MethodName) ({ cls := "ChannelRulesModel", name := "ask", desc := "(IIII)I" } : Jvm.MethodName)) ∈ tws := tb_3 (List.mem_of_getElem? (i := 210) rfl) rfl
theorem tw_691 : (Jvm.Cond.code ({ cls := "ChannelRulesModel", name := "ask", desc := "(IIII)I" } : Jvm.MethodName) prog_6_method_27_code (7 : Nat) (Option.some Jvm.ClassFile.FieldType.int)) ∈ tws := tb_3 (List.mem_of_getElem? (i := 211) rfl) rfl
theorem tw_692 : (Jvm.Cond.methodLink "ChannelRulesModel" (143 : Nat) ({ cls := "ChannelRulesModel", name := "isPassage", desc := "(IIII)Z" } : Jvm.MethodName)) ∈ tws := tb_3 (List.mem_of_getElem? (i := 212) rfl) rfl
theorem tw_693 : (Jvm.Cond.privateMethod ({ cls := "ChannelRulesModel", name := "isPassage", desc := "(IIII)Z" } : Jvm.MethodName)) ∈ tws := tb_3 (List.mem_of_getElem? (i := 213) rfl) rfl
theorem tw_694 : (Jvm.Cond.instanceMethod ({ cls := "ChannelRulesModel", name := "isPassage", desc := "(IIII)Z" } : Jvm.MethodName)) ∈ tws := tb_3 (List.mem_of_getElem? (i := 214) rfl) rfl
theorem tw_695 : (Jvm.Cond.code ({ cls := "ChannelRulesModel", name := "isPassage", desc := "(IIII)Z" } : Jvm.MethodName) prog_6_method_26_code (5 : Nat) (Option.some Jvm.ClassFile.FieldType.boolean)) ∈ tws := tb_3 (List.mem_of_getElem? (i := 215) rfl) rfl
theorem tw_696 : (Jvm.Cond.methodLink "ChannelRulesModel" (140 : Nat) ({ cls := "ChannelRulesModel", name := "isTime", desc := "(I)Z" } : Jvm.MethodName)) ∈ tws := tb_3 (List.mem_of_getElem? (i := 216) rfl) rfl
theorem tw_697 : (Jvm.Cond.privateMethod ({ cls := "ChannelRulesModel", name := "isTime", desc := "(I)Z" } : Jvm.MethodName)) ∈ tws := tb_3 (List.mem_of_getElem? (i := 217) rfl) rfl
theorem tw_698 : (Jvm.Cond.instanceMethod ({ cls := "ChannelRulesModel", name := "isTime", desc := "(I)Z" } : Jvm.MethodName)) ∈ tws := tb_3 (List.mem_of_getElem? (i := 218) rfl) rfl
theorem tw_699 : (Jvm.Cond.code ({ cls := "ChannelRulesModel", name := "isTime", desc := "(I)Z" } : Jvm.MethodName) prog_6_method_9_code (2 : Nat) (Option.some Jvm.ClassFile.FieldType.boolean)) ∈ tws := tb_3 (List.mem_of_getElem? (i := 219) rfl) rfl
theorem tw_700 : (Jvm.Cond.constant "ChannelRulesModel" (81 : Nat) (100000 : Int32)) ∈ tws := tb_3 (List.mem_of_getElem? (i := 220) rfl) rfl
theorem tw_701 : (Jvm.Cond.methodLink "ChannelRulesModel" (147 : Nat) ({ cls := "ChannelRulesModel", name := "against", desc := "(II)I" } : Jvm.MethodName)) ∈ tws := tb_3 (List.mem_of_getElem? (i := 221) rfl) rfl
theorem tw_702 : (Jvm.Cond.privateMethod ({ cls := "ChannelRulesModel", name := "against", desc := "(II)I" } : Jvm.MethodName)) ∈ tws := tb_3 (List.mem_of_getElem? (i := 222) rfl) rfl
theorem tw_703 : (Jvm.Cond.instanceMethod ({ cls := "ChannelRulesModel", name := "against", desc := "(II)I" } : Jvm.MethodName)) ∈ tws := tb_3 (List.mem_of_getElem? (i := 223) rfl) rfl
theorem tw_704 : (Jvm.Cond.code ({ cls := "ChannelRulesModel", name := "against", desc := "(II)I" } : Jvm.MethodName) prog_6_method_25_code (7 : Nat) (Option.some Jvm.ClassFile.FieldType.int)) ∈ tws := tb_3 (List.mem_of_getElem? (i := 224) rfl) rfl
theorem tw_705 : (Jvm.Cond.methodLink "ChannelRulesModel" (133 : Nat) ({ cls := "ChannelRulesModel", name := "barred", desc := "(II)I" } : Jvm.MethodName)) ∈ tws := tb_3 (List.mem_of_getElem? (i := 225) rfl) rfl
theorem tw_706 : (Jvm.Cond.privateMethod ({ cls := "ChannelRulesModel", name := "barred", desc := "(II)I" } : Jvm.MethodName)) ∈ tws := tb_3 (List.mem_of_getElem? (i := 226) rfl) rfl
theorem tw_707 : (Jvm.Cond.instanceMethod ({ cls := "ChannelRulesModel", name := "barred", desc := "(II)I" } : Jvm.MethodName)) ∈ tws := tb_3 (List.mem_of_getElem? (i := 227) rfl) rfl
theorem tw_708 : (Jvm.Cond.code ({ cls := "ChannelRulesModel", name := "barred", desc := "(II)I" } : Jvm.MethodName) prog_6_method_22_code (9 : Nat) (Option.some Jvm.ClassFile.FieldType.int)) ∈ tws := tb_3 (List.mem_of_getElem? (i := 228) rfl) rfl
theorem tw_709 : (Jvm.Cond.methodLink "ChannelRulesModel" (119 : Nat) ({ cls := "ChannelRulesModel", name := "enters", desc := "(II)I" } : Jvm.MethodName)) ∈ tws := tb_3 (List.mem_of_getElem? (i := 229) rfl) rfl
theorem tw_710 : (Jvm.Cond.privateMethod ({ cls := "ChannelRulesModel", name := "enters", desc := "(II)I" } : Jvm.MethodName)) ∈ tws := tb_3 (List.mem_of_getElem? (i := 230) rfl) rfl
theorem tw_711 : (Jvm.Cond.instanceMethod ({ cls := "ChannelRulesModel", name := "enters", desc := "(II)I" } : Jvm.MethodName)) ∈ tws := tb_3 (List.mem_of_getElem? (i := 231) rfl) rfl
theorem tw_712 : (Jvm.Cond.code ({ cls := "ChannelRulesModel", name := "enters", desc := "(II)I" } : Jvm.MethodName) prog_6_method_19_code (5 : Nat) (Option.some Jvm.ClassFile.FieldType.int)) ∈ tws := tb_3 (List.mem_of_getElem? (i := 232) rfl) rfl
theorem tw_713 : (Jvm.Cond.methodLink "ChannelRulesModel" (122 : Nat) ({ cls := "ChannelRulesModel", name := "leaves", desc := "(II)I" } : Jvm.MethodName)) ∈ tws := tb_3 (List.mem_of_getElem? (i := 233) rfl) rfl
theorem tw_714 : (Jvm.Cond.privateMethod ({ cls := "ChannelRulesModel", name := "leaves", desc := "(II)I" } : Jvm.MethodName)) ∈ tws := tb_3 (List.mem_of_getElem? (i := 234) rfl) rfl
theorem tw_715 : (Jvm.Cond.instanceMethod ({ cls := "ChannelRulesModel", name := "leaves", desc := "(II)I" } : Jvm.MethodName)) ∈ tws := tb_3 (List.mem_of_getElem? (i := 235) rfl) rfl
theorem tw_716 : (Jvm.Cond.code ({ cls := "ChannelRulesModel", name := "leaves", desc := "(II)I" } : Jvm.MethodName) prog_6_method_20_code (3 : Nat) (Option.some Jvm.ClassFile.FieldType.int)) ∈ tws := tb_3 (List.mem_of_getElem? (i := 236) rfl) rfl
theorem tw_717 : (Jvm.Cond.methodLink "ChannelRulesModel" (125 : Nat) ({ cls := "ChannelRulesModel", name := "isNight", desc := "(II)Z" } : Jvm.MethodName)) ∈ tws := tb_3 (List.mem_of_getElem? (i := 237) rfl) rfl
theorem tw_718 : (Jvm.Cond.static ({ cls := "ChannelRulesModel", name := "isNight", desc := "(II)Z" } : Jvm.MethodName)) ∈ tws := tb_3 (List.mem_of_getElem? (i := 238) rfl) rfl
theorem tw_719 : (Jvm.Cond.code ({ cls := "ChannelRulesModel", name := "isNight", desc := "(II)Z" } : Jvm.MethodName) prog_6_method_21_code (4 : Nat) (Option.some Jvm.ClassFile.FieldType.boolean)) ∈ tws := tb_3 (List.mem_of_getElem? (i := 239) rfl) rfl
theorem tw_720 : (Jvm.Cond.methodLink "ChannelRulesModel" (136 : Nat) ({ cls := "ChannelRulesModel", name := "with", desc := "(III)I" } : Jvm.MethodName)) ∈ tws := tb_4 (List.mem_of_getElem? (i := 0) rfl) rfl
theorem tw_721 : (Jvm.Cond.privateMethod ({ cls := "ChannelRulesModel", name := "with", desc := "(III)I" } : Jvm.MethodName)) ∈ tws := tb_4 (List.mem_of_getElem? (i := 1) rfl) rfl
theorem tw_722 : (Jvm.Cond.instanceMethod ({ cls := "ChannelRulesModel", name := "with", desc := "(III)I" } : Jvm.MethodName)) ∈ tws := tb_4 (List.mem_of_getElem? (i := 2) rfl) rfl
theorem tw_723 : (Jvm.Cond.code ({ cls := "ChannelRulesModel", name := "with", desc := "(III)I" } : Jvm.MethodName) prog_6_method_24_code (6 : Nat) (Option.some Jvm.ClassFile.FieldType.int)) ∈ tws := tb_4 (List.mem_of_getElem? (i := 3) rfl) rfl
theorem tw_724 : (Jvm.Cond.methodLink "ChannelRulesModel" (129 : Nat) ({ cls := "ChannelRulesModel", name := "between", desc := "(IIII)I" } : Jvm.MethodName)) ∈ tws := tb_4 (List.mem_of_getElem? (i := 4) rfl) rfl
theorem tw_725 : (Jvm.Cond.privateMethod ({ cls := "ChannelRulesModel", name := "between", desc := "(IIII)I" } : Jvm.MethodName)) ∈ tws := tb_4 (List.mem_of_getElem? (i := 5) rfl) rfl
theorem tw_726 : (Jvm.Cond.instanceMethod ({ cls := "ChannelRulesModel", name := "between", desc := "(IIII)I" } : Jvm.MethodName)) ∈ tws := tb_4 (List.mem_of_getElem? (i := 6) rfl) rfl
theorem tw_727 : (Jvm.Cond.code ({ cls := "ChannelRulesModel", name := "between", desc := "(IIII)I" } : Jvm.MethodName) prog_6_method_23_code (12 : Nat) (Option.some Jvm.ClassFile.FieldType.int)) ∈ tws := tb_4 (List.mem_of_getElem? (i := 7) rfl) rfl
theorem tw_728 : (Jvm.Cond.methodLink "ChannelRulesLaw" (81 : Nat) ({ cls := "ChannelRulesModel", name := "earliest", desc := "(IIII)I" } : Jvm.MethodName)) ∈ tws := tb_4 (List.mem_of_getElem? (i := 8) rfl) rfl
theorem tw_729 : (Jvm.Cond.instanceMethod ({ cls := "ChannelRulesModel", name := "earliest", desc := "(IIII)I" } : Jvm.MethodName)) ∈ tws := tb_4 (List.mem_of_getElem? (i := 9) rfl) rfl
theorem tw_730 : (Jvm.Cond.selects "ChannelRulesModel" ({ cls := "ChannelRulesModel", name := "earliest", desc := "(IIII)I" } : Jvm.MethodName) ({ cls := "ChannelRulesModel", name := "earliest", desc := "(IIII)I" } : Jvm.MethodName)) ∈ tws := tb_4 (List.mem_of_getElem? (i := 10) rfl) rfl
theorem tw_731 : (Jvm.Cond.code ({ cls := "ChannelRulesModel", name := "earliest", desc := "(IIII)I" } : Jvm.MethodName) prog_6_method_28_code (6 : Nat) (Option.some Jvm.ClassFile.FieldType.int)) ∈ tws := tb_4 (List.mem_of_getElem? (i := 11) rfl) rfl
theorem tw_732 : (Jvm.Cond.methodLink "ChannelRulesLaw" (85 : Nat) ({ cls := "ChannelRulesModel", name := "change", desc := "(II)I" } : Jvm.MethodName)) ∈ tws := tb_4 (List.mem_of_getElem? (i := 12) rfl) rfl
theorem tw_733 : (Jvm.Cond.instanceMethod ({ cls := "ChannelRulesModel", name := "change", desc := "(II)I" } : Jvm.MethodName)) ∈ tws := tb_4 (List.mem_of_getElem? (i := 13) rfl) rfl
theorem tw_734 : (Jvm.Cond.selects "ChannelRulesModel" ({ cls := "ChannelRulesModel", name := "change", desc := "(II)I" } : Jvm.MethodName) ({ cls := "ChannelRulesModel", name := "change", desc := "(II)I" } : Jvm.MethodName)) ∈ tws := tb_4 (List.mem_of_getElem? (i := 14) rfl) rfl
theorem tw_735 : (Jvm.Cond.code ({ cls := "ChannelRulesModel", name := "change", desc := "(II)I" } : Jvm.MethodName) prog_6_method_29_code (4 : Nat) (Option.some Jvm.ClassFile.FieldType.int)) ∈ tws := tb_4 (List.mem_of_getElem? (i := 15) rfl) rfl
theorem tw_736 : (Jvm.Cond.methodLink "ChannelRulesModel" (150 : Nat) ({ cls := "ChannelRulesModel", name := "isSlot", desc := "(I)Z" } : Jvm.MethodName)) ∈ tws := tb_4 (List.mem_of_getElem? (i := 16) rfl) rfl
theorem tw_737 : (Jvm.Cond.privateMethod ({ cls := "ChannelRulesModel", name := "isSlot", desc := "(I)Z" } : Jvm.MethodName)) ∈ tws := tb_4 (List.mem_of_getElem? (i := 17) rfl) rfl
theorem tw_738 : (Jvm.Cond.instanceMethod ({ cls := "ChannelRulesModel", name := "isSlot", desc := "(I)Z" } : Jvm.MethodName)) ∈ tws := tb_4 (List.mem_of_getElem? (i := 18) rfl) rfl
theorem tw_739 : (Jvm.Cond.code ({ cls := "ChannelRulesModel", name := "isSlot", desc := "(I)Z" } : Jvm.MethodName) prog_6_method_8_code (2 : Nat) (Option.some Jvm.ClassFile.FieldType.boolean)) ∈ tws := tb_4 (List.mem_of_getElem? (i := 19) rfl) rfl
theorem tw_740 : (Jvm.Cond.methodLink "ChannelRulesLaw" (90 : Nat) ({ cls := "ChannelRulesModel", name := "back", desc := "(I)Z" } : Jvm.MethodName)) ∈ tws := tb_4 (List.mem_of_getElem? (i := 20) rfl) rfl
theorem tw_741 : (Jvm.Cond.instanceMethod ({ cls := "ChannelRulesModel", name := "back", desc := "(I)Z" } : Jvm.MethodName)) ∈ tws := tb_4 (List.mem_of_getElem? (i := 21) rfl) rfl
theorem tw_742 : (Jvm.Cond.selects "ChannelRulesModel" ({ cls := "ChannelRulesModel", name := "back", desc := "(I)Z" } : Jvm.MethodName) ({ cls := "ChannelRulesModel", name := "back", desc := "(I)Z" } : Jvm.MethodName)) ∈ tws := tb_4 (List.mem_of_getElem? (i := 22) rfl) rfl
theorem tw_743 : (Jvm.Cond.code ({ cls := "ChannelRulesModel", name := "back", desc := "(I)Z" } : Jvm.MethodName) prog_6_method_30_code (2 : Nat) (Option.some Jvm.ClassFile.FieldType.boolean)) ∈ tws := tb_4 (List.mem_of_getElem? (i := 23) rfl) rfl
theorem tw_744 : (Jvm.Cond.methodLink "ChannelRulesLaw" (93 : Nat) ({ cls := "ChannelRulesModel", name := "close", desc := "(III)I" } : Jvm.MethodName)) ∈ tws := tb_4 (List.mem_of_getElem? (i := 24) rfl) rfl
theorem tw_745 : (Jvm.Cond.instanceMethod ({ cls := "ChannelRulesModel", name := "close", desc := "(III)I" } : Jvm.MethodName)) ∈ tws := tb_4 (List.mem_of_getElem? (i := 25) rfl) rfl
theorem tw_746 : (Jvm.Cond.selects "ChannelRulesModel" ({ cls := "ChannelRulesModel", name := "close", desc := "(III)I" } : Jvm.MethodName) ({ cls := "ChannelRulesModel", name := "close", desc := "(III)I" } : Jvm.MethodName)) ∈ tws := tb_4 (List.mem_of_getElem? (i := 26) rfl) rfl
theorem tw_747 : (Jvm.Cond.code ({ cls := "ChannelRulesModel", name := "close", desc := "(III)I" } : Jvm.MethodName) prog_6_method_31_code (8 : Nat) (Option.some Jvm.ClassFile.FieldType.int)) ∈ tws := tb_4 (List.mem_of_getElem? (i := 27) rfl) rfl
theorem tw_748 : (Jvm.Cond.methodLink "ChannelRulesLaw" (97 : Nat) ({ cls := "ChannelRulesModel", name := "tick", desc := "(I)Z" } : Jvm.MethodName)) ∈ tws := tb_4 (List.mem_of_getElem? (i := 28) rfl) rfl
theorem tw_749 : (Jvm.Cond.instanceMethod ({ cls := "ChannelRulesModel", name := "tick", desc := "(I)Z" } : Jvm.MethodName)) ∈ tws := tb_4 (List.mem_of_getElem? (i := 29) rfl) rfl
theorem tw_750 : (Jvm.Cond.selects "ChannelRulesModel" ({ cls := "ChannelRulesModel", name := "tick", desc := "(I)Z" } : Jvm.MethodName) ({ cls := "ChannelRulesModel", name := "tick", desc := "(I)Z" } : Jvm.MethodName)) ∈ tws := tb_4 (List.mem_of_getElem? (i := 30) rfl) rfl
theorem tw_751 : (Jvm.Cond.code ({ cls := "ChannelRulesModel", name := "tick", desc := "(I)Z" } : Jvm.MethodName) prog_6_method_32_code (2 : Nat) (Option.some Jvm.ClassFile.FieldType.boolean)) ∈ tws := tb_4 (List.mem_of_getElem? (i := 31) rfl) rfl
theorem tw_752 : (Jvm.Cond.methodLink "ChannelRulesLaw" (100 : Nat) ({ cls := "ChannelRulesModel", name := "conflict", desc := "(II)I" } : Jvm.MethodName)) ∈ tws := tb_4 (List.mem_of_getElem? (i := 32) rfl) rfl
theorem tw_753 : (Jvm.Cond.instanceMethod ({ cls := "ChannelRulesModel", name := "conflict", desc := "(II)I" } : Jvm.MethodName)) ∈ tws := tb_4 (List.mem_of_getElem? (i := 33) rfl) rfl
theorem tw_754 : (Jvm.Cond.selects "ChannelRulesModel" ({ cls := "ChannelRulesModel", name := "conflict", desc := "(II)I" } : Jvm.MethodName) ({ cls := "ChannelRulesModel", name := "conflict", desc := "(II)I" } : Jvm.MethodName)) ∈ tws := tb_4 (List.mem_of_getElem? (i := 34) rfl) rfl
theorem tw_755 : (Jvm.Cond.code ({ cls := "ChannelRulesModel", name := "conflict", desc := "(II)I" } : Jvm.MethodName) prog_6_method_34_code (3 : Nat) (Option.some Jvm.ClassFile.FieldType.int)) ∈ tws := tb_4 (List.mem_of_getElem? (i := 35) rfl) rfl
theorem tw_756 : (Jvm.Cond.methodLink "ChannelRulesModel" (153 : Nat) ({ cls := "ChannelRulesModel", name := "conflicts", desc := "(II)I" } : Jvm.MethodName)) ∈ tws := tb_4 (List.mem_of_getElem? (i := 36) rfl) rfl
theorem tw_757 : (Jvm.Cond.privateMethod ({ cls := "ChannelRulesModel", name := "conflicts", desc := "(II)I" } : Jvm.MethodName)) ∈ tws := tb_4 (List.mem_of_getElem? (i := 37) rfl) rfl
theorem tw_758 : (Jvm.Cond.instanceMethod ({ cls := "ChannelRulesModel", name := "conflicts", desc := "(II)I" } : Jvm.MethodName)) ∈ tws := tb_4 (List.mem_of_getElem? (i := 38) rfl) rfl
theorem tw_759 : (Jvm.Cond.code ({ cls := "ChannelRulesModel", name := "conflicts", desc := "(II)I" } : Jvm.MethodName) prog_6_method_33_code (8 : Nat) (Option.some Jvm.ClassFile.FieldType.int)) ∈ tws := tb_4 (List.mem_of_getElem? (i := 39) rfl) rfl
theorem tw_760 : (Jvm.Cond.methodLink "ChannelRulesLaw" (103 : Nat) ({ cls := "ChannelRulesModel", name := "at", desc := "(III)I" } : Jvm.MethodName)) ∈ tws := tb_4 (List.mem_of_getElem? (i := 40) rfl) rfl
theorem tw_761 : (Jvm.Cond.instanceMethod ({ cls := "ChannelRulesModel", name := "at", desc := "(III)I" } : Jvm.MethodName)) ∈ tws := tb_4 (List.mem_of_getElem? (i := 41) rfl) rfl
theorem tw_762 : (Jvm.Cond.selects "ChannelRulesModel" ({ cls := "ChannelRulesModel", name := "at", desc := "(III)I" } : Jvm.MethodName) ({ cls := "ChannelRulesModel", name := "at", desc := "(III)I" } : Jvm.MethodName)) ∈ tws := tb_4 (List.mem_of_getElem? (i := 42) rfl) rfl
theorem tw_763 : (Jvm.Cond.code ({ cls := "ChannelRulesModel", name := "at", desc := "(III)I" } : Jvm.MethodName) prog_6_method_35_code (4 : Nat) (Option.some Jvm.ClassFile.FieldType.int)) ∈ tws := tb_4 (List.mem_of_getElem? (i := 43) rfl) rfl
theorem tw_764 : (Jvm.Cond.methodLink "ChannelRulesLaw" (108 : Nat) ({ cls := "ChannelRulesModel", name := "count", desc := "(I)I" } : Jvm.MethodName)) ∈ tws := tb_4 (List.mem_of_getElem? (i := 44) rfl) rfl
theorem tw_765 : (Jvm.Cond.instanceMethod ({ cls := "ChannelRulesModel", name := "count", desc := "(I)I" } : Jvm.MethodName)) ∈ tws := tb_4 (List.mem_of_getElem? (i := 45) rfl) rfl
theorem tw_766 : (Jvm.Cond.selects "ChannelRulesModel" ({ cls := "ChannelRulesModel", name := "count", desc := "(I)I" } : Jvm.MethodName) ({ cls := "ChannelRulesModel", name := "count", desc := "(I)I" } : Jvm.MethodName)) ∈ tws := tb_4 (List.mem_of_getElem? (i := 46) rfl) rfl
theorem tw_767 : (Jvm.Cond.code ({ cls := "ChannelRulesModel", name := "count", desc := "(I)I" } : Jvm.MethodName) prog_6_method_36_code (4 : Nat) (Option.some Jvm.ClassFile.FieldType.int)) ∈ tws := tb_4 (List.mem_of_getElem? (i := 47) rfl) rfl
theorem tw_768 : (Jvm.Cond.arrayClass Jvm.ClassFile.FieldType.long) ∈ tws := tb_4 (List.mem_of_getElem? (i := 48) rfl) rfl
theorem tw_769 : (Jvm.Cond.sameMethod "java/lang/Throwable" "java/lang/Throwable" "fillInStackTrace" "(I)Ljava/lang/Throwable;") ∈ tws := tb_4 (List.mem_of_getElem? (i := 49) rfl) rfl
theorem ts_cr_isStillToBegin : Cond.selects "ChannelRules" ⟨"ChannelRules", "isStillToBegin", "(I)Z"⟩ ⟨"ChannelRules", "isStillToBegin", "(I)Z"⟩ ∈ tws := tb_0 (List.mem_of_getElem? (i := 0) rfl) rfl
theorem ts_cr_seekConflict : Cond.selects "ChannelRules" ⟨"ChannelRules", "seekConflict", "(I)I"⟩ ⟨"ChannelRules", "seekConflict", "(I)I"⟩ ∈ tws := tb_0 (List.mem_of_getElem? (i := 1) rfl) rfl
theorem ts_cr_seekConflictOfPair : Cond.selects "ChannelRules" ⟨"ChannelRules", "seekConflictOfPair", "(IIII)I"⟩ ⟨"ChannelRules", "seekConflictOfPair", "(IIII)I"⟩ ∈ tws := tb_0 (List.mem_of_getElem? (i := 2) rfl) rfl
theorem ts_cr_conflictWith : Cond.selects "ChannelRules" ⟨"ChannelRules", "conflictWith", "(III)I"⟩ ⟨"ChannelRules", "conflictWith", "(III)I"⟩ ∈ tws := tb_0 (List.mem_of_getElem? (i := 3) rfl) rfl
theorem ts_cr_givenMark : Cond.selects "ChannelRules" ⟨"ChannelRules", "givenMark", "(I)I"⟩ ⟨"ChannelRules", "givenMark", "(I)I"⟩ ∈ tws := tb_0 (List.mem_of_getElem? (i := 4) rfl) rfl
theorem ts_cr_isVoyage : Cond.selects "ChannelRules" ⟨"ChannelRules", "isVoyage", "(III)Z"⟩ ⟨"ChannelRules", "isVoyage", "(III)Z"⟩ ∈ tws := tb_0 (List.mem_of_getElem? (i := 6) rfl) rfl
theorem ts_cr_planRoute : Cond.selects "ChannelRules" ⟨"ChannelRules", "planRoute", "(III)Z"⟩ ⟨"ChannelRules", "planRoute", "(III)Z"⟩ ∈ tws := tb_0 (List.mem_of_getElem? (i := 7) rfl) rfl
theorem ts_cr_measureTimeLeft : Cond.selects "ChannelRules" ⟨"ChannelRules", "measureTimeLeft", "(II)V"⟩ ⟨"ChannelRules", "measureTimeLeft", "(II)V"⟩ ∈ tws := tb_0 (List.mem_of_getElem? (i := 8) rfl) rfl
theorem ts_cr_fits : Cond.selects "ChannelRules" ⟨"ChannelRules", "fits", "(II)Z"⟩ ⟨"ChannelRules", "fits", "(II)Z"⟩ ∈ tws := tb_0 (List.mem_of_getElem? (i := 9) rfl) rfl
theorem ts_cr_travelTime : Cond.selects "ChannelRules" ⟨"ChannelRules", "travelTime", "(II)I"⟩ ⟨"ChannelRules", "travelTime", "(II)I"⟩ ∈ tws := tb_0 (List.mem_of_getElem? (i := 10) rfl) rfl
theorem ts_cr_shortenBy : Cond.selects "ChannelRules" ⟨"ChannelRules", "shortenBy", "(II)V"⟩ ⟨"ChannelRules", "shortenBy", "(II)V"⟩ ∈ tws := tb_0 (List.mem_of_getElem? (i := 11) rfl) rfl
theorem ts_cr_nextPiece : Cond.selects "ChannelRules" ⟨"ChannelRules", "nextPiece", "(II)I"⟩ ⟨"ChannelRules", "nextPiece", "(II)I"⟩ ∈ tws := tb_0 (List.mem_of_getElem? (i := 12) rfl) rfl
theorem ts_cr_firstBar : Cond.selects "ChannelRules" ⟨"ChannelRules", "firstBar", "(I)I"⟩ ⟨"ChannelRules", "firstBar", "(I)I"⟩ ∈ tws := tb_0 (List.mem_of_getElem? (i := 13) rfl) rfl
theorem ts_cr_barByPiece : Cond.selects "ChannelRules" ⟨"ChannelRules", "barByPiece", "(II)I"⟩ ⟨"ChannelRules", "barByPiece", "(II)I"⟩ ∈ tws := tb_0 (List.mem_of_getElem? (i := 14) rfl) rfl
theorem ts_cr_isAgainstOneWay : Cond.selects "ChannelRules" ⟨"ChannelRules", "isAgainstOneWay", "(II)Z"⟩ ⟨"ChannelRules", "isAgainstOneWay", "(II)Z"⟩ ∈ tws := tb_0 (List.mem_of_getElem? (i := 15) rfl) rfl
theorem ts_cr_isBarredAtNight : Cond.selects "ChannelRules" ⟨"ChannelRules", "isBarredAtNight", "(II)Z"⟩ ⟨"ChannelRules", "isBarredAtNight", "(II)Z"⟩ ∈ tws := tb_0 (List.mem_of_getElem? (i := 16) rfl) rfl
theorem ts_cr_isBarredInWind : Cond.selects "ChannelRules" ⟨"ChannelRules", "isBarredInWind", "(II)Z"⟩ ⟨"ChannelRules", "isBarredInWind", "(II)Z"⟩ ∈ tws := tb_0 (List.mem_of_getElem? (i := 17) rfl) rfl
theorem ts_cr_barBySlots : Cond.selects "ChannelRules" ⟨"ChannelRules", "barBySlots", "(II)I"⟩ ⟨"ChannelRules", "barBySlots", "(II)I"⟩ ∈ tws := tb_0 (List.mem_of_getElem? (i := 18) rfl) rfl
theorem ts_cr_planWait : Cond.selects "ChannelRules" ⟨"ChannelRules", "planWait", "()I"⟩ ⟨"ChannelRules", "planWait", "()I"⟩ ∈ tws := tb_0 (List.mem_of_getElem? (i := 19) rfl) rfl
theorem ts_cr_planWaitByPiece : Cond.selects "ChannelRules" ⟨"ChannelRules", "planWaitByPiece", "(I)I"⟩ ⟨"ChannelRules", "planWaitByPiece", "(I)I"⟩ ∈ tws := tb_0 (List.mem_of_getElem? (i := 20) rfl) rfl
theorem ts_cr_planWaitBySlots : Cond.selects "ChannelRules" ⟨"ChannelRules", "planWaitBySlots", "(I)I"⟩ ⟨"ChannelRules", "planWaitBySlots", "(I)I"⟩ ∈ tws := tb_0 (List.mem_of_getElem? (i := 21) rfl) rfl
theorem ts_cr_planWaitFor : Cond.selects "ChannelRules" ⟨"ChannelRules", "planWaitFor", "(II)I"⟩ ⟨"ChannelRules", "planWaitFor", "(II)I"⟩ ∈ tws := tb_0 (List.mem_of_getElem? (i := 22) rfl) rfl
theorem ts_cr_endSlotsOn : Cond.selects "ChannelRules" ⟨"ChannelRules", "endSlotsOn", "(III)I"⟩ ⟨"ChannelRules", "endSlotsOn", "(III)I"⟩ ∈ tws := tb_0 (List.mem_of_getElem? (i := 23) rfl) rfl
theorem ts_md_fails : Cond.selects "ChannelRulesModel" ⟨"ChannelRulesModel", "fails", "(I)I"⟩ ⟨"ChannelRulesModel", "fails", "(I)I"⟩ ∈ tws := tb_0 (List.mem_of_getElem? (i := 24) rfl) rfl
theorem ts_md_isPiece : Cond.selects "ChannelRulesModel" ⟨"ChannelRulesModel", "isPiece", "(I)Z"⟩ ⟨"ChannelRulesModel", "isPiece", "(I)Z"⟩ ∈ tws := tb_0 (List.mem_of_getElem? (i := 25) rfl) rfl
theorem ts_md_isShip : Cond.selects "ChannelRulesModel" ⟨"ChannelRulesModel", "isShip", "(I)Z"⟩ ⟨"ChannelRulesModel", "isShip", "(I)Z"⟩ ∈ tws := tb_0 (List.mem_of_getElem? (i := 26) rfl) rfl
theorem ts_md_lays : Cond.selects "ChannelRulesModel" ⟨"ChannelRulesModel", "lays", "(III)Z"⟩ ⟨"ChannelRulesModel", "lays", "(III)Z"⟩ ∈ tws := tb_0 (List.mem_of_getElem? (i := 27) rfl) rfl
theorem ts_md_timesTo : Cond.selects "ChannelRulesModel" ⟨"ChannelRulesModel", "timesTo", "(II)V"⟩ ⟨"ChannelRulesModel", "timesTo", "(II)V"⟩ ∈ tws := tb_0 (List.mem_of_getElem? (i := 28) rfl) rfl
theorem ts_md_takes : Cond.selects "ChannelRulesModel" ⟨"ChannelRulesModel", "takes", "(II)I"⟩ ⟨"ChannelRulesModel", "takes", "(II)I"⟩ ∈ tws := tb_0 (List.mem_of_getElem? (i := 29) rfl) rfl
theorem ts_md_next : Cond.selects "ChannelRulesModel" ⟨"ChannelRulesModel", "next", "(II)I"⟩ ⟨"ChannelRulesModel", "next", "(II)I"⟩ ∈ tws := tb_0 (List.mem_of_getElem? (i := 30) rfl) rfl
theorem ts_md_isPassage : Cond.selects "ChannelRulesModel" ⟨"ChannelRulesModel", "isPassage", "(IIII)Z"⟩ ⟨"ChannelRulesModel", "isPassage", "(IIII)Z"⟩ ∈ tws := tb_0 (List.mem_of_getElem? (i := 31) rfl) rfl
theorem ts_md_isTime : Cond.selects "ChannelRulesModel" ⟨"ChannelRulesModel", "isTime", "(I)Z"⟩ ⟨"ChannelRulesModel", "isTime", "(I)Z"⟩ ∈ tws := tb_0 (List.mem_of_getElem? (i := 32) rfl) rfl
theorem ts_md_against : Cond.selects "ChannelRulesModel" ⟨"ChannelRulesModel", "against", "(II)I"⟩ ⟨"ChannelRulesModel", "against", "(II)I"⟩ ∈ tws := tb_0 (List.mem_of_getElem? (i := 33) rfl) rfl
theorem ts_md_barred : Cond.selects "ChannelRulesModel" ⟨"ChannelRulesModel", "barred", "(II)I"⟩ ⟨"ChannelRulesModel", "barred", "(II)I"⟩ ∈ tws := tb_0 (List.mem_of_getElem? (i := 34) rfl) rfl
theorem ts_md_enters : Cond.selects "ChannelRulesModel" ⟨"ChannelRulesModel", "enters", "(II)I"⟩ ⟨"ChannelRulesModel", "enters", "(II)I"⟩ ∈ tws := tb_0 (List.mem_of_getElem? (i := 35) rfl) rfl
theorem ts_md_leaves : Cond.selects "ChannelRulesModel" ⟨"ChannelRulesModel", "leaves", "(II)I"⟩ ⟨"ChannelRulesModel", "leaves", "(II)I"⟩ ∈ tws := tb_0 (List.mem_of_getElem? (i := 36) rfl) rfl
theorem ts_md_with : Cond.selects "ChannelRulesModel" ⟨"ChannelRulesModel", "with", "(III)I"⟩ ⟨"ChannelRulesModel", "with", "(III)I"⟩ ∈ tws := tb_0 (List.mem_of_getElem? (i := 37) rfl) rfl
theorem ts_md_between : Cond.selects "ChannelRulesModel" ⟨"ChannelRulesModel", "between", "(IIII)I"⟩ ⟨"ChannelRulesModel", "between", "(IIII)I"⟩ ∈ tws := tb_0 (List.mem_of_getElem? (i := 38) rfl) rfl
theorem ts_md_isSlot : Cond.selects "ChannelRulesModel" ⟨"ChannelRulesModel", "isSlot", "(I)Z"⟩ ⟨"ChannelRulesModel", "isSlot", "(I)Z"⟩ ∈ tws := tb_0 (List.mem_of_getElem? (i := 39) rfl) rfl
theorem ts_md_conflicts : Cond.selects "ChannelRulesModel" ⟨"ChannelRulesModel", "conflicts", "(II)I"⟩ ⟨"ChannelRulesModel", "conflicts", "(II)I"⟩ ∈ tws := tb_0 (List.mem_of_getElem? (i := 40) rfl) rfl
end
section
theorem d_ps_init_0 : decode b_ps_init 0 = .ok (.aload_n 0, 1) := by decide +kernel
theorem d_ps_init_1 : decode b_ps_init 1 = .ok (.invokespecial 3, 3) := by decide +kernel
theorem d_ps_init_4 : decode b_ps_init 4 = .ok (.aload_n 0, 1) := by decide +kernel
theorem d_ps_init_5 : decode b_ps_init 5 = .ok (.iconst 0, 1) := by decide +kernel
theorem d_ps_init_6 : decode b_ps_init 6 = .ok (.putfield 9, 3) := by decide +kernel
theorem d_ps_init_9 : decode b_ps_init 9 = .ok (.aload_n 0, 1) := by decide +kernel
theorem d_ps_init_10 : decode b_ps_init 10 = .ok (.bipush 31, 2) := by decide +kernel
theorem d_ps_init_12 : decode b_ps_init 12 = .ok (.newarray .boolean, 2) := by decide +kernel
theorem d_ps_init_14 : decode b_ps_init 14 = .ok (.putfield 15, 3) := by decide +kernel
theorem d_ps_init_17 : decode b_ps_init 17 = .ok (.aload_n 0, 1) := by decide +kernel
theorem d_ps_init_18 : decode b_ps_init 18 = .ok (.bipush 31, 2) := by decide +kernel
theorem d_ps_init_20 : decode b_ps_init 20 = .ok (.newarray .int, 2) := by decide +kernel
theorem d_ps_init_22 : decode b_ps_init 22 = .ok (.putfield 19, 3) := by decide +kernel
theorem d_ps_init_25 : decode b_ps_init 25 = .ok (.aload_n 0, 1) := by decide +kernel
theorem d_ps_init_26 : decode b_ps_init 26 = .ok (.bipush 31, 2) := by decide +kernel
theorem d_ps_init_28 : decode b_ps_init 28 = .ok (.newarray .int, 2) := by decide +kernel
theorem d_ps_init_30 : decode b_ps_init 30 = .ok (.putfield 23, 3) := by decide +kernel
theorem d_ps_init_33 : decode b_ps_init 33 = .ok (.aload_n 0, 1) := by decide +kernel
theorem d_ps_init_34 : decode b_ps_init 34 = .ok (.bipush 31, 2) := by decide +kernel
theorem d_ps_init_36 : decode b_ps_init 36 = .ok (.newarray .int, 2) := by decide +kernel
theorem d_ps_init_38 : decode b_ps_init 38 = .ok (.putfield 26, 3) := by decide +kernel
theorem d_ps_init_41 : decode b_ps_init 41 = .ok (.aload_n 0, 1) := by decide +kernel
theorem d_ps_init_42 : decode b_ps_init 42 = .ok (.sipush 217, 3) := by decide +kernel
theorem d_ps_init_45 : decode b_ps_init 45 = .ok (.newarray .int, 2) := by decide +kernel
theorem d_ps_init_47 : decode b_ps_init 47 = .ok (.putfield 29, 3) := by decide +kernel
theorem d_ps_init_50 : decode b_ps_init 50 = .ok (.aload_n 0, 1) := by decide +kernel
theorem d_ps_init_51 : decode b_ps_init 51 = .ok (.sipush 217, 3) := by decide +kernel
theorem d_ps_init_54 : decode b_ps_init 54 = .ok (.newarray .boolean, 2) := by decide +kernel
theorem d_ps_init_56 : decode b_ps_init 56 = .ok (.putfield 32, 3) := by decide +kernel
theorem d_ps_init_59 : decode b_ps_init 59 = .ok (.aload_n 0, 1) := by decide +kernel
theorem d_ps_init_60 : decode b_ps_init 60 = .ok (.sipush 248, 3) := by decide +kernel
theorem d_ps_init_63 : decode b_ps_init 63 = .ok (.newarray .int, 2) := by decide +kernel
theorem d_ps_init_65 : decode b_ps_init 65 = .ok (.putfield 35, 3) := by decide +kernel
theorem d_ps_init_68 : decode b_ps_init 68 = .ok (.aload_n 0, 1) := by decide +kernel
theorem d_ps_init_69 : decode b_ps_init 69 = .ok (.sipush 372, 3) := by decide +kernel
theorem d_ps_init_72 : decode b_ps_init 72 = .ok (.newarray .int, 2) := by decide +kernel
theorem d_ps_init_74 : decode b_ps_init 74 = .ok (.putfield 38, 3) := by decide +kernel
theorem d_ps_init_77 : decode b_ps_init 77 = .ok (.return_, 1) := by decide +kernel
theorem d_ps_hasSlot_0 : decode b_ps_hasSlot 0 = .ok (.iload_n 1, 1) := by decide +kernel
theorem d_ps_hasSlot_1 : decode b_ps_hasSlot 1 = .ok (.iconst 1, 1) := by decide +kernel
theorem d_ps_hasSlot_2 : decode b_ps_hasSlot 2 = .ok (.aload_n 0, 1) := by decide +kernel
theorem d_ps_hasSlot_3 : decode b_ps_hasSlot 3 = .ok (.getfield 9, 3) := by decide +kernel
theorem d_ps_hasSlot_6 : decode b_ps_hasSlot 6 = .ok (.invokestatic 41, 3) := by decide +kernel
theorem d_ps_hasSlot_9 : decode b_ps_hasSlot 9 = .ok (.ireturn, 1) := by decide +kernel
theorem d_ps_givenSlots_0 : decode b_ps_givenSlots 0 = .ok (.iconst 0, 1) := by decide +kernel
theorem d_ps_givenSlots_1 : decode b_ps_givenSlots 1 = .ok (.istore_n 1, 1) := by decide +kernel
theorem d_ps_givenSlots_2 : decode b_ps_givenSlots 2 = .ok (.iconst 1, 1) := by decide +kernel
theorem d_ps_givenSlots_3 : decode b_ps_givenSlots 3 = .ok (.istore_n 2, 1) := by decide +kernel
theorem d_ps_givenSlots_4 : decode b_ps_givenSlots 4 = .ok (.iload_n 2, 1) := by decide +kernel
theorem d_ps_givenSlots_5 : decode b_ps_givenSlots 5 = .ok (.aload_n 0, 1) := by decide +kernel
theorem d_ps_givenSlots_6 : decode b_ps_givenSlots 6 = .ok (.getfield 9, 3) := by decide +kernel
theorem d_ps_givenSlots_9 : decode b_ps_givenSlots 9 = .ok (.if_icmp .gt 21, 3) := by decide +kernel
theorem d_ps_givenSlots_12 : decode b_ps_givenSlots 12 = .ok (.aload_n 0, 1) := by decide +kernel
theorem d_ps_givenSlots_13 : decode b_ps_givenSlots 13 = .ok (.getfield 15, 3) := by decide +kernel
theorem d_ps_givenSlots_16 : decode b_ps_givenSlots 16 = .ok (.iload_n 2, 1) := by decide +kernel
theorem d_ps_givenSlots_17 : decode b_ps_givenSlots 17 = .ok (.baload, 1) := by decide +kernel
theorem d_ps_givenSlots_18 : decode b_ps_givenSlots 18 = .ok (.ifCond .eq 6, 3) := by decide +kernel
theorem d_ps_givenSlots_21 : decode b_ps_givenSlots 21 = .ok (.iinc 1 1, 3) := by decide +kernel
theorem d_ps_givenSlots_24 : decode b_ps_givenSlots 24 = .ok (.iinc 2 1, 3) := by decide +kernel
theorem d_ps_givenSlots_27 : decode b_ps_givenSlots 27 = .ok (.goto (-23), 3) := by decide +kernel
theorem d_ps_givenSlots_30 : decode b_ps_givenSlots 30 = .ok (.iload_n 1, 1) := by decide +kernel
theorem d_ps_givenSlots_31 : decode b_ps_givenSlots 31 = .ok (.ireturn, 1) := by decide +kernel
theorem d_ps_pieceOf_0 : decode b_ps_pieceOf 0 = .ok (.aload_n 0, 1) := by decide +kernel
theorem d_ps_pieceOf_1 : decode b_ps_pieceOf 1 = .ok (.getfield 29, 3) := by decide +kernel
theorem d_ps_pieceOf_4 : decode b_ps_pieceOf 4 = .ok (.iload_n 1, 1) := by decide +kernel
theorem d_ps_pieceOf_5 : decode b_ps_pieceOf 5 = .ok (.bipush 7, 2) := by decide +kernel
theorem d_ps_pieceOf_7 : decode b_ps_pieceOf 7 = .ok (.imul, 1) := by decide +kernel
theorem d_ps_pieceOf_8 : decode b_ps_pieceOf 8 = .ok (.iload_n 2, 1) := by decide +kernel
theorem d_ps_pieceOf_9 : decode b_ps_pieceOf 9 = .ok (.iadd, 1) := by decide +kernel
theorem d_ps_pieceOf_10 : decode b_ps_pieceOf 10 = .ok (.iaload, 1) := by decide +kernel
theorem d_ps_pieceOf_11 : decode b_ps_pieceOf 11 = .ok (.ireturn, 1) := by decide +kernel
theorem d_ps_stayOn_0 : decode b_ps_stayOn 0 = .ok (.aload_n 0, 1) := by decide +kernel
theorem d_ps_stayOn_1 : decode b_ps_stayOn 1 = .ok (.getfield 38, 3) := by decide +kernel
theorem d_ps_stayOn_4 : decode b_ps_stayOn 4 = .ok (.iload_n 1, 1) := by decide +kernel
theorem d_ps_stayOn_5 : decode b_ps_stayOn 5 = .ok (.bipush 12, 2) := by decide +kernel
theorem d_ps_stayOn_7 : decode b_ps_stayOn 7 = .ok (.imul, 1) := by decide +kernel
theorem d_ps_stayOn_8 : decode b_ps_stayOn 8 = .ok (.iload_n 2, 1) := by decide +kernel
theorem d_ps_stayOn_9 : decode b_ps_stayOn 9 = .ok (.iadd, 1) := by decide +kernel
theorem d_ps_stayOn_10 : decode b_ps_stayOn 10 = .ok (.iaload, 1) := by decide +kernel
theorem d_ps_stayOn_11 : decode b_ps_stayOn 11 = .ok (.iconst 1, 1) := by decide +kernel
theorem d_ps_stayOn_12 : decode b_ps_stayOn 12 = .ok (.isub, 1) := by decide +kernel
theorem d_ps_stayOn_13 : decode b_ps_stayOn 13 = .ok (.ireturn, 1) := by decide +kernel
theorem d_ps_entersAt_0 : decode b_ps_entersAt 0 = .ok (.aload_n 0, 1) := by decide +kernel
theorem d_ps_entersAt_1 : decode b_ps_entersAt 1 = .ok (.getfield 23, 3) := by decide +kernel
theorem d_ps_entersAt_4 : decode b_ps_entersAt 4 = .ok (.iload_n 1, 1) := by decide +kernel
theorem d_ps_entersAt_5 : decode b_ps_entersAt 5 = .ok (.iaload, 1) := by decide +kernel
theorem d_ps_entersAt_6 : decode b_ps_entersAt 6 = .ok (.aload_n 0, 1) := by decide +kernel
theorem d_ps_entersAt_7 : decode b_ps_entersAt 7 = .ok (.getfield 35, 3) := by decide +kernel
theorem d_ps_entersAt_10 : decode b_ps_entersAt 10 = .ok (.iload_n 1, 1) := by decide +kernel
theorem d_ps_entersAt_11 : decode b_ps_entersAt 11 = .ok (.bipush 8, 2) := by decide +kernel
theorem d_ps_entersAt_13 : decode b_ps_entersAt 13 = .ok (.imul, 1) := by decide +kernel
theorem d_ps_entersAt_14 : decode b_ps_entersAt 14 = .ok (.iload_n 2, 1) := by decide +kernel
theorem d_ps_entersAt_15 : decode b_ps_entersAt 15 = .ok (.iadd, 1) := by decide +kernel
theorem d_ps_entersAt_16 : decode b_ps_entersAt 16 = .ok (.iaload, 1) := by decide +kernel
theorem d_ps_entersAt_17 : decode b_ps_entersAt 17 = .ok (.iadd, 1) := by decide +kernel
theorem d_ps_entersAt_18 : decode b_ps_entersAt 18 = .ok (.ireturn, 1) := by decide +kernel
theorem d_ps_leavesAt_0 : decode b_ps_leavesAt 0 = .ok (.aload_n 0, 1) := by decide +kernel
theorem d_ps_leavesAt_1 : decode b_ps_leavesAt 1 = .ok (.getfield 23, 3) := by decide +kernel
theorem d_ps_leavesAt_4 : decode b_ps_leavesAt 4 = .ok (.iload_n 1, 1) := by decide +kernel
theorem d_ps_leavesAt_5 : decode b_ps_leavesAt 5 = .ok (.iaload, 1) := by decide +kernel
theorem d_ps_leavesAt_6 : decode b_ps_leavesAt 6 = .ok (.aload_n 0, 1) := by decide +kernel
theorem d_ps_leavesAt_7 : decode b_ps_leavesAt 7 = .ok (.getfield 35, 3) := by decide +kernel
theorem d_ps_leavesAt_10 : decode b_ps_leavesAt 10 = .ok (.iload_n 1, 1) := by decide +kernel
theorem d_ps_leavesAt_11 : decode b_ps_leavesAt 11 = .ok (.bipush 8, 2) := by decide +kernel
theorem d_ps_leavesAt_13 : decode b_ps_leavesAt 13 = .ok (.imul, 1) := by decide +kernel
theorem d_ps_leavesAt_14 : decode b_ps_leavesAt 14 = .ok (.iload_n 2, 1) := by decide +kernel
theorem d_ps_leavesAt_15 : decode b_ps_leavesAt 15 = .ok (.iadd, 1) := by decide +kernel
theorem d_ps_leavesAt_16 : decode b_ps_leavesAt 16 = .ok (.iconst 1, 1) := by decide +kernel
theorem d_ps_leavesAt_17 : decode b_ps_leavesAt 17 = .ok (.iadd, 1) := by decide +kernel
theorem d_ps_leavesAt_18 : decode b_ps_leavesAt 18 = .ok (.iaload, 1) := by decide +kernel
theorem d_ps_leavesAt_19 : decode b_ps_leavesAt 19 = .ok (.iadd, 1) := by decide +kernel
theorem d_ps_leavesAt_20 : decode b_ps_leavesAt 20 = .ok (.ireturn, 1) := by decide +kernel
theorem d_ps_isForward_0 : decode b_ps_isForward 0 = .ok (.aload_n 0, 1) := by decide +kernel
theorem d_ps_isForward_1 : decode b_ps_isForward 1 = .ok (.getfield 32, 3) := by decide +kernel
theorem d_ps_isForward_4 : decode b_ps_isForward 4 = .ok (.iload_n 1, 1) := by decide +kernel
theorem d_ps_isForward_5 : decode b_ps_isForward 5 = .ok (.bipush 7, 2) := by decide +kernel
theorem d_ps_isForward_7 : decode b_ps_isForward 7 = .ok (.imul, 1) := by decide +kernel
theorem d_ps_isForward_8 : decode b_ps_isForward 8 = .ok (.iload_n 2, 1) := by decide +kernel
theorem d_ps_isForward_9 : decode b_ps_isForward 9 = .ok (.iadd, 1) := by decide +kernel
theorem d_ps_isForward_10 : decode b_ps_isForward 10 = .ok (.baload, 1) := by decide +kernel
theorem d_ps_isForward_11 : decode b_ps_isForward 11 = .ok (.ireturn, 1) := by decide +kernel
theorem d_ps_isOvertaking_0 : decode b_ps_isOvertaking 0 = .ok (.aload_n 0, 1) := by decide +kernel
theorem d_ps_isOvertaking_1 : decode b_ps_isOvertaking 1 = .ok (.iload_n 1, 1) := by decide +kernel
theorem d_ps_isOvertaking_2 : decode b_ps_isOvertaking 2 = .ok (.iload_n 2, 1) := by decide +kernel
theorem d_ps_isOvertaking_3 : decode b_ps_isOvertaking 3 = .ok (.invokevirtual 45, 3) := by decide +kernel
theorem d_ps_isOvertaking_6 : decode b_ps_isOvertaking 6 = .ok (.aload_n 0, 1) := by decide +kernel
theorem d_ps_isOvertaking_7 : decode b_ps_isOvertaking 7 = .ok (.iload_n 3, 1) := by decide +kernel
theorem d_ps_isOvertaking_8 : decode b_ps_isOvertaking 8 = .ok (.iload 4, 2) := by decide +kernel
theorem d_ps_isOvertaking_10 : decode b_ps_isOvertaking 10 = .ok (.invokevirtual 45, 3) := by decide +kernel
theorem d_ps_isOvertaking_13 : decode b_ps_isOvertaking 13 = .ok (.isub, 1) := by decide +kernel
theorem d_ps_isOvertaking_14 : decode b_ps_isOvertaking 14 = .ok (.istore 5, 2) := by decide +kernel
theorem d_ps_isOvertaking_16 : decode b_ps_isOvertaking 16 = .ok (.aload_n 0, 1) := by decide +kernel
theorem d_ps_isOvertaking_17 : decode b_ps_isOvertaking 17 = .ok (.iload_n 1, 1) := by decide +kernel
theorem d_ps_isOvertaking_18 : decode b_ps_isOvertaking 18 = .ok (.iload_n 2, 1) := by decide +kernel
theorem d_ps_isOvertaking_19 : decode b_ps_isOvertaking 19 = .ok (.invokevirtual 49, 3) := by decide +kernel
theorem d_ps_isOvertaking_22 : decode b_ps_isOvertaking 22 = .ok (.aload_n 0, 1) := by decide +kernel
theorem d_ps_isOvertaking_23 : decode b_ps_isOvertaking 23 = .ok (.iload_n 3, 1) := by decide +kernel
theorem d_ps_isOvertaking_24 : decode b_ps_isOvertaking 24 = .ok (.iload 4, 2) := by decide +kernel
theorem d_ps_isOvertaking_26 : decode b_ps_isOvertaking 26 = .ok (.invokevirtual 49, 3) := by decide +kernel
theorem d_ps_isOvertaking_29 : decode b_ps_isOvertaking 29 = .ok (.isub, 1) := by decide +kernel
theorem d_ps_isOvertaking_30 : decode b_ps_isOvertaking 30 = .ok (.istore 6, 2) := by decide +kernel
theorem d_ps_isOvertaking_32 : decode b_ps_isOvertaking 32 = .ok (.iload 5, 2) := by decide +kernel
theorem d_ps_isOvertaking_34 : decode b_ps_isOvertaking 34 = .ok (.ifCond .ge 12, 3) := by decide +kernel
theorem d_ps_isOvertaking_37 : decode b_ps_isOvertaking 37 = .ok (.iload 6, 2) := by decide +kernel
theorem d_ps_isOvertaking_39 : decode b_ps_isOvertaking 39 = .ok (.ifCond .ge 7, 3) := by decide +kernel
theorem d_ps_isOvertaking_42 : decode b_ps_isOvertaking 42 = .ok (.iconst 1, 1) := by decide +kernel
theorem d_ps_isOvertaking_43 : decode b_ps_isOvertaking 43 = .ok (.goto 4, 3) := by decide +kernel
theorem d_ps_isOvertaking_46 : decode b_ps_isOvertaking 46 = .ok (.iconst 0, 1) := by decide +kernel
theorem d_ps_isOvertaking_47 : decode b_ps_isOvertaking 47 = .ok (.istore 7, 2) := by decide +kernel
theorem d_ps_isOvertaking_49 : decode b_ps_isOvertaking 49 = .ok (.iload 5, 2) := by decide +kernel
theorem d_ps_isOvertaking_51 : decode b_ps_isOvertaking 51 = .ok (.ifCond .le 12, 3) := by decide +kernel
theorem d_ps_isOvertaking_54 : decode b_ps_isOvertaking 54 = .ok (.iload 6, 2) := by decide +kernel
theorem d_ps_isOvertaking_56 : decode b_ps_isOvertaking 56 = .ok (.ifCond .le 7, 3) := by decide +kernel
theorem d_ps_isOvertaking_59 : decode b_ps_isOvertaking 59 = .ok (.iconst 1, 1) := by decide +kernel
theorem d_ps_isOvertaking_60 : decode b_ps_isOvertaking 60 = .ok (.goto 4, 3) := by decide +kernel
theorem d_ps_isOvertaking_63 : decode b_ps_isOvertaking 63 = .ok (.iconst 0, 1) := by decide +kernel
theorem d_ps_isOvertaking_64 : decode b_ps_isOvertaking 64 = .ok (.istore 8, 2) := by decide +kernel
theorem d_ps_isOvertaking_66 : decode b_ps_isOvertaking 66 = .ok (.iload 7, 2) := by decide +kernel
theorem d_ps_isOvertaking_68 : decode b_ps_isOvertaking 68 = .ok (.ifCond .ne 12, 3) := by decide +kernel
theorem d_ps_isOvertaking_71 : decode b_ps_isOvertaking 71 = .ok (.iload 8, 2) := by decide +kernel
theorem d_ps_isOvertaking_73 : decode b_ps_isOvertaking 73 = .ok (.ifCond .ne 7, 3) := by decide +kernel
theorem d_ps_isOvertaking_76 : decode b_ps_isOvertaking 76 = .ok (.iconst 1, 1) := by decide +kernel
theorem d_ps_isOvertaking_77 : decode b_ps_isOvertaking 77 = .ok (.goto 4, 3) := by decide +kernel
theorem d_ps_isOvertaking_80 : decode b_ps_isOvertaking 80 = .ok (.iconst 0, 1) := by decide +kernel
theorem d_ps_isOvertaking_81 : decode b_ps_isOvertaking 81 = .ok (.ireturn, 1) := by decide +kernel
theorem d_ps_startPlan_0 : decode b_ps_startPlan 0 = .ok (.aload_n 0, 1) := by decide +kernel
theorem d_ps_startPlan_1 : decode b_ps_startPlan 1 = .ok (.getfield 19, 3) := by decide +kernel
theorem d_ps_startPlan_4 : decode b_ps_startPlan 4 = .ok (.iconst 0, 1) := by decide +kernel
theorem d_ps_startPlan_5 : decode b_ps_startPlan 5 = .ok (.iload_n 1, 1) := by decide +kernel
theorem d_ps_startPlan_6 : decode b_ps_startPlan 6 = .ok (.iastore, 1) := by decide +kernel
theorem d_ps_startPlan_7 : decode b_ps_startPlan 7 = .ok (.aload_n 0, 1) := by decide +kernel
theorem d_ps_startPlan_8 : decode b_ps_startPlan 8 = .ok (.getfield 23, 3) := by decide +kernel
theorem d_ps_startPlan_11 : decode b_ps_startPlan 11 = .ok (.iconst 0, 1) := by decide +kernel
theorem d_ps_startPlan_12 : decode b_ps_startPlan 12 = .ok (.iconst 0, 1) := by decide +kernel
theorem d_ps_startPlan_13 : decode b_ps_startPlan 13 = .ok (.iastore, 1) := by decide +kernel
theorem d_ps_startPlan_14 : decode b_ps_startPlan 14 = .ok (.aload_n 0, 1) := by decide +kernel
theorem d_ps_startPlan_15 : decode b_ps_startPlan 15 = .ok (.getfield 26, 3) := by decide +kernel
theorem d_ps_startPlan_18 : decode b_ps_startPlan 18 = .ok (.iconst 0, 1) := by decide +kernel
theorem d_ps_startPlan_19 : decode b_ps_startPlan 19 = .ok (.iconst 0, 1) := by decide +kernel
theorem d_ps_startPlan_20 : decode b_ps_startPlan 20 = .ok (.iastore, 1) := by decide +kernel
theorem d_ps_startPlan_21 : decode b_ps_startPlan 21 = .ok (.iconst 0, 1) := by decide +kernel
theorem d_ps_startPlan_22 : decode b_ps_startPlan 22 = .ok (.istore_n 2, 1) := by decide +kernel
theorem d_ps_startPlan_23 : decode b_ps_startPlan 23 = .ok (.iload_n 2, 1) := by decide +kernel
theorem d_ps_startPlan_24 : decode b_ps_startPlan 24 = .ok (.bipush 12, 2) := by decide +kernel
theorem d_ps_startPlan_26 : decode b_ps_startPlan 26 = .ok (.if_icmp .ge 18, 3) := by decide +kernel
theorem d_ps_startPlan_29 : decode b_ps_startPlan 29 = .ok (.aload_n 0, 1) := by decide +kernel
theorem d_ps_startPlan_30 : decode b_ps_startPlan 30 = .ok (.getfield 38, 3) := by decide +kernel
theorem d_ps_startPlan_33 : decode b_ps_startPlan 33 = .ok (.iconst 0, 1) := by decide +kernel
theorem d_ps_startPlan_34 : decode b_ps_startPlan 34 = .ok (.iload_n 2, 1) := by decide +kernel
theorem d_ps_startPlan_35 : decode b_ps_startPlan 35 = .ok (.iadd, 1) := by decide +kernel
theorem d_ps_startPlan_36 : decode b_ps_startPlan 36 = .ok (.iconst 0, 1) := by decide +kernel
theorem d_ps_startPlan_37 : decode b_ps_startPlan 37 = .ok (.iastore, 1) := by decide +kernel
theorem d_ps_startPlan_38 : decode b_ps_startPlan 38 = .ok (.iinc 2 1, 3) := by decide +kernel
theorem d_ps_startPlan_41 : decode b_ps_startPlan 41 = .ok (.goto (-18), 3) := by decide +kernel
theorem d_ps_startPlan_44 : decode b_ps_startPlan 44 = .ok (.return_, 1) := by decide +kernel
theorem d_ps_addStay_0 : decode b_ps_addStay 0 = .ok (.aload_n 0, 1) := by decide +kernel
theorem d_ps_addStay_1 : decode b_ps_addStay 1 = .ok (.getfield 26, 3) := by decide +kernel
theorem d_ps_addStay_4 : decode b_ps_addStay 4 = .ok (.iconst 0, 1) := by decide +kernel
theorem d_ps_addStay_5 : decode b_ps_addStay 5 = .ok (.iaload, 1) := by decide +kernel
theorem d_ps_addStay_6 : decode b_ps_addStay 6 = .ok (.istore 4, 2) := by decide +kernel
theorem d_ps_addStay_8 : decode b_ps_addStay 8 = .ok (.aload_n 0, 1) := by decide +kernel
theorem d_ps_addStay_9 : decode b_ps_addStay 9 = .ok (.getfield 29, 3) := by decide +kernel
theorem d_ps_addStay_12 : decode b_ps_addStay 12 = .ok (.iconst 0, 1) := by decide +kernel
theorem d_ps_addStay_13 : decode b_ps_addStay 13 = .ok (.iload 4, 2) := by decide +kernel
theorem d_ps_addStay_15 : decode b_ps_addStay 15 = .ok (.iadd, 1) := by decide +kernel
theorem d_ps_addStay_16 : decode b_ps_addStay 16 = .ok (.iload_n 1, 1) := by decide +kernel
theorem d_ps_addStay_17 : decode b_ps_addStay 17 = .ok (.iastore, 1) := by decide +kernel
theorem d_ps_addStay_18 : decode b_ps_addStay 18 = .ok (.aload_n 0, 1) := by decide +kernel
theorem d_ps_addStay_19 : decode b_ps_addStay 19 = .ok (.getfield 32, 3) := by decide +kernel
theorem d_ps_addStay_22 : decode b_ps_addStay 22 = .ok (.iconst 0, 1) := by decide +kernel
theorem d_ps_addStay_23 : decode b_ps_addStay 23 = .ok (.iload 4, 2) := by decide +kernel
theorem d_ps_addStay_25 : decode b_ps_addStay 25 = .ok (.iadd, 1) := by decide +kernel
theorem d_ps_addStay_26 : decode b_ps_addStay 26 = .ok (.iload_n 2, 1) := by decide +kernel
theorem d_ps_addStay_27 : decode b_ps_addStay 27 = .ok (.bastore, 1) := by decide +kernel
theorem d_ps_addStay_28 : decode b_ps_addStay 28 = .ok (.aload_n 0, 1) := by decide +kernel
theorem d_ps_addStay_29 : decode b_ps_addStay 29 = .ok (.getfield 35, 3) := by decide +kernel
theorem d_ps_addStay_32 : decode b_ps_addStay 32 = .ok (.iconst 0, 1) := by decide +kernel
theorem d_ps_addStay_33 : decode b_ps_addStay 33 = .ok (.iload 4, 2) := by decide +kernel
theorem d_ps_addStay_35 : decode b_ps_addStay 35 = .ok (.iadd, 1) := by decide +kernel
theorem d_ps_addStay_36 : decode b_ps_addStay 36 = .ok (.iconst 1, 1) := by decide +kernel
theorem d_ps_addStay_37 : decode b_ps_addStay 37 = .ok (.iadd, 1) := by decide +kernel
theorem d_ps_addStay_38 : decode b_ps_addStay 38 = .ok (.aload_n 0, 1) := by decide +kernel
theorem d_ps_addStay_39 : decode b_ps_addStay 39 = .ok (.getfield 35, 3) := by decide +kernel
theorem d_ps_addStay_42 : decode b_ps_addStay 42 = .ok (.iconst 0, 1) := by decide +kernel
theorem d_ps_addStay_43 : decode b_ps_addStay 43 = .ok (.iload 4, 2) := by decide +kernel
theorem d_ps_addStay_45 : decode b_ps_addStay 45 = .ok (.iadd, 1) := by decide +kernel
theorem d_ps_addStay_46 : decode b_ps_addStay 46 = .ok (.iaload, 1) := by decide +kernel
theorem d_ps_addStay_47 : decode b_ps_addStay 47 = .ok (.iload_n 3, 1) := by decide +kernel
theorem d_ps_addStay_48 : decode b_ps_addStay 48 = .ok (.iadd, 1) := by decide +kernel
theorem d_ps_addStay_49 : decode b_ps_addStay 49 = .ok (.iastore, 1) := by decide +kernel
theorem d_ps_addStay_50 : decode b_ps_addStay 50 = .ok (.aload_n 0, 1) := by decide +kernel
theorem d_ps_addStay_51 : decode b_ps_addStay 51 = .ok (.getfield 38, 3) := by decide +kernel
theorem d_ps_addStay_54 : decode b_ps_addStay 54 = .ok (.iconst 0, 1) := by decide +kernel
theorem d_ps_addStay_55 : decode b_ps_addStay 55 = .ok (.iload_n 1, 1) := by decide +kernel
theorem d_ps_addStay_56 : decode b_ps_addStay 56 = .ok (.iadd, 1) := by decide +kernel
theorem d_ps_addStay_57 : decode b_ps_addStay 57 = .ok (.iload 4, 2) := by decide +kernel
theorem d_ps_addStay_59 : decode b_ps_addStay 59 = .ok (.iconst 1, 1) := by decide +kernel
theorem d_ps_addStay_60 : decode b_ps_addStay 60 = .ok (.iadd, 1) := by decide +kernel
theorem d_ps_addStay_61 : decode b_ps_addStay 61 = .ok (.iastore, 1) := by decide +kernel
theorem d_ps_addStay_62 : decode b_ps_addStay 62 = .ok (.aload_n 0, 1) := by decide +kernel
theorem d_ps_addStay_63 : decode b_ps_addStay 63 = .ok (.getfield 26, 3) := by decide +kernel
theorem d_ps_addStay_66 : decode b_ps_addStay 66 = .ok (.iconst 0, 1) := by decide +kernel
theorem d_ps_addStay_67 : decode b_ps_addStay 67 = .ok (.dup2, 1) := by decide +kernel
theorem d_ps_addStay_68 : decode b_ps_addStay 68 = .ok (.iaload, 1) := by decide +kernel
theorem d_ps_addStay_69 : decode b_ps_addStay 69 = .ok (.iconst 1, 1) := by decide +kernel
theorem d_ps_addStay_70 : decode b_ps_addStay 70 = .ok (.iadd, 1) := by decide +kernel
theorem d_ps_addStay_71 : decode b_ps_addStay 71 = .ok (.iastore, 1) := by decide +kernel
theorem d_ps_addStay_72 : decode b_ps_addStay 72 = .ok (.return_, 1) := by decide +kernel
theorem d_ps_giveSlot_0 : decode b_ps_giveSlot 0 = .ok (.aload_n 0, 1) := by decide +kernel
theorem d_ps_giveSlot_1 : decode b_ps_giveSlot 1 = .ok (.dup, 1) := by decide +kernel
theorem d_ps_giveSlot_2 : decode b_ps_giveSlot 2 = .ok (.getfield 9, 3) := by decide +kernel
theorem d_ps_giveSlot_5 : decode b_ps_giveSlot 5 = .ok (.iconst 1, 1) := by decide +kernel
theorem d_ps_giveSlot_6 : decode b_ps_giveSlot 6 = .ok (.iadd, 1) := by decide +kernel
theorem d_ps_giveSlot_7 : decode b_ps_giveSlot 7 = .ok (.putfield 9, 3) := by decide +kernel
theorem d_ps_giveSlot_10 : decode b_ps_giveSlot 10 = .ok (.aload_n 0, 1) := by decide +kernel
theorem d_ps_giveSlot_11 : decode b_ps_giveSlot 11 = .ok (.getfield 9, 3) := by decide +kernel
theorem d_ps_giveSlot_14 : decode b_ps_giveSlot 14 = .ok (.istore_n 1, 1) := by decide +kernel
theorem d_ps_giveSlot_15 : decode b_ps_giveSlot 15 = .ok (.aload_n 0, 1) := by decide +kernel
theorem d_ps_giveSlot_16 : decode b_ps_giveSlot 16 = .ok (.getfield 15, 3) := by decide +kernel
theorem d_ps_giveSlot_19 : decode b_ps_giveSlot 19 = .ok (.iload_n 1, 1) := by decide +kernel
theorem d_ps_giveSlot_20 : decode b_ps_giveSlot 20 = .ok (.iconst 1, 1) := by decide +kernel
theorem d_ps_giveSlot_21 : decode b_ps_giveSlot 21 = .ok (.bastore, 1) := by decide +kernel
theorem d_ps_giveSlot_22 : decode b_ps_giveSlot 22 = .ok (.aload_n 0, 1) := by decide +kernel
theorem d_ps_giveSlot_23 : decode b_ps_giveSlot 23 = .ok (.getfield 19, 3) := by decide +kernel
theorem d_ps_giveSlot_26 : decode b_ps_giveSlot 26 = .ok (.iload_n 1, 1) := by decide +kernel
theorem d_ps_giveSlot_27 : decode b_ps_giveSlot 27 = .ok (.aload_n 0, 1) := by decide +kernel
theorem d_ps_giveSlot_28 : decode b_ps_giveSlot 28 = .ok (.getfield 19, 3) := by decide +kernel
theorem d_ps_giveSlot_31 : decode b_ps_giveSlot 31 = .ok (.iconst 0, 1) := by decide +kernel
theorem d_ps_giveSlot_32 : decode b_ps_giveSlot 32 = .ok (.iaload, 1) := by decide +kernel
theorem d_ps_giveSlot_33 : decode b_ps_giveSlot 33 = .ok (.iastore, 1) := by decide +kernel
theorem d_ps_giveSlot_34 : decode b_ps_giveSlot 34 = .ok (.aload_n 0, 1) := by decide +kernel
theorem d_ps_giveSlot_35 : decode b_ps_giveSlot 35 = .ok (.getfield 23, 3) := by decide +kernel
theorem d_ps_giveSlot_38 : decode b_ps_giveSlot 38 = .ok (.iload_n 1, 1) := by decide +kernel
theorem d_ps_giveSlot_39 : decode b_ps_giveSlot 39 = .ok (.aload_n 0, 1) := by decide +kernel
theorem d_ps_giveSlot_40 : decode b_ps_giveSlot 40 = .ok (.getfield 23, 3) := by decide +kernel
theorem d_ps_giveSlot_43 : decode b_ps_giveSlot 43 = .ok (.iconst 0, 1) := by decide +kernel
theorem d_ps_giveSlot_44 : decode b_ps_giveSlot 44 = .ok (.iaload, 1) := by decide +kernel
theorem d_ps_giveSlot_45 : decode b_ps_giveSlot 45 = .ok (.iastore, 1) := by decide +kernel
theorem d_ps_giveSlot_46 : decode b_ps_giveSlot 46 = .ok (.aload_n 0, 1) := by decide +kernel
theorem d_ps_giveSlot_47 : decode b_ps_giveSlot 47 = .ok (.getfield 26, 3) := by decide +kernel
theorem d_ps_giveSlot_50 : decode b_ps_giveSlot 50 = .ok (.iload_n 1, 1) := by decide +kernel
theorem d_ps_giveSlot_51 : decode b_ps_giveSlot 51 = .ok (.aload_n 0, 1) := by decide +kernel
theorem d_ps_giveSlot_52 : decode b_ps_giveSlot 52 = .ok (.getfield 26, 3) := by decide +kernel
theorem d_ps_giveSlot_55 : decode b_ps_giveSlot 55 = .ok (.iconst 0, 1) := by decide +kernel
theorem d_ps_giveSlot_56 : decode b_ps_giveSlot 56 = .ok (.iaload, 1) := by decide +kernel
theorem d_ps_giveSlot_57 : decode b_ps_giveSlot 57 = .ok (.iastore, 1) := by decide +kernel
theorem d_ps_giveSlot_58 : decode b_ps_giveSlot 58 = .ok (.iconst 0, 1) := by decide +kernel
theorem d_ps_giveSlot_59 : decode b_ps_giveSlot 59 = .ok (.istore_n 2, 1) := by decide +kernel
theorem d_ps_giveSlot_60 : decode b_ps_giveSlot 60 = .ok (.iload_n 2, 1) := by decide +kernel
theorem d_ps_giveSlot_61 : decode b_ps_giveSlot 61 = .ok (.aload_n 0, 1) := by decide +kernel
theorem d_ps_giveSlot_62 : decode b_ps_giveSlot 62 = .ok (.getfield 26, 3) := by decide +kernel
theorem d_ps_giveSlot_65 : decode b_ps_giveSlot 65 = .ok (.iconst 0, 1) := by decide +kernel
theorem d_ps_giveSlot_66 : decode b_ps_giveSlot 66 = .ok (.iaload, 1) := by decide +kernel
theorem d_ps_giveSlot_67 : decode b_ps_giveSlot 67 = .ok (.if_icmp .ge 66, 3) := by decide +kernel
theorem d_ps_giveSlot_70 : decode b_ps_giveSlot 70 = .ok (.aload_n 0, 1) := by decide +kernel
theorem d_ps_giveSlot_71 : decode b_ps_giveSlot 71 = .ok (.getfield 29, 3) := by decide +kernel
theorem d_ps_giveSlot_74 : decode b_ps_giveSlot 74 = .ok (.iload_n 1, 1) := by decide +kernel
theorem d_ps_giveSlot_75 : decode b_ps_giveSlot 75 = .ok (.bipush 7, 2) := by decide +kernel
theorem d_ps_giveSlot_77 : decode b_ps_giveSlot 77 = .ok (.imul, 1) := by decide +kernel
theorem d_ps_giveSlot_78 : decode b_ps_giveSlot 78 = .ok (.iload_n 2, 1) := by decide +kernel
theorem d_ps_giveSlot_79 : decode b_ps_giveSlot 79 = .ok (.iadd, 1) := by decide +kernel
theorem d_ps_giveSlot_80 : decode b_ps_giveSlot 80 = .ok (.aload_n 0, 1) := by decide +kernel
theorem d_ps_giveSlot_81 : decode b_ps_giveSlot 81 = .ok (.iconst 0, 1) := by decide +kernel
theorem d_ps_giveSlot_82 : decode b_ps_giveSlot 82 = .ok (.iload_n 2, 1) := by decide +kernel
theorem d_ps_giveSlot_83 : decode b_ps_giveSlot 83 = .ok (.invokevirtual 52, 3) := by decide +kernel
theorem d_ps_giveSlot_86 : decode b_ps_giveSlot 86 = .ok (.iastore, 1) := by decide +kernel
theorem d_ps_giveSlot_87 : decode b_ps_giveSlot 87 = .ok (.aload_n 0, 1) := by decide +kernel
theorem d_ps_giveSlot_88 : decode b_ps_giveSlot 88 = .ok (.getfield 32, 3) := by decide +kernel
theorem d_ps_giveSlot_91 : decode b_ps_giveSlot 91 = .ok (.iload_n 1, 1) := by decide +kernel
theorem d_ps_giveSlot_92 : decode b_ps_giveSlot 92 = .ok (.bipush 7, 2) := by decide +kernel
theorem d_ps_giveSlot_94 : decode b_ps_giveSlot 94 = .ok (.imul, 1) := by decide +kernel
theorem d_ps_giveSlot_95 : decode b_ps_giveSlot 95 = .ok (.iload_n 2, 1) := by decide +kernel
theorem d_ps_giveSlot_96 : decode b_ps_giveSlot 96 = .ok (.iadd, 1) := by decide +kernel
theorem d_ps_giveSlot_97 : decode b_ps_giveSlot 97 = .ok (.aload_n 0, 1) := by decide +kernel
theorem d_ps_giveSlot_98 : decode b_ps_giveSlot 98 = .ok (.iconst 0, 1) := by decide +kernel
theorem d_ps_giveSlot_99 : decode b_ps_giveSlot 99 = .ok (.iload_n 2, 1) := by decide +kernel
theorem d_ps_giveSlot_100 : decode b_ps_giveSlot 100 = .ok (.invokevirtual 55, 3) := by decide +kernel
theorem d_ps_giveSlot_103 : decode b_ps_giveSlot 103 = .ok (.bastore, 1) := by decide +kernel
theorem d_ps_giveSlot_104 : decode b_ps_giveSlot 104 = .ok (.aload_n 0, 1) := by decide +kernel
theorem d_ps_giveSlot_105 : decode b_ps_giveSlot 105 = .ok (.getfield 35, 3) := by decide +kernel
theorem d_ps_giveSlot_108 : decode b_ps_giveSlot 108 = .ok (.iload_n 1, 1) := by decide +kernel
theorem d_ps_giveSlot_109 : decode b_ps_giveSlot 109 = .ok (.bipush 8, 2) := by decide +kernel
theorem d_ps_giveSlot_111 : decode b_ps_giveSlot 111 = .ok (.imul, 1) := by decide +kernel
theorem d_ps_giveSlot_112 : decode b_ps_giveSlot 112 = .ok (.iload_n 2, 1) := by decide +kernel
theorem d_ps_giveSlot_113 : decode b_ps_giveSlot 113 = .ok (.iadd, 1) := by decide +kernel
theorem d_ps_giveSlot_114 : decode b_ps_giveSlot 114 = .ok (.iconst 1, 1) := by decide +kernel
theorem d_ps_giveSlot_115 : decode b_ps_giveSlot 115 = .ok (.iadd, 1) := by decide +kernel
theorem d_ps_giveSlot_116 : decode b_ps_giveSlot 116 = .ok (.aload_n 0, 1) := by decide +kernel
theorem d_ps_giveSlot_117 : decode b_ps_giveSlot 117 = .ok (.getfield 35, 3) := by decide +kernel
theorem d_ps_giveSlot_120 : decode b_ps_giveSlot 120 = .ok (.iconst 0, 1) := by decide +kernel
theorem d_ps_giveSlot_121 : decode b_ps_giveSlot 121 = .ok (.iload_n 2, 1) := by decide +kernel
theorem d_ps_giveSlot_122 : decode b_ps_giveSlot 122 = .ok (.iadd, 1) := by decide +kernel
theorem d_ps_giveSlot_123 : decode b_ps_giveSlot 123 = .ok (.iconst 1, 1) := by decide +kernel
theorem d_ps_giveSlot_124 : decode b_ps_giveSlot 124 = .ok (.iadd, 1) := by decide +kernel
theorem d_ps_giveSlot_125 : decode b_ps_giveSlot 125 = .ok (.iaload, 1) := by decide +kernel
theorem d_ps_giveSlot_126 : decode b_ps_giveSlot 126 = .ok (.iastore, 1) := by decide +kernel
theorem d_ps_giveSlot_127 : decode b_ps_giveSlot 127 = .ok (.iinc 2 1, 3) := by decide +kernel
theorem d_ps_giveSlot_130 : decode b_ps_giveSlot 130 = .ok (.goto (-70), 3) := by decide +kernel
theorem d_ps_giveSlot_133 : decode b_ps_giveSlot 133 = .ok (.iconst 0, 1) := by decide +kernel
theorem d_ps_giveSlot_134 : decode b_ps_giveSlot 134 = .ok (.istore_n 2, 1) := by decide +kernel
theorem d_ps_giveSlot_135 : decode b_ps_giveSlot 135 = .ok (.iload_n 2, 1) := by decide +kernel
theorem d_ps_giveSlot_136 : decode b_ps_giveSlot 136 = .ok (.bipush 12, 2) := by decide +kernel
theorem d_ps_giveSlot_138 : decode b_ps_giveSlot 138 = .ok (.if_icmp .ge 28, 3) := by decide +kernel
theorem d_ps_giveSlot_141 : decode b_ps_giveSlot 141 = .ok (.aload_n 0, 1) := by decide +kernel
theorem d_ps_giveSlot_142 : decode b_ps_giveSlot 142 = .ok (.getfield 38, 3) := by decide +kernel
theorem d_ps_giveSlot_145 : decode b_ps_giveSlot 145 = .ok (.iload_n 1, 1) := by decide +kernel
theorem d_ps_giveSlot_146 : decode b_ps_giveSlot 146 = .ok (.bipush 12, 2) := by decide +kernel
theorem d_ps_giveSlot_148 : decode b_ps_giveSlot 148 = .ok (.imul, 1) := by decide +kernel
theorem d_ps_giveSlot_149 : decode b_ps_giveSlot 149 = .ok (.iload_n 2, 1) := by decide +kernel
theorem d_ps_giveSlot_150 : decode b_ps_giveSlot 150 = .ok (.iadd, 1) := by decide +kernel
theorem d_ps_giveSlot_151 : decode b_ps_giveSlot 151 = .ok (.aload_n 0, 1) := by decide +kernel
theorem d_ps_giveSlot_152 : decode b_ps_giveSlot 152 = .ok (.getfield 38, 3) := by decide +kernel
theorem d_ps_giveSlot_155 : decode b_ps_giveSlot 155 = .ok (.iconst 0, 1) := by decide +kernel
theorem d_ps_giveSlot_156 : decode b_ps_giveSlot 156 = .ok (.iload_n 2, 1) := by decide +kernel
theorem d_ps_giveSlot_157 : decode b_ps_giveSlot 157 = .ok (.iadd, 1) := by decide +kernel
theorem d_ps_giveSlot_158 : decode b_ps_giveSlot 158 = .ok (.iaload, 1) := by decide +kernel
theorem d_ps_giveSlot_159 : decode b_ps_giveSlot 159 = .ok (.iastore, 1) := by decide +kernel
theorem d_ps_giveSlot_160 : decode b_ps_giveSlot 160 = .ok (.iinc 2 1, 3) := by decide +kernel
theorem d_ps_giveSlot_163 : decode b_ps_giveSlot 163 = .ok (.goto (-28), 3) := by decide +kernel
theorem d_ps_giveSlot_166 : decode b_ps_giveSlot 166 = .ok (.iload_n 1, 1) := by decide +kernel
theorem d_ps_giveSlot_167 : decode b_ps_giveSlot 167 = .ok (.ireturn, 1) := by decide +kernel
theorem d_pc_init_0 : decode b_pc_init 0 = .ok (.aload_n 0, 1) := by decide +kernel
theorem d_pc_init_1 : decode b_pc_init 1 = .ok (.invokespecial 3, 3) := by decide +kernel
theorem d_pc_init_4 : decode b_pc_init 4 = .ok (.aload_n 0, 1) := by decide +kernel
theorem d_pc_init_5 : decode b_pc_init 5 = .ok (.iconst 0, 1) := by decide +kernel
theorem d_pc_init_6 : decode b_pc_init 6 = .ok (.putfield 9, 3) := by decide +kernel
theorem d_pc_init_9 : decode b_pc_init 9 = .ok (.aload_n 0, 1) := by decide +kernel
theorem d_pc_init_10 : decode b_pc_init 10 = .ok (.bipush 12, 2) := by decide +kernel
theorem d_pc_init_12 : decode b_pc_init 12 = .ok (.newarray .int, 2) := by decide +kernel
theorem d_pc_init_14 : decode b_pc_init 14 = .ok (.putfield 15, 3) := by decide +kernel
theorem d_pc_init_17 : decode b_pc_init 17 = .ok (.aload_n 0, 1) := by decide +kernel
theorem d_pc_init_18 : decode b_pc_init 18 = .ok (.bipush 12, 2) := by decide +kernel
theorem d_pc_init_20 : decode b_pc_init 20 = .ok (.newarray .int, 2) := by decide +kernel
theorem d_pc_init_22 : decode b_pc_init 22 = .ok (.putfield 19, 3) := by decide +kernel
theorem d_pc_init_25 : decode b_pc_init 25 = .ok (.aload_n 0, 1) := by decide +kernel
theorem d_pc_init_26 : decode b_pc_init 26 = .ok (.bipush 12, 2) := by decide +kernel
theorem d_pc_init_28 : decode b_pc_init 28 = .ok (.newarray .int, 2) := by decide +kernel
theorem d_pc_init_30 : decode b_pc_init 30 = .ok (.putfield 22, 3) := by decide +kernel
theorem d_pc_init_33 : decode b_pc_init 33 = .ok (.aload_n 0, 1) := by decide +kernel
theorem d_pc_init_34 : decode b_pc_init 34 = .ok (.bipush 12, 2) := by decide +kernel
theorem d_pc_init_36 : decode b_pc_init 36 = .ok (.newarray .int, 2) := by decide +kernel
theorem d_pc_init_38 : decode b_pc_init 38 = .ok (.putfield 25, 3) := by decide +kernel
theorem d_pc_init_41 : decode b_pc_init 41 = .ok (.aload_n 0, 1) := by decide +kernel
theorem d_pc_init_42 : decode b_pc_init 42 = .ok (.bipush 60, 2) := by decide +kernel
theorem d_pc_init_44 : decode b_pc_init 44 = .ok (.newarray .int, 2) := by decide +kernel
theorem d_pc_init_46 : decode b_pc_init 46 = .ok (.putfield 28, 3) := by decide +kernel
theorem d_pc_init_49 : decode b_pc_init 49 = .ok (.aload_n 0, 1) := by decide +kernel
theorem d_pc_init_50 : decode b_pc_init 50 = .ok (.bipush 12, 2) := by decide +kernel
theorem d_pc_init_52 : decode b_pc_init 52 = .ok (.newarray .int, 2) := by decide +kernel
theorem d_pc_init_54 : decode b_pc_init 54 = .ok (.putfield 31, 3) := by decide +kernel
theorem d_pc_init_57 : decode b_pc_init 57 = .ok (.aload_n 0, 1) := by decide +kernel
theorem d_pc_init_58 : decode b_pc_init 58 = .ok (.bipush 48, 2) := by decide +kernel
theorem d_pc_init_60 : decode b_pc_init 60 = .ok (.newarray .int, 2) := by decide +kernel
theorem d_pc_init_62 : decode b_pc_init 62 = .ok (.putfield 34, 3) := by decide +kernel
theorem d_pc_init_65 : decode b_pc_init 65 = .ok (.aload_n 0, 1) := by decide +kernel
theorem d_pc_init_66 : decode b_pc_init 66 = .ok (.bipush 48, 2) := by decide +kernel
theorem d_pc_init_68 : decode b_pc_init 68 = .ok (.newarray .int, 2) := by decide +kernel
theorem d_pc_init_70 : decode b_pc_init 70 = .ok (.putfield 37, 3) := by decide +kernel
theorem d_pc_init_73 : decode b_pc_init 73 = .ok (.return_, 1) := by decide +kernel
theorem d_pc_has_0 : decode b_pc_has 0 = .ok (.iload_n 1, 1) := by decide +kernel
theorem d_pc_has_1 : decode b_pc_has 1 = .ok (.iconst 0, 1) := by decide +kernel
theorem d_pc_has_2 : decode b_pc_has 2 = .ok (.aload_n 0, 1) := by decide +kernel
theorem d_pc_has_3 : decode b_pc_has 3 = .ok (.getfield 9, 3) := by decide +kernel
theorem d_pc_has_6 : decode b_pc_has 6 = .ok (.iconst 1, 1) := by decide +kernel
theorem d_pc_has_7 : decode b_pc_has 7 = .ok (.isub, 1) := by decide +kernel
theorem d_pc_has_8 : decode b_pc_has 8 = .ok (.invokestatic 40, 3) := by decide +kernel
theorem d_pc_has_11 : decode b_pc_has 11 = .ok (.ireturn, 1) := by decide +kernel
theorem d_pc_setRule_0 : decode b_pc_setRule 0 = .ok (.aload_n 0, 1) := by decide +kernel
theorem d_pc_setRule_1 : decode b_pc_setRule 1 = .ok (.getfield 28, 3) := by decide +kernel
theorem d_pc_setRule_4 : decode b_pc_setRule 4 = .ok (.iload_n 1, 1) := by decide +kernel
theorem d_pc_setRule_5 : decode b_pc_setRule 5 = .ok (.iconst 5, 1) := by decide +kernel
theorem d_pc_setRule_6 : decode b_pc_setRule 6 = .ok (.imul, 1) := by decide +kernel
theorem d_pc_setRule_7 : decode b_pc_setRule 7 = .ok (.iload_n 2, 1) := by decide +kernel
theorem d_pc_setRule_8 : decode b_pc_setRule 8 = .ok (.iadd, 1) := by decide +kernel
theorem d_pc_setRule_9 : decode b_pc_setRule 9 = .ok (.iload_n 3, 1) := by decide +kernel
theorem d_pc_setRule_10 : decode b_pc_setRule 10 = .ok (.iastore, 1) := by decide +kernel
theorem d_pc_setRule_11 : decode b_pc_setRule 11 = .ok (.return_, 1) := by decide +kernel
theorem d_pc_ruleOf_0 : decode b_pc_ruleOf 0 = .ok (.aload_n 0, 1) := by decide +kernel
theorem d_pc_ruleOf_1 : decode b_pc_ruleOf 1 = .ok (.getfield 28, 3) := by decide +kernel
theorem d_pc_ruleOf_4 : decode b_pc_ruleOf 4 = .ok (.iload_n 1, 1) := by decide +kernel
theorem d_pc_ruleOf_5 : decode b_pc_ruleOf 5 = .ok (.iconst 5, 1) := by decide +kernel
theorem d_pc_ruleOf_6 : decode b_pc_ruleOf 6 = .ok (.imul, 1) := by decide +kernel
theorem d_pc_ruleOf_7 : decode b_pc_ruleOf 7 = .ok (.iload_n 2, 1) := by decide +kernel
theorem d_pc_ruleOf_8 : decode b_pc_ruleOf 8 = .ok (.iadd, 1) := by decide +kernel
theorem d_pc_ruleOf_9 : decode b_pc_ruleOf 9 = .ok (.iaload, 1) := by decide +kernel
theorem d_pc_ruleOf_10 : decode b_pc_ruleOf 10 = .ok (.ireturn, 1) := by decide +kernel
theorem d_pc_add_0 : decode b_pc_add 0 = .ok (.aload_n 0, 1) := by decide +kernel
theorem d_pc_add_1 : decode b_pc_add 1 = .ok (.getfield 9, 3) := by decide +kernel
theorem d_pc_add_4 : decode b_pc_add 4 = .ok (.istore 5, 2) := by decide +kernel
theorem d_pc_add_6 : decode b_pc_add 6 = .ok (.aload_n 0, 1) := by decide +kernel
theorem d_pc_add_7 : decode b_pc_add 7 = .ok (.getfield 15, 3) := by decide +kernel
theorem d_pc_add_10 : decode b_pc_add 10 = .ok (.iload 5, 2) := by decide +kernel
theorem d_pc_add_12 : decode b_pc_add 12 = .ok (.iload_n 1, 1) := by decide +kernel
theorem d_pc_add_13 : decode b_pc_add 13 = .ok (.iastore, 1) := by decide +kernel
theorem d_pc_add_14 : decode b_pc_add 14 = .ok (.aload_n 0, 1) := by decide +kernel
theorem d_pc_add_15 : decode b_pc_add 15 = .ok (.getfield 19, 3) := by decide +kernel
theorem d_pc_add_18 : decode b_pc_add 18 = .ok (.iload 5, 2) := by decide +kernel
theorem d_pc_add_20 : decode b_pc_add 20 = .ok (.iload_n 2, 1) := by decide +kernel
theorem d_pc_add_21 : decode b_pc_add 21 = .ok (.iastore, 1) := by decide +kernel
theorem d_pc_add_22 : decode b_pc_add 22 = .ok (.aload_n 0, 1) := by decide +kernel
theorem d_pc_add_23 : decode b_pc_add 23 = .ok (.getfield 22, 3) := by decide +kernel
theorem d_pc_add_26 : decode b_pc_add 26 = .ok (.iload 5, 2) := by decide +kernel
theorem d_pc_add_28 : decode b_pc_add 28 = .ok (.iload_n 3, 1) := by decide +kernel
theorem d_pc_add_29 : decode b_pc_add 29 = .ok (.iastore, 1) := by decide +kernel
theorem d_pc_add_30 : decode b_pc_add 30 = .ok (.aload_n 0, 1) := by decide +kernel
theorem d_pc_add_31 : decode b_pc_add 31 = .ok (.getfield 25, 3) := by decide +kernel
theorem d_pc_add_34 : decode b_pc_add 34 = .ok (.iload 5, 2) := by decide +kernel
theorem d_pc_add_36 : decode b_pc_add 36 = .ok (.iload 4, 2) := by decide +kernel
theorem d_pc_add_38 : decode b_pc_add 38 = .ok (.iastore, 1) := by decide +kernel
theorem d_pc_add_39 : decode b_pc_add 39 = .ok (.aload_n 0, 1) := by decide +kernel
theorem d_pc_add_40 : decode b_pc_add 40 = .ok (.iload 5, 2) := by decide +kernel
theorem d_pc_add_42 : decode b_pc_add 42 = .ok (.iconst 2, 1) := by decide +kernel
theorem d_pc_add_43 : decode b_pc_add 43 = .ok (.bipush 100, 2) := by decide +kernel
theorem d_pc_add_45 : decode b_pc_add 45 = .ok (.invokevirtual 44, 3) := by decide +kernel
theorem d_pc_add_48 : decode b_pc_add 48 = .ok (.aload_n 0, 1) := by decide +kernel
theorem d_pc_add_49 : decode b_pc_add 49 = .ok (.dup, 1) := by decide +kernel
theorem d_pc_add_50 : decode b_pc_add 50 = .ok (.getfield 9, 3) := by decide +kernel
theorem d_pc_add_53 : decode b_pc_add 53 = .ok (.iconst 1, 1) := by decide +kernel
theorem d_pc_add_54 : decode b_pc_add 54 = .ok (.iadd, 1) := by decide +kernel
theorem d_pc_add_55 : decode b_pc_add 55 = .ok (.putfield 9, 3) := by decide +kernel
theorem d_pc_add_58 : decode b_pc_add 58 = .ok (.iload 5, 2) := by decide +kernel
theorem d_pc_add_60 : decode b_pc_add 60 = .ok (.ireturn, 1) := by decide +kernel
theorem d_pc_otherEnd_0 : decode b_pc_otherEnd 0 = .ok (.aload_n 0, 1) := by decide +kernel
theorem d_pc_otherEnd_1 : decode b_pc_otherEnd 1 = .ok (.getfield 15, 3) := by decide +kernel
theorem d_pc_otherEnd_4 : decode b_pc_otherEnd 4 = .ok (.iload_n 1, 1) := by decide +kernel
theorem d_pc_otherEnd_5 : decode b_pc_otherEnd 5 = .ok (.iaload, 1) := by decide +kernel
theorem d_pc_otherEnd_6 : decode b_pc_otherEnd 6 = .ok (.iload_n 2, 1) := by decide +kernel
theorem d_pc_otherEnd_7 : decode b_pc_otherEnd 7 = .ok (.if_icmp .ne 10, 3) := by decide +kernel
theorem d_pc_otherEnd_10 : decode b_pc_otherEnd 10 = .ok (.aload_n 0, 1) := by decide +kernel
theorem d_pc_otherEnd_11 : decode b_pc_otherEnd 11 = .ok (.getfield 19, 3) := by decide +kernel
theorem d_pc_otherEnd_14 : decode b_pc_otherEnd 14 = .ok (.iload_n 1, 1) := by decide +kernel
theorem d_pc_otherEnd_15 : decode b_pc_otherEnd 15 = .ok (.iaload, 1) := by decide +kernel
theorem d_pc_otherEnd_16 : decode b_pc_otherEnd 16 = .ok (.ireturn, 1) := by decide +kernel
theorem d_pc_otherEnd_17 : decode b_pc_otherEnd 17 = .ok (.aload_n 0, 1) := by decide +kernel
theorem d_pc_otherEnd_18 : decode b_pc_otherEnd 18 = .ok (.getfield 19, 3) := by decide +kernel
theorem d_pc_otherEnd_21 : decode b_pc_otherEnd 21 = .ok (.iload_n 1, 1) := by decide +kernel
theorem d_pc_otherEnd_22 : decode b_pc_otherEnd 22 = .ok (.iaload, 1) := by decide +kernel
theorem d_pc_otherEnd_23 : decode b_pc_otherEnd 23 = .ok (.iload_n 2, 1) := by decide +kernel
theorem d_pc_otherEnd_24 : decode b_pc_otherEnd 24 = .ok (.if_icmp .ne 12, 3) := by decide +kernel
theorem d_pc_otherEnd_27 : decode b_pc_otherEnd 27 = .ok (.aload_n 0, 1) := by decide +kernel
theorem d_pc_otherEnd_28 : decode b_pc_otherEnd 28 = .ok (.getfield 15, 3) := by decide +kernel
theorem d_pc_otherEnd_31 : decode b_pc_otherEnd 31 = .ok (.iload_n 1, 1) := by decide +kernel
theorem d_pc_otherEnd_32 : decode b_pc_otherEnd 32 = .ok (.iaload, 1) := by decide +kernel
theorem d_pc_otherEnd_33 : decode b_pc_otherEnd 33 = .ok (.goto 4, 3) := by decide +kernel
theorem d_pc_otherEnd_36 : decode b_pc_otherEnd 36 = .ok (.iconst (-1), 1) := by decide +kernel
theorem d_pc_otherEnd_37 : decode b_pc_otherEnd 37 = .ok (.ireturn, 1) := by decide +kernel
theorem d_pc_closedFor_0 : decode b_pc_closedFor 0 = .ok (.iconst 0, 1) := by decide +kernel
theorem d_pc_closedFor_1 : decode b_pc_closedFor 1 = .ok (.istore 4, 2) := by decide +kernel
theorem d_pc_closedFor_3 : decode b_pc_closedFor 3 = .ok (.iconst 0, 1) := by decide +kernel
theorem d_pc_closedFor_4 : decode b_pc_closedFor 4 = .ok (.istore 5, 2) := by decide +kernel
theorem d_pc_closedFor_6 : decode b_pc_closedFor 6 = .ok (.iload 5, 2) := by decide +kernel
theorem d_pc_closedFor_8 : decode b_pc_closedFor 8 = .ok (.aload_n 0, 1) := by decide +kernel
theorem d_pc_closedFor_9 : decode b_pc_closedFor 9 = .ok (.getfield 31, 3) := by decide +kernel
theorem d_pc_closedFor_12 : decode b_pc_closedFor 12 = .ok (.iload_n 1, 1) := by decide +kernel
theorem d_pc_closedFor_13 : decode b_pc_closedFor 13 = .ok (.iaload, 1) := by decide +kernel
theorem d_pc_closedFor_14 : decode b_pc_closedFor 14 = .ok (.if_icmp .ge 55, 3) := by decide +kernel
theorem d_pc_closedFor_17 : decode b_pc_closedFor 17 = .ok (.iload_n 1, 1) := by decide +kernel
theorem d_pc_closedFor_18 : decode b_pc_closedFor 18 = .ok (.iconst 4, 1) := by decide +kernel
theorem d_pc_closedFor_19 : decode b_pc_closedFor 19 = .ok (.imul, 1) := by decide +kernel
theorem d_pc_closedFor_20 : decode b_pc_closedFor 20 = .ok (.iload 5, 2) := by decide +kernel
theorem d_pc_closedFor_22 : decode b_pc_closedFor 22 = .ok (.iadd, 1) := by decide +kernel
theorem d_pc_closedFor_23 : decode b_pc_closedFor 23 = .ok (.istore 6, 2) := by decide +kernel
theorem d_pc_closedFor_25 : decode b_pc_closedFor 25 = .ok (.iload_n 2, 1) := by decide +kernel
theorem d_pc_closedFor_26 : decode b_pc_closedFor 26 = .ok (.iload_n 3, 1) := by decide +kernel
theorem d_pc_closedFor_27 : decode b_pc_closedFor 27 = .ok (.aload_n 0, 1) := by decide +kernel
theorem d_pc_closedFor_28 : decode b_pc_closedFor 28 = .ok (.getfield 34, 3) := by decide +kernel
theorem d_pc_closedFor_31 : decode b_pc_closedFor 31 = .ok (.iload 6, 2) := by decide +kernel
theorem d_pc_closedFor_33 : decode b_pc_closedFor 33 = .ok (.iaload, 1) := by decide +kernel
theorem d_pc_closedFor_34 : decode b_pc_closedFor 34 = .ok (.aload_n 0, 1) := by decide +kernel
theorem d_pc_closedFor_35 : decode b_pc_closedFor 35 = .ok (.getfield 37, 3) := by decide +kernel
theorem d_pc_closedFor_38 : decode b_pc_closedFor 38 = .ok (.iload 6, 2) := by decide +kernel
theorem d_pc_closedFor_40 : decode b_pc_closedFor 40 = .ok (.iaload, 1) := by decide +kernel
theorem d_pc_closedFor_41 : decode b_pc_closedFor 41 = .ok (.invokestatic 48, 3) := by decide +kernel
theorem d_pc_closedFor_44 : decode b_pc_closedFor 44 = .ok (.ifCond .eq 19, 3) := by decide +kernel
theorem d_pc_closedFor_47 : decode b_pc_closedFor 47 = .ok (.iload 4, 2) := by decide +kernel
theorem d_pc_closedFor_49 : decode b_pc_closedFor 49 = .ok (.aload_n 0, 1) := by decide +kernel
theorem d_pc_closedFor_50 : decode b_pc_closedFor 50 = .ok (.getfield 37, 3) := by decide +kernel
theorem d_pc_closedFor_53 : decode b_pc_closedFor 53 = .ok (.iload 6, 2) := by decide +kernel
theorem d_pc_closedFor_55 : decode b_pc_closedFor 55 = .ok (.iaload, 1) := by decide +kernel
theorem d_pc_closedFor_56 : decode b_pc_closedFor 56 = .ok (.iload_n 2, 1) := by decide +kernel
theorem d_pc_closedFor_57 : decode b_pc_closedFor 57 = .ok (.isub, 1) := by decide +kernel
theorem d_pc_closedFor_58 : decode b_pc_closedFor 58 = .ok (.invokestatic 52, 3) := by decide +kernel
theorem d_pc_closedFor_61 : decode b_pc_closedFor 61 = .ok (.istore 4, 2) := by decide +kernel
theorem d_pc_closedFor_63 : decode b_pc_closedFor 63 = .ok (.iinc 5 1, 3) := by decide +kernel
theorem d_pc_closedFor_66 : decode b_pc_closedFor 66 = .ok (.goto (-60), 3) := by decide +kernel
theorem d_pc_closedFor_69 : decode b_pc_closedFor 69 = .ok (.iload 4, 2) := by decide +kernel
theorem d_pc_closedFor_71 : decode b_pc_closedFor 71 = .ok (.ireturn, 1) := by decide +kernel
theorem d_pc_addSpan_0 : decode b_pc_addSpan 0 = .ok (.iload_n 1, 1) := by decide +kernel
theorem d_pc_addSpan_1 : decode b_pc_addSpan 1 = .ok (.iconst 4, 1) := by decide +kernel
theorem d_pc_addSpan_2 : decode b_pc_addSpan 2 = .ok (.imul, 1) := by decide +kernel
theorem d_pc_addSpan_3 : decode b_pc_addSpan 3 = .ok (.aload_n 0, 1) := by decide +kernel
theorem d_pc_addSpan_4 : decode b_pc_addSpan 4 = .ok (.getfield 31, 3) := by decide +kernel
theorem d_pc_addSpan_7 : decode b_pc_addSpan 7 = .ok (.iload_n 1, 1) := by decide +kernel
theorem d_pc_addSpan_8 : decode b_pc_addSpan 8 = .ok (.iaload, 1) := by decide +kernel
theorem d_pc_addSpan_9 : decode b_pc_addSpan 9 = .ok (.iadd, 1) := by decide +kernel
theorem d_pc_addSpan_10 : decode b_pc_addSpan 10 = .ok (.istore 4, 2) := by decide +kernel
theorem d_pc_addSpan_12 : decode b_pc_addSpan 12 = .ok (.aload_n 0, 1) := by decide +kernel
theorem d_pc_addSpan_13 : decode b_pc_addSpan 13 = .ok (.getfield 34, 3) := by decide +kernel
theorem d_pc_addSpan_16 : decode b_pc_addSpan 16 = .ok (.iload 4, 2) := by decide +kernel
theorem d_pc_addSpan_18 : decode b_pc_addSpan 18 = .ok (.iload_n 2, 1) := by decide +kernel
theorem d_pc_addSpan_19 : decode b_pc_addSpan 19 = .ok (.iastore, 1) := by decide +kernel
theorem d_pc_addSpan_20 : decode b_pc_addSpan 20 = .ok (.aload_n 0, 1) := by decide +kernel
theorem d_pc_addSpan_21 : decode b_pc_addSpan 21 = .ok (.getfield 37, 3) := by decide +kernel
theorem d_pc_addSpan_24 : decode b_pc_addSpan 24 = .ok (.iload 4, 2) := by decide +kernel
theorem d_pc_addSpan_26 : decode b_pc_addSpan 26 = .ok (.iload_n 3, 1) := by decide +kernel
theorem d_pc_addSpan_27 : decode b_pc_addSpan 27 = .ok (.iastore, 1) := by decide +kernel
theorem d_pc_addSpan_28 : decode b_pc_addSpan 28 = .ok (.aload_n 0, 1) := by decide +kernel
theorem d_pc_addSpan_29 : decode b_pc_addSpan 29 = .ok (.getfield 31, 3) := by decide +kernel
theorem d_pc_addSpan_32 : decode b_pc_addSpan 32 = .ok (.iload_n 1, 1) := by decide +kernel
theorem d_pc_addSpan_33 : decode b_pc_addSpan 33 = .ok (.dup2, 1) := by decide +kernel
theorem d_pc_addSpan_34 : decode b_pc_addSpan 34 = .ok (.iaload, 1) := by decide +kernel
theorem d_pc_addSpan_35 : decode b_pc_addSpan 35 = .ok (.iconst 1, 1) := by decide +kernel
theorem d_pc_addSpan_36 : decode b_pc_addSpan 36 = .ok (.iadd, 1) := by decide +kernel
theorem d_pc_addSpan_37 : decode b_pc_addSpan 37 = .ok (.iastore, 1) := by decide +kernel
theorem d_pc_addSpan_38 : decode b_pc_addSpan 38 = .ok (.return_, 1) := by decide +kernel
theorem d_sh_init_0 : decode b_sh_init 0 = .ok (.aload_n 0, 1) := by decide +kernel
theorem d_sh_init_1 : decode b_sh_init 1 = .ok (.invokespecial 3, 3) := by decide +kernel
theorem d_sh_init_4 : decode b_sh_init 4 = .ok (.aload_n 0, 1) := by decide +kernel
theorem d_sh_init_5 : decode b_sh_init 5 = .ok (.iconst 0, 1) := by decide +kernel
theorem d_sh_init_6 : decode b_sh_init 6 = .ok (.putfield 9, 3) := by decide +kernel
theorem d_sh_init_9 : decode b_sh_init 9 = .ok (.aload_n 0, 1) := by decide +kernel
theorem d_sh_init_10 : decode b_sh_init 10 = .ok (.bipush 12, 2) := by decide +kernel
theorem d_sh_init_12 : decode b_sh_init 12 = .ok (.newarray .int, 2) := by decide +kernel
theorem d_sh_init_14 : decode b_sh_init 14 = .ok (.putfield 15, 3) := by decide +kernel
theorem d_sh_init_17 : decode b_sh_init 17 = .ok (.aload_n 0, 1) := by decide +kernel
theorem d_sh_init_18 : decode b_sh_init 18 = .ok (.bipush 12, 2) := by decide +kernel
theorem d_sh_init_20 : decode b_sh_init 20 = .ok (.newarray .int, 2) := by decide +kernel
theorem d_sh_init_22 : decode b_sh_init 22 = .ok (.putfield 19, 3) := by decide +kernel
theorem d_sh_init_25 : decode b_sh_init 25 = .ok (.aload_n 0, 1) := by decide +kernel
theorem d_sh_init_26 : decode b_sh_init 26 = .ok (.bipush 12, 2) := by decide +kernel
theorem d_sh_init_28 : decode b_sh_init 28 = .ok (.newarray .int, 2) := by decide +kernel
theorem d_sh_init_30 : decode b_sh_init 30 = .ok (.putfield 22, 3) := by decide +kernel
theorem d_sh_init_33 : decode b_sh_init 33 = .ok (.return_, 1) := by decide +kernel
theorem d_sh_add_0 : decode b_sh_add 0 = .ok (.aload_n 0, 1) := by decide +kernel
theorem d_sh_add_1 : decode b_sh_add 1 = .ok (.getfield 9, 3) := by decide +kernel
theorem d_sh_add_4 : decode b_sh_add 4 = .ok (.istore 4, 2) := by decide +kernel
theorem d_sh_add_6 : decode b_sh_add 6 = .ok (.aload_n 0, 1) := by decide +kernel
theorem d_sh_add_7 : decode b_sh_add 7 = .ok (.getfield 15, 3) := by decide +kernel
theorem d_sh_add_10 : decode b_sh_add 10 = .ok (.iload 4, 2) := by decide +kernel
theorem d_sh_add_12 : decode b_sh_add 12 = .ok (.iload_n 1, 1) := by decide +kernel
theorem d_sh_add_13 : decode b_sh_add 13 = .ok (.iastore, 1) := by decide +kernel
theorem d_sh_add_14 : decode b_sh_add 14 = .ok (.aload_n 0, 1) := by decide +kernel
theorem d_sh_add_15 : decode b_sh_add 15 = .ok (.getfield 19, 3) := by decide +kernel
theorem d_sh_add_18 : decode b_sh_add 18 = .ok (.iload 4, 2) := by decide +kernel
theorem d_sh_add_20 : decode b_sh_add 20 = .ok (.iload_n 2, 1) := by decide +kernel
theorem d_sh_add_21 : decode b_sh_add 21 = .ok (.iastore, 1) := by decide +kernel
theorem d_sh_add_22 : decode b_sh_add 22 = .ok (.aload_n 0, 1) := by decide +kernel
theorem d_sh_add_23 : decode b_sh_add 23 = .ok (.getfield 22, 3) := by decide +kernel
theorem d_sh_add_26 : decode b_sh_add 26 = .ok (.iload 4, 2) := by decide +kernel
theorem d_sh_add_28 : decode b_sh_add 28 = .ok (.iload_n 3, 1) := by decide +kernel
theorem d_sh_add_29 : decode b_sh_add 29 = .ok (.iastore, 1) := by decide +kernel
theorem d_sh_add_30 : decode b_sh_add 30 = .ok (.aload_n 0, 1) := by decide +kernel
theorem d_sh_add_31 : decode b_sh_add 31 = .ok (.dup, 1) := by decide +kernel
theorem d_sh_add_32 : decode b_sh_add 32 = .ok (.getfield 9, 3) := by decide +kernel
theorem d_sh_add_35 : decode b_sh_add 35 = .ok (.iconst 1, 1) := by decide +kernel
theorem d_sh_add_36 : decode b_sh_add 36 = .ok (.iadd, 1) := by decide +kernel
theorem d_sh_add_37 : decode b_sh_add 37 = .ok (.putfield 9, 3) := by decide +kernel
theorem d_sh_add_40 : decode b_sh_add 40 = .ok (.iload 4, 2) := by decide +kernel
theorem d_sh_add_42 : decode b_sh_add 42 = .ok (.ireturn, 1) := by decide +kernel
theorem d_sh_has_0 : decode b_sh_has 0 = .ok (.iload_n 1, 1) := by decide +kernel
theorem d_sh_has_1 : decode b_sh_has 1 = .ok (.iconst 0, 1) := by decide +kernel
theorem d_sh_has_2 : decode b_sh_has 2 = .ok (.aload_n 0, 1) := by decide +kernel
theorem d_sh_has_3 : decode b_sh_has 3 = .ok (.getfield 9, 3) := by decide +kernel
theorem d_sh_has_6 : decode b_sh_has 6 = .ok (.iconst 1, 1) := by decide +kernel
theorem d_sh_has_7 : decode b_sh_has 7 = .ok (.isub, 1) := by decide +kernel
theorem d_sh_has_8 : decode b_sh_has 8 = .ok (.invokestatic 25, 3) := by decide +kernel
theorem d_sh_has_11 : decode b_sh_has 11 = .ok (.ireturn, 1) := by decide +kernel
end
section
theorem d_cr_init_0 : decode b_cr_init 0 = .ok (.aload_n 0, 1) := by decide +kernel
theorem d_cr_init_1 : decode b_cr_init 1 = .ok (.invokespecial 3, 3) := by decide +kernel
theorem d_cr_init_4 : decode b_cr_init 4 = .ok (.aload_n 0, 1) := by decide +kernel
theorem d_cr_init_5 : decode b_cr_init 5 = .ok (.new 9, 3) := by decide +kernel
theorem d_cr_init_8 : decode b_cr_init 8 = .ok (.dup, 1) := by decide +kernel
theorem d_cr_init_9 : decode b_cr_init 9 = .ok (.invokespecial 11, 3) := by decide +kernel
theorem d_cr_init_12 : decode b_cr_init 12 = .ok (.putfield 12, 3) := by decide +kernel
theorem d_cr_init_15 : decode b_cr_init 15 = .ok (.aload_n 0, 1) := by decide +kernel
theorem d_cr_init_16 : decode b_cr_init 16 = .ok (.new 16, 3) := by decide +kernel
theorem d_cr_init_19 : decode b_cr_init 19 = .ok (.dup, 1) := by decide +kernel
theorem d_cr_init_20 : decode b_cr_init 20 = .ok (.invokespecial 18, 3) := by decide +kernel
theorem d_cr_init_23 : decode b_cr_init 23 = .ok (.putfield 19, 3) := by decide +kernel
theorem d_cr_init_26 : decode b_cr_init 26 = .ok (.aload_n 0, 1) := by decide +kernel
theorem d_cr_init_27 : decode b_cr_init 27 = .ok (.new 23, 3) := by decide +kernel
theorem d_cr_init_30 : decode b_cr_init 30 = .ok (.dup, 1) := by decide +kernel
theorem d_cr_init_31 : decode b_cr_init 31 = .ok (.invokespecial 25, 3) := by decide +kernel
theorem d_cr_init_34 : decode b_cr_init 34 = .ok (.putfield 26, 3) := by decide +kernel
theorem d_cr_init_37 : decode b_cr_init 37 = .ok (.aload_n 0, 1) := by decide +kernel
theorem d_cr_init_38 : decode b_cr_init 38 = .ok (.bipush 8, 2) := by decide +kernel
theorem d_cr_init_40 : decode b_cr_init 40 = .ok (.newarray .int, 2) := by decide +kernel
theorem d_cr_init_42 : decode b_cr_init 42 = .ok (.putfield 30, 3) := by decide +kernel
theorem d_cr_init_45 : decode b_cr_init 45 = .ok (.aload_n 0, 1) := by decide +kernel
theorem d_cr_init_46 : decode b_cr_init 46 = .ok (.iconst 4, 1) := by decide +kernel
theorem d_cr_init_47 : decode b_cr_init 47 = .ok (.newarray .int, 2) := by decide +kernel
theorem d_cr_init_49 : decode b_cr_init 49 = .ok (.putfield 34, 3) := by decide +kernel
theorem d_cr_init_52 : decode b_cr_init 52 = .ok (.aload_n 0, 1) := by decide +kernel
theorem d_cr_init_53 : decode b_cr_init 53 = .ok (.iconst 0, 1) := by decide +kernel
theorem d_cr_init_54 : decode b_cr_init 54 = .ok (.putfield 37, 3) := by decide +kernel
theorem d_cr_init_57 : decode b_cr_init 57 = .ok (.aload_n 0, 1) := by decide +kernel
theorem d_cr_init_58 : decode b_cr_init 58 = .ok (.iconst 0, 1) := by decide +kernel
theorem d_cr_init_59 : decode b_cr_init 59 = .ok (.putfield 41, 3) := by decide +kernel
theorem d_cr_init_62 : decode b_cr_init 62 = .ok (.return_, 1) := by decide +kernel
theorem d_cr_rule_0 : decode b_cr_rule 0 = .ok (.aload_n 0, 1) := by decide +kernel
theorem d_cr_rule_1 : decode b_cr_rule 1 = .ok (.getfield 12, 3) := by decide +kernel
theorem d_cr_rule_4 : decode b_cr_rule 4 = .ok (.iload_n 1, 1) := by decide +kernel
theorem d_cr_rule_5 : decode b_cr_rule 5 = .ok (.invokevirtual 74, 3) := by decide +kernel
theorem d_cr_rule_8 : decode b_cr_rule 8 = .ok (.ifCond .eq 25, 3) := by decide +kernel
theorem d_cr_rule_11 : decode b_cr_rule 11 = .ok (.iload_n 2, 1) := by decide +kernel
theorem d_cr_rule_12 : decode b_cr_rule 12 = .ok (.iconst 0, 1) := by decide +kernel
theorem d_cr_rule_13 : decode b_cr_rule 13 = .ok (.iconst 4, 1) := by decide +kernel
theorem d_cr_rule_14 : decode b_cr_rule 14 = .ok (.invokestatic 56, 3) := by decide +kernel
theorem d_cr_rule_17 : decode b_cr_rule 17 = .ok (.ifCond .eq 16, 3) := by decide +kernel
theorem d_cr_rule_20 : decode b_cr_rule 20 = .ok (.iload_n 3, 1) := by decide +kernel
theorem d_cr_rule_21 : decode b_cr_rule 21 = .ok (.iconst 0, 1) := by decide +kernel
theorem d_cr_rule_22 : decode b_cr_rule 22 = .ok (.getstatic 77, 3) := by decide +kernel
theorem d_cr_rule_25 : decode b_cr_rule 25 = .ok (.iload_n 2, 1) := by decide +kernel
theorem d_cr_rule_26 : decode b_cr_rule 26 = .ok (.iaload, 1) := by decide +kernel
theorem d_cr_rule_27 : decode b_cr_rule 27 = .ok (.invokestatic 56, 3) := by decide +kernel
theorem d_cr_rule_30 : decode b_cr_rule 30 = .ok (.ifCond .ne 5, 3) := by decide +kernel
theorem d_cr_rule_33 : decode b_cr_rule 33 = .ok (.iconst 0, 1) := by decide +kernel
theorem d_cr_rule_34 : decode b_cr_rule 34 = .ok (.ireturn, 1) := by decide +kernel
theorem d_cr_rule_35 : decode b_cr_rule 35 = .ok (.aload_n 0, 1) := by decide +kernel
theorem d_cr_rule_36 : decode b_cr_rule 36 = .ok (.getfield 12, 3) := by decide +kernel
theorem d_cr_rule_39 : decode b_cr_rule 39 = .ok (.iload_n 1, 1) := by decide +kernel
theorem d_cr_rule_40 : decode b_cr_rule 40 = .ok (.iload_n 2, 1) := by decide +kernel
theorem d_cr_rule_41 : decode b_cr_rule 41 = .ok (.iload_n 3, 1) := by decide +kernel
theorem d_cr_rule_42 : decode b_cr_rule 42 = .ok (.invokevirtual 80, 3) := by decide +kernel
theorem d_cr_rule_45 : decode b_cr_rule 45 = .ok (.iconst 1, 1) := by decide +kernel
theorem d_cr_rule_46 : decode b_cr_rule 46 = .ok (.ireturn, 1) := by decide +kernel
theorem d_cr_isWithin_0 : decode b_cr_isWithin 0 = .ok (.iload_n 0, 1) := by decide +kernel
theorem d_cr_isWithin_1 : decode b_cr_isWithin 1 = .ok (.iload_n 1, 1) := by decide +kernel
theorem d_cr_isWithin_2 : decode b_cr_isWithin 2 = .ok (.if_icmp .lt 12, 3) := by decide +kernel
theorem d_cr_isWithin_5 : decode b_cr_isWithin 5 = .ok (.iload_n 0, 1) := by decide +kernel
theorem d_cr_isWithin_6 : decode b_cr_isWithin 6 = .ok (.iload_n 2, 1) := by decide +kernel
theorem d_cr_isWithin_7 : decode b_cr_isWithin 7 = .ok (.if_icmp .gt 7, 3) := by decide +kernel
theorem d_cr_isWithin_10 : decode b_cr_isWithin 10 = .ok (.iconst 1, 1) := by decide +kernel
theorem d_cr_isWithin_11 : decode b_cr_isWithin 11 = .ok (.goto 4, 3) := by decide +kernel
theorem d_cr_isWithin_14 : decode b_cr_isWithin 14 = .ok (.iconst 0, 1) := by decide +kernel
theorem d_cr_isWithin_15 : decode b_cr_isWithin 15 = .ok (.ireturn, 1) := by decide +kernel
theorem d_cr_wind_0 : decode b_cr_wind 0 = .ok (.aload_n 0, 1) := by decide +kernel
theorem d_cr_wind_1 : decode b_cr_wind 1 = .ok (.getfield 37, 3) := by decide +kernel
theorem d_cr_wind_4 : decode b_cr_wind 4 = .ok (.iload_n 1, 1) := by decide +kernel
theorem d_cr_wind_5 : decode b_cr_wind 5 = .ok (.if_icmp .ne 5, 3) := by decide +kernel
theorem d_cr_wind_8 : decode b_cr_wind 8 = .ok (.iconst 0, 1) := by decide +kernel
theorem d_cr_wind_9 : decode b_cr_wind 9 = .ok (.ireturn, 1) := by decide +kernel
theorem d_cr_wind_10 : decode b_cr_wind 10 = .ok (.aload_n 0, 1) := by decide +kernel
theorem d_cr_wind_11 : decode b_cr_wind 11 = .ok (.iload_n 1, 1) := by decide +kernel
theorem d_cr_wind_12 : decode b_cr_wind 12 = .ok (.putfield 37, 3) := by decide +kernel
theorem d_cr_wind_15 : decode b_cr_wind 15 = .ok (.iconst 1, 1) := by decide +kernel
theorem d_cr_wind_16 : decode b_cr_wind 16 = .ok (.ireturn, 1) := by decide +kernel
theorem d_cr_back_0 : decode b_cr_back 0 = .ok (.aload_n 0, 1) := by decide +kernel
theorem d_cr_back_1 : decode b_cr_back 1 = .ok (.getfield 26, 3) := by decide +kernel
theorem d_cr_back_4 : decode b_cr_back 4 = .ok (.iload_n 1, 1) := by decide +kernel
theorem d_cr_back_5 : decode b_cr_back 5 = .ok (.invokevirtual 134, 3) := by decide +kernel
theorem d_cr_back_8 : decode b_cr_back 8 = .ok (.ifCond .eq 11, 3) := by decide +kernel
theorem d_cr_back_11 : decode b_cr_back 11 = .ok (.aload_n 0, 1) := by decide +kernel
theorem d_cr_back_12 : decode b_cr_back 12 = .ok (.iload_n 1, 1) := by decide +kernel
theorem d_cr_back_13 : decode b_cr_back 13 = .ok (.invokevirtual 139, 3) := by decide +kernel
theorem d_cr_back_16 : decode b_cr_back 16 = .ok (.ifCond .ne 5, 3) := by decide +kernel
theorem d_cr_back_19 : decode b_cr_back 19 = .ok (.iconst 0, 1) := by decide +kernel
theorem d_cr_back_20 : decode b_cr_back 20 = .ok (.ireturn, 1) := by decide +kernel
theorem d_cr_back_21 : decode b_cr_back 21 = .ok (.aload_n 0, 1) := by decide +kernel
theorem d_cr_back_22 : decode b_cr_back 22 = .ok (.getfield 26, 3) := by decide +kernel
theorem d_cr_back_25 : decode b_cr_back 25 = .ok (.getfield 142, 3) := by decide +kernel
theorem d_cr_back_28 : decode b_cr_back 28 = .ok (.iload_n 1, 1) := by decide +kernel
theorem d_cr_back_29 : decode b_cr_back 29 = .ok (.iconst 0, 1) := by decide +kernel
theorem d_cr_back_30 : decode b_cr_back 30 = .ok (.bastore, 1) := by decide +kernel
theorem d_cr_back_31 : decode b_cr_back 31 = .ok (.iconst 1, 1) := by decide +kernel
theorem d_cr_back_32 : decode b_cr_back 32 = .ok (.ireturn, 1) := by decide +kernel
theorem d_cr_isStillToBegin_0 : decode b_cr_isStillToBegin 0 = .ok (.aload_n 0, 1) := by decide +kernel
theorem d_cr_isStillToBegin_1 : decode b_cr_isStillToBegin 1 = .ok (.getfield 26, 3) := by decide +kernel
theorem d_cr_isStillToBegin_4 : decode b_cr_isStillToBegin 4 = .ok (.getfield 142, 3) := by decide +kernel
theorem d_cr_isStillToBegin_7 : decode b_cr_isStillToBegin 7 = .ok (.iload_n 1, 1) := by decide +kernel
theorem d_cr_isStillToBegin_8 : decode b_cr_isStillToBegin 8 = .ok (.baload, 1) := by decide +kernel
theorem d_cr_isStillToBegin_9 : decode b_cr_isStillToBegin 9 = .ok (.ifCond .eq 23, 3) := by decide +kernel
theorem d_cr_isStillToBegin_12 : decode b_cr_isStillToBegin 12 = .ok (.aload_n 0, 1) := by decide +kernel
theorem d_cr_isStillToBegin_13 : decode b_cr_isStillToBegin 13 = .ok (.getfield 26, 3) := by decide +kernel
theorem d_cr_isStillToBegin_16 : decode b_cr_isStillToBegin 16 = .ok (.getfield 115, 3) := by decide +kernel
theorem d_cr_isStillToBegin_19 : decode b_cr_isStillToBegin 19 = .ok (.iload_n 1, 1) := by decide +kernel
theorem d_cr_isStillToBegin_20 : decode b_cr_isStillToBegin 20 = .ok (.iaload, 1) := by decide +kernel
theorem d_cr_isStillToBegin_21 : decode b_cr_isStillToBegin 21 = .ok (.aload_n 0, 1) := by decide +kernel
theorem d_cr_isStillToBegin_22 : decode b_cr_isStillToBegin 22 = .ok (.getfield 41, 3) := by decide +kernel
theorem d_cr_isStillToBegin_25 : decode b_cr_isStillToBegin 25 = .ok (.if_icmp .le 7, 3) := by decide +kernel
theorem d_cr_isStillToBegin_28 : decode b_cr_isStillToBegin 28 = .ok (.iconst 1, 1) := by decide +kernel
theorem d_cr_isStillToBegin_29 : decode b_cr_isStillToBegin 29 = .ok (.goto 4, 3) := by decide +kernel
theorem d_cr_isStillToBegin_32 : decode b_cr_isStillToBegin 32 = .ok (.iconst 0, 1) := by decide +kernel
theorem d_cr_isStillToBegin_33 : decode b_cr_isStillToBegin 33 = .ok (.ireturn, 1) := by decide +kernel
theorem d_cr_tick_0 : decode b_cr_tick 0 = .ok (.iload_n 1, 1) := by decide +kernel
theorem d_cr_tick_1 : decode b_cr_tick 1 = .ok (.aload_n 0, 1) := by decide +kernel
theorem d_cr_tick_2 : decode b_cr_tick 2 = .ok (.getfield 41, 3) := by decide +kernel
theorem d_cr_tick_5 : decode b_cr_tick 5 = .ok (.ldc 107, 2) := by decide +kernel
theorem d_cr_tick_7 : decode b_cr_tick 7 = .ok (.invokestatic 56, 3) := by decide +kernel
theorem d_cr_tick_10 : decode b_cr_tick 10 = .ok (.ifCond .ne 5, 3) := by decide +kernel
theorem d_cr_tick_13 : decode b_cr_tick 13 = .ok (.iconst 0, 1) := by decide +kernel
theorem d_cr_tick_14 : decode b_cr_tick 14 = .ok (.ireturn, 1) := by decide +kernel
theorem d_cr_tick_15 : decode b_cr_tick 15 = .ok (.aload_n 0, 1) := by decide +kernel
theorem d_cr_tick_16 : decode b_cr_tick 16 = .ok (.iload_n 1, 1) := by decide +kernel
theorem d_cr_tick_17 : decode b_cr_tick 17 = .ok (.putfield 41, 3) := by decide +kernel
theorem d_cr_tick_20 : decode b_cr_tick 20 = .ok (.iconst 1, 1) := by decide +kernel
theorem d_cr_tick_21 : decode b_cr_tick 21 = .ok (.ireturn, 1) := by decide +kernel
theorem d_cr_count_0 : decode b_cr_count 0 = .ok (.iload_n 1, 1) := by decide +kernel
theorem d_cr_count_1 : decode b_cr_count 1 = .ok (.tableswitch 99 0 6 #[43, 51, 59, 67, 75, 80, 86], 43) := by decide +kernel
theorem d_cr_count_44 : decode b_cr_count 44 = .ok (.aload_n 0, 1) := by decide +kernel
theorem d_cr_count_45 : decode b_cr_count 45 = .ok (.getfield 12, 3) := by decide +kernel
theorem d_cr_count_48 : decode b_cr_count 48 = .ok (.getfield 62, 3) := by decide +kernel
theorem d_cr_count_51 : decode b_cr_count 51 = .ok (.ireturn, 1) := by decide +kernel
theorem d_cr_count_52 : decode b_cr_count 52 = .ok (.aload_n 0, 1) := by decide +kernel
theorem d_cr_count_53 : decode b_cr_count 53 = .ok (.getfield 19, 3) := by decide +kernel
theorem d_cr_count_56 : decode b_cr_count 56 = .ok (.getfield 86, 3) := by decide +kernel
theorem d_cr_count_59 : decode b_cr_count 59 = .ok (.ireturn, 1) := by decide +kernel
theorem d_cr_count_60 : decode b_cr_count 60 = .ok (.aload_n 0, 1) := by decide +kernel
theorem d_cr_count_61 : decode b_cr_count 61 = .ok (.getfield 26, 3) := by decide +kernel
theorem d_cr_count_64 : decode b_cr_count 64 = .ok (.getfield 110, 3) := by decide +kernel
theorem d_cr_count_67 : decode b_cr_count 67 = .ok (.ireturn, 1) := by decide +kernel
theorem d_cr_count_68 : decode b_cr_count 68 = .ok (.aload_n 0, 1) := by decide +kernel
theorem d_cr_count_69 : decode b_cr_count 69 = .ok (.getfield 26, 3) := by decide +kernel
theorem d_cr_count_72 : decode b_cr_count 72 = .ok (.invokevirtual 179, 3) := by decide +kernel
theorem d_cr_count_75 : decode b_cr_count 75 = .ok (.ireturn, 1) := by decide +kernel
theorem d_cr_count_76 : decode b_cr_count 76 = .ok (.aload_n 0, 1) := by decide +kernel
theorem d_cr_count_77 : decode b_cr_count 77 = .ok (.getfield 41, 3) := by decide +kernel
theorem d_cr_count_80 : decode b_cr_count 80 = .ok (.ireturn, 1) := by decide +kernel
theorem d_cr_count_81 : decode b_cr_count 81 = .ok (.aload_n 0, 1) := by decide +kernel
theorem d_cr_count_82 : decode b_cr_count 82 = .ok (.iconst (-1), 1) := by decide +kernel
theorem d_cr_count_83 : decode b_cr_count 83 = .ok (.invokevirtual 161, 3) := by decide +kernel
theorem d_cr_count_86 : decode b_cr_count 86 = .ok (.ireturn, 1) := by decide +kernel
theorem d_cr_count_87 : decode b_cr_count 87 = .ok (.aload_n 0, 1) := by decide +kernel
theorem d_cr_count_88 : decode b_cr_count 88 = .ok (.getfield 37, 3) := by decide +kernel
theorem d_cr_count_91 : decode b_cr_count 91 = .ok (.ifCond .eq 7, 3) := by decide +kernel
theorem d_cr_count_94 : decode b_cr_count 94 = .ok (.iconst 1, 1) := by decide +kernel
theorem d_cr_count_95 : decode b_cr_count 95 = .ok (.goto 4, 3) := by decide +kernel
theorem d_cr_count_98 : decode b_cr_count 98 = .ok (.iconst 0, 1) := by decide +kernel
theorem d_cr_count_99 : decode b_cr_count 99 = .ok (.ireturn, 1) := by decide +kernel
theorem d_cr_count_100 : decode b_cr_count 100 = .ok (.iload_n 1, 1) := by decide +kernel
theorem d_cr_count_101 : decode b_cr_count 101 = .ok (.bipush 20, 2) := by decide +kernel
theorem d_cr_count_103 : decode b_cr_count 103 = .ok (.if_icmp .ge 7, 3) := by decide +kernel
theorem d_cr_count_106 : decode b_cr_count 106 = .ok (.iconst (-1), 1) := by decide +kernel
theorem d_cr_count_107 : decode b_cr_count 107 = .ok (.goto 11, 3) := by decide +kernel
theorem d_cr_count_110 : decode b_cr_count 110 = .ok (.aload_n 0, 1) := by decide +kernel
theorem d_cr_count_111 : decode b_cr_count 111 = .ok (.iload_n 1, 1) := by decide +kernel
theorem d_cr_count_112 : decode b_cr_count 112 = .ok (.bipush 20, 2) := by decide +kernel
theorem d_cr_count_114 : decode b_cr_count 114 = .ok (.isub, 1) := by decide +kernel
theorem d_cr_count_115 : decode b_cr_count 115 = .ok (.invokevirtual 182, 3) := by decide +kernel
theorem d_cr_count_118 : decode b_cr_count 118 = .ok (.ireturn, 1) := by decide +kernel
theorem d_cr_seekConflict_0 : decode b_cr_seekConflict 0 = .ok (.iconst 0, 1) := by decide +kernel
theorem d_cr_seekConflict_1 : decode b_cr_seekConflict 1 = .ok (.istore_n 2, 1) := by decide +kernel
theorem d_cr_seekConflict_2 : decode b_cr_seekConflict 2 = .ok (.iconst 1, 1) := by decide +kernel
theorem d_cr_seekConflict_3 : decode b_cr_seekConflict 3 = .ok (.istore_n 3, 1) := by decide +kernel
theorem d_cr_seekConflict_4 : decode b_cr_seekConflict 4 = .ok (.iload_n 3, 1) := by decide +kernel
theorem d_cr_seekConflict_5 : decode b_cr_seekConflict 5 = .ok (.aload_n 0, 1) := by decide +kernel
theorem d_cr_seekConflict_6 : decode b_cr_seekConflict 6 = .ok (.getfield 26, 3) := by decide +kernel
theorem d_cr_seekConflict_9 : decode b_cr_seekConflict 9 = .ok (.getfield 110, 3) := by decide +kernel
theorem d_cr_seekConflict_12 : decode b_cr_seekConflict 12 = .ok (.if_icmp .gt 67, 3) := by decide +kernel
theorem d_cr_seekConflict_15 : decode b_cr_seekConflict 15 = .ok (.iload_n 3, 1) := by decide +kernel
theorem d_cr_seekConflict_16 : decode b_cr_seekConflict 16 = .ok (.iconst 1, 1) := by decide +kernel
theorem d_cr_seekConflict_17 : decode b_cr_seekConflict 17 = .ok (.iadd, 1) := by decide +kernel
theorem d_cr_seekConflict_18 : decode b_cr_seekConflict 18 = .ok (.istore 4, 2) := by decide +kernel
theorem d_cr_seekConflict_20 : decode b_cr_seekConflict 20 = .ok (.iload 4, 2) := by decide +kernel
theorem d_cr_seekConflict_22 : decode b_cr_seekConflict 22 = .ok (.aload_n 0, 1) := by decide +kernel
theorem d_cr_seekConflict_23 : decode b_cr_seekConflict 23 = .ok (.getfield 26, 3) := by decide +kernel
theorem d_cr_seekConflict_26 : decode b_cr_seekConflict 26 = .ok (.getfield 110, 3) := by decide +kernel
theorem d_cr_seekConflict_29 : decode b_cr_seekConflict 29 = .ok (.if_icmp .gt 44, 3) := by decide +kernel
theorem d_cr_seekConflict_32 : decode b_cr_seekConflict 32 = .ok (.aload_n 0, 1) := by decide +kernel
theorem d_cr_seekConflict_33 : decode b_cr_seekConflict 33 = .ok (.getfield 26, 3) := by decide +kernel
theorem d_cr_seekConflict_36 : decode b_cr_seekConflict 36 = .ok (.getfield 142, 3) := by decide +kernel
theorem d_cr_seekConflict_39 : decode b_cr_seekConflict 39 = .ok (.iload_n 3, 1) := by decide +kernel
theorem d_cr_seekConflict_40 : decode b_cr_seekConflict 40 = .ok (.baload, 1) := by decide +kernel
theorem d_cr_seekConflict_41 : decode b_cr_seekConflict 41 = .ok (.ifCond .eq 26, 3) := by decide +kernel
theorem d_cr_seekConflict_44 : decode b_cr_seekConflict 44 = .ok (.aload_n 0, 1) := by decide +kernel
theorem d_cr_seekConflict_45 : decode b_cr_seekConflict 45 = .ok (.getfield 26, 3) := by decide +kernel
theorem d_cr_seekConflict_48 : decode b_cr_seekConflict 48 = .ok (.getfield 142, 3) := by decide +kernel
theorem d_cr_seekConflict_51 : decode b_cr_seekConflict 51 = .ok (.iload 4, 2) := by decide +kernel
theorem d_cr_seekConflict_53 : decode b_cr_seekConflict 53 = .ok (.baload, 1) := by decide +kernel
theorem d_cr_seekConflict_54 : decode b_cr_seekConflict 54 = .ok (.ifCond .eq 13, 3) := by decide +kernel
theorem d_cr_seekConflict_57 : decode b_cr_seekConflict 57 = .ok (.aload_n 0, 1) := by decide +kernel
theorem d_cr_seekConflict_58 : decode b_cr_seekConflict 58 = .ok (.iload_n 3, 1) := by decide +kernel
theorem d_cr_seekConflict_59 : decode b_cr_seekConflict 59 = .ok (.iload 4, 2) := by decide +kernel
theorem d_cr_seekConflict_61 : decode b_cr_seekConflict 61 = .ok (.iload_n 2, 1) := by decide +kernel
theorem d_cr_seekConflict_62 : decode b_cr_seekConflict 62 = .ok (.iload_n 1, 1) := by decide +kernel
theorem d_cr_seekConflict_63 : decode b_cr_seekConflict 63 = .ok (.invokevirtual 288, 3) := by decide +kernel
theorem d_cr_seekConflict_66 : decode b_cr_seekConflict 66 = .ok (.istore_n 2, 1) := by decide +kernel
theorem d_cr_seekConflict_67 : decode b_cr_seekConflict 67 = .ok (.iinc 4 1, 3) := by decide +kernel
theorem d_cr_seekConflict_70 : decode b_cr_seekConflict 70 = .ok (.goto (-50), 3) := by decide +kernel
theorem d_cr_seekConflict_73 : decode b_cr_seekConflict 73 = .ok (.iinc 3 1, 3) := by decide +kernel
theorem d_cr_seekConflict_76 : decode b_cr_seekConflict 76 = .ok (.goto (-72), 3) := by decide +kernel
theorem d_cr_seekConflict_79 : decode b_cr_seekConflict 79 = .ok (.iload_n 2, 1) := by decide +kernel
theorem d_cr_seekConflict_80 : decode b_cr_seekConflict 80 = .ok (.ireturn, 1) := by decide +kernel
theorem d_cr_seekConflictOfPair_0 : decode b_cr_seekConflictOfPair 0 = .ok (.iload_n 3, 1) := by decide +kernel
theorem d_cr_seekConflictOfPair_1 : decode b_cr_seekConflictOfPair 1 = .ok (.istore 5, 2) := by decide +kernel
theorem d_cr_seekConflictOfPair_3 : decode b_cr_seekConflictOfPair 3 = .ok (.iconst 0, 1) := by decide +kernel
theorem d_cr_seekConflictOfPair_4 : decode b_cr_seekConflictOfPair 4 = .ok (.istore 6, 2) := by decide +kernel
theorem d_cr_seekConflictOfPair_6 : decode b_cr_seekConflictOfPair 6 = .ok (.iload 6, 2) := by decide +kernel
theorem d_cr_seekConflictOfPair_8 : decode b_cr_seekConflictOfPair 8 = .ok (.aload_n 0, 1) := by decide +kernel
theorem d_cr_seekConflictOfPair_9 : decode b_cr_seekConflictOfPair 9 = .ok (.getfield 26, 3) := by decide +kernel
theorem d_cr_seekConflictOfPair_12 : decode b_cr_seekConflictOfPair 12 = .ok (.getfield 104, 3) := by decide +kernel
theorem d_cr_seekConflictOfPair_15 : decode b_cr_seekConflictOfPair 15 = .ok (.iload_n 1, 1) := by decide +kernel
theorem d_cr_seekConflictOfPair_16 : decode b_cr_seekConflictOfPair 16 = .ok (.iaload, 1) := by decide +kernel
theorem d_cr_seekConflictOfPair_17 : decode b_cr_seekConflictOfPair 17 = .ok (.if_icmp .ge 75, 3) := by decide +kernel
theorem d_cr_seekConflictOfPair_20 : decode b_cr_seekConflictOfPair 20 = .ok (.aload_n 0, 1) := by decide +kernel
theorem d_cr_seekConflictOfPair_21 : decode b_cr_seekConflictOfPair 21 = .ok (.iload_n 2, 1) := by decide +kernel
theorem d_cr_seekConflictOfPair_22 : decode b_cr_seekConflictOfPair 22 = .ok (.iload_n 1, 1) := by decide +kernel
theorem d_cr_seekConflictOfPair_23 : decode b_cr_seekConflictOfPair 23 = .ok (.iload 6, 2) := by decide +kernel
theorem d_cr_seekConflictOfPair_25 : decode b_cr_seekConflictOfPair 25 = .ok (.invokevirtual 257, 3) := by decide +kernel
theorem d_cr_seekConflictOfPair_28 : decode b_cr_seekConflictOfPair 28 = .ok (.istore 7, 2) := by decide +kernel
theorem d_cr_seekConflictOfPair_30 : decode b_cr_seekConflictOfPair 30 = .ok (.iload 7, 2) := by decide +kernel
theorem d_cr_seekConflictOfPair_32 : decode b_cr_seekConflictOfPair 32 = .ok (.ifCond .ne 6, 3) := by decide +kernel
theorem d_cr_seekConflictOfPair_35 : decode b_cr_seekConflictOfPair 35 = .ok (.goto 51, 3) := by decide +kernel
theorem d_cr_seekConflictOfPair_38 : decode b_cr_seekConflictOfPair 38 = .ok (.iload 5, 2) := by decide +kernel
theorem d_cr_seekConflictOfPair_40 : decode b_cr_seekConflictOfPair 40 = .ok (.iload 4, 2) := by decide +kernel
theorem d_cr_seekConflictOfPair_42 : decode b_cr_seekConflictOfPair 42 = .ok (.if_icmp .ne 41, 3) := by decide +kernel
theorem d_cr_seekConflictOfPair_45 : decode b_cr_seekConflictOfPair 45 = .ok (.aload_n 0, 1) := by decide +kernel
theorem d_cr_seekConflictOfPair_46 : decode b_cr_seekConflictOfPair 46 = .ok (.getfield 34, 3) := by decide +kernel
theorem d_cr_seekConflictOfPair_49 : decode b_cr_seekConflictOfPair 49 = .ok (.iconst 0, 1) := by decide +kernel
theorem d_cr_seekConflictOfPair_50 : decode b_cr_seekConflictOfPair 50 = .ok (.iload_n 1, 1) := by decide +kernel
theorem d_cr_seekConflictOfPair_51 : decode b_cr_seekConflictOfPair 51 = .ok (.iastore, 1) := by decide +kernel
theorem d_cr_seekConflictOfPair_52 : decode b_cr_seekConflictOfPair 52 = .ok (.aload_n 0, 1) := by decide +kernel
theorem d_cr_seekConflictOfPair_53 : decode b_cr_seekConflictOfPair 53 = .ok (.getfield 34, 3) := by decide +kernel
theorem d_cr_seekConflictOfPair_56 : decode b_cr_seekConflictOfPair 56 = .ok (.iconst 1, 1) := by decide +kernel
theorem d_cr_seekConflictOfPair_57 : decode b_cr_seekConflictOfPair 57 = .ok (.iload_n 2, 1) := by decide +kernel
theorem d_cr_seekConflictOfPair_58 : decode b_cr_seekConflictOfPair 58 = .ok (.iastore, 1) := by decide +kernel
theorem d_cr_seekConflictOfPair_59 : decode b_cr_seekConflictOfPair 59 = .ok (.aload_n 0, 1) := by decide +kernel
theorem d_cr_seekConflictOfPair_60 : decode b_cr_seekConflictOfPair 60 = .ok (.getfield 34, 3) := by decide +kernel
theorem d_cr_seekConflictOfPair_63 : decode b_cr_seekConflictOfPair 63 = .ok (.iconst 2, 1) := by decide +kernel
theorem d_cr_seekConflictOfPair_64 : decode b_cr_seekConflictOfPair 64 = .ok (.aload_n 0, 1) := by decide +kernel
theorem d_cr_seekConflictOfPair_65 : decode b_cr_seekConflictOfPair 65 = .ok (.getfield 26, 3) := by decide +kernel
theorem d_cr_seekConflictOfPair_68 : decode b_cr_seekConflictOfPair 68 = .ok (.iload_n 1, 1) := by decide +kernel
theorem d_cr_seekConflictOfPair_69 : decode b_cr_seekConflictOfPair 69 = .ok (.iload 6, 2) := by decide +kernel
theorem d_cr_seekConflictOfPair_71 : decode b_cr_seekConflictOfPair 71 = .ok (.invokevirtual 100, 3) := by decide +kernel
theorem d_cr_seekConflictOfPair_74 : decode b_cr_seekConflictOfPair 74 = .ok (.iastore, 1) := by decide +kernel
theorem d_cr_seekConflictOfPair_75 : decode b_cr_seekConflictOfPair 75 = .ok (.aload_n 0, 1) := by decide +kernel
theorem d_cr_seekConflictOfPair_76 : decode b_cr_seekConflictOfPair 76 = .ok (.getfield 34, 3) := by decide +kernel
theorem d_cr_seekConflictOfPair_79 : decode b_cr_seekConflictOfPair 79 = .ok (.iconst 3, 1) := by decide +kernel
theorem d_cr_seekConflictOfPair_80 : decode b_cr_seekConflictOfPair 80 = .ok (.iload 7, 2) := by decide +kernel
theorem d_cr_seekConflictOfPair_82 : decode b_cr_seekConflictOfPair 82 = .ok (.iastore, 1) := by decide +kernel
theorem d_cr_seekConflictOfPair_83 : decode b_cr_seekConflictOfPair 83 = .ok (.iinc 5 1, 3) := by decide +kernel
theorem d_cr_seekConflictOfPair_86 : decode b_cr_seekConflictOfPair 86 = .ok (.iinc 6 1, 3) := by decide +kernel
theorem d_cr_seekConflictOfPair_89 : decode b_cr_seekConflictOfPair 89 = .ok (.goto (-83), 3) := by decide +kernel
theorem d_cr_seekConflictOfPair_92 : decode b_cr_seekConflictOfPair 92 = .ok (.iload 5, 2) := by decide +kernel
theorem d_cr_seekConflictOfPair_94 : decode b_cr_seekConflictOfPair 94 = .ok (.ireturn, 1) := by decide +kernel
theorem d_cr_conflictWith_0 : decode b_cr_conflictWith 0 = .ok (.aload_n 0, 1) := by decide +kernel
theorem d_cr_conflictWith_1 : decode b_cr_conflictWith 1 = .ok (.getfield 26, 3) := by decide +kernel
theorem d_cr_conflictWith_4 : decode b_cr_conflictWith 4 = .ok (.iload_n 2, 1) := by decide +kernel
theorem d_cr_conflictWith_5 : decode b_cr_conflictWith 5 = .ok (.iload_n 3, 1) := by decide +kernel
theorem d_cr_conflictWith_6 : decode b_cr_conflictWith 6 = .ok (.invokevirtual 100, 3) := by decide +kernel
theorem d_cr_conflictWith_9 : decode b_cr_conflictWith 9 = .ok (.istore 4, 2) := by decide +kernel
theorem d_cr_conflictWith_11 : decode b_cr_conflictWith 11 = .ok (.aload_n 0, 1) := by decide +kernel
theorem d_cr_conflictWith_12 : decode b_cr_conflictWith 12 = .ok (.getfield 26, 3) := by decide +kernel
theorem d_cr_conflictWith_15 : decode b_cr_conflictWith 15 = .ok (.iload_n 1, 1) := by decide +kernel
theorem d_cr_conflictWith_16 : decode b_cr_conflictWith 16 = .ok (.iload 4, 2) := by decide +kernel
theorem d_cr_conflictWith_18 : decode b_cr_conflictWith 18 = .ok (.invokevirtual 260, 3) := by decide +kernel
theorem d_cr_conflictWith_21 : decode b_cr_conflictWith 21 = .ok (.istore 5, 2) := by decide +kernel
theorem d_cr_conflictWith_23 : decode b_cr_conflictWith 23 = .ok (.iload 5, 2) := by decide +kernel
theorem d_cr_conflictWith_25 : decode b_cr_conflictWith 25 = .ok (.iconst (-1), 1) := by decide +kernel
theorem d_cr_conflictWith_26 : decode b_cr_conflictWith 26 = .ok (.if_icmp .eq 47, 3) := by decide +kernel
theorem d_cr_conflictWith_29 : decode b_cr_conflictWith 29 = .ok (.aload_n 0, 1) := by decide +kernel
theorem d_cr_conflictWith_30 : decode b_cr_conflictWith 30 = .ok (.getfield 26, 3) := by decide +kernel
theorem d_cr_conflictWith_33 : decode b_cr_conflictWith 33 = .ok (.iload_n 2, 1) := by decide +kernel
theorem d_cr_conflictWith_34 : decode b_cr_conflictWith 34 = .ok (.iload_n 3, 1) := by decide +kernel
theorem d_cr_conflictWith_35 : decode b_cr_conflictWith 35 = .ok (.invokevirtual 169, 3) := by decide +kernel
theorem d_cr_conflictWith_38 : decode b_cr_conflictWith 38 = .ok (.aload_n 0, 1) := by decide +kernel
theorem d_cr_conflictWith_39 : decode b_cr_conflictWith 39 = .ok (.getfield 26, 3) := by decide +kernel
theorem d_cr_conflictWith_42 : decode b_cr_conflictWith 42 = .ok (.iload_n 2, 1) := by decide +kernel
theorem d_cr_conflictWith_43 : decode b_cr_conflictWith 43 = .ok (.iload_n 3, 1) := by decide +kernel
theorem d_cr_conflictWith_44 : decode b_cr_conflictWith 44 = .ok (.invokevirtual 172, 3) := by decide +kernel
theorem d_cr_conflictWith_47 : decode b_cr_conflictWith 47 = .ok (.aload_n 0, 1) := by decide +kernel
theorem d_cr_conflictWith_48 : decode b_cr_conflictWith 48 = .ok (.getfield 26, 3) := by decide +kernel
theorem d_cr_conflictWith_51 : decode b_cr_conflictWith 51 = .ok (.iload_n 1, 1) := by decide +kernel
theorem d_cr_conflictWith_52 : decode b_cr_conflictWith 52 = .ok (.iload 5, 2) := by decide +kernel
theorem d_cr_conflictWith_54 : decode b_cr_conflictWith 54 = .ok (.invokevirtual 169, 3) := by decide +kernel
theorem d_cr_conflictWith_57 : decode b_cr_conflictWith 57 = .ok (.aload_n 0, 1) := by decide +kernel
theorem d_cr_conflictWith_58 : decode b_cr_conflictWith 58 = .ok (.getfield 26, 3) := by decide +kernel
theorem d_cr_conflictWith_61 : decode b_cr_conflictWith 61 = .ok (.iload_n 1, 1) := by decide +kernel
theorem d_cr_conflictWith_62 : decode b_cr_conflictWith 62 = .ok (.iload 5, 2) := by decide +kernel
theorem d_cr_conflictWith_64 : decode b_cr_conflictWith 64 = .ok (.invokevirtual 172, 3) := by decide +kernel
theorem d_cr_conflictWith_67 : decode b_cr_conflictWith 67 = .ok (.invokestatic 263, 3) := by decide +kernel
theorem d_cr_conflictWith_70 : decode b_cr_conflictWith 70 = .ok (.ifCond .ne 5, 3) := by decide +kernel
theorem d_cr_conflictWith_73 : decode b_cr_conflictWith 73 = .ok (.iconst 0, 1) := by decide +kernel
theorem d_cr_conflictWith_74 : decode b_cr_conflictWith 74 = .ok (.ireturn, 1) := by decide +kernel
theorem d_cr_conflictWith_75 : decode b_cr_conflictWith 75 = .ok (.aload_n 0, 1) := by decide +kernel
theorem d_cr_conflictWith_76 : decode b_cr_conflictWith 76 = .ok (.getfield 26, 3) := by decide +kernel
theorem d_cr_conflictWith_79 : decode b_cr_conflictWith 79 = .ok (.getfield 254, 3) := by decide +kernel
theorem d_cr_conflictWith_82 : decode b_cr_conflictWith 82 = .ok (.iload_n 2, 1) := by decide +kernel
theorem d_cr_conflictWith_83 : decode b_cr_conflictWith 83 = .ok (.iaload, 1) := by decide +kernel
theorem d_cr_conflictWith_84 : decode b_cr_conflictWith 84 = .ok (.istore 6, 2) := by decide +kernel
theorem d_cr_conflictWith_86 : decode b_cr_conflictWith 86 = .ok (.aload_n 0, 1) := by decide +kernel
theorem d_cr_conflictWith_87 : decode b_cr_conflictWith 87 = .ok (.getfield 26, 3) := by decide +kernel
theorem d_cr_conflictWith_90 : decode b_cr_conflictWith 90 = .ok (.getfield 254, 3) := by decide +kernel
theorem d_cr_conflictWith_93 : decode b_cr_conflictWith 93 = .ok (.iload_n 1, 1) := by decide +kernel
theorem d_cr_conflictWith_94 : decode b_cr_conflictWith 94 = .ok (.iaload, 1) := by decide +kernel
theorem d_cr_conflictWith_95 : decode b_cr_conflictWith 95 = .ok (.istore 7, 2) := by decide +kernel
theorem d_cr_conflictWith_97 : decode b_cr_conflictWith 97 = .ok (.aload_n 0, 1) := by decide +kernel
theorem d_cr_conflictWith_98 : decode b_cr_conflictWith 98 = .ok (.getfield 19, 3) := by decide +kernel
theorem d_cr_conflictWith_101 : decode b_cr_conflictWith 101 = .ok (.getfield 251, 3) := by decide +kernel
theorem d_cr_conflictWith_104 : decode b_cr_conflictWith 104 = .ok (.iload 6, 2) := by decide +kernel
theorem d_cr_conflictWith_106 : decode b_cr_conflictWith 106 = .ok (.iaload, 1) := by decide +kernel
theorem d_cr_conflictWith_107 : decode b_cr_conflictWith 107 = .ok (.iconst 2, 1) := by decide +kernel
theorem d_cr_conflictWith_108 : decode b_cr_conflictWith 108 = .ok (.if_icmp .eq 17, 3) := by decide +kernel
theorem d_cr_conflictWith_111 : decode b_cr_conflictWith 111 = .ok (.aload_n 0, 1) := by decide +kernel
theorem d_cr_conflictWith_112 : decode b_cr_conflictWith 112 = .ok (.getfield 19, 3) := by decide +kernel
theorem d_cr_conflictWith_115 : decode b_cr_conflictWith 115 = .ok (.getfield 251, 3) := by decide +kernel
theorem d_cr_conflictWith_118 : decode b_cr_conflictWith 118 = .ok (.iload 7, 2) := by decide +kernel
theorem d_cr_conflictWith_120 : decode b_cr_conflictWith 120 = .ok (.iaload, 1) := by decide +kernel
theorem d_cr_conflictWith_121 : decode b_cr_conflictWith 121 = .ok (.iconst 2, 1) := by decide +kernel
theorem d_cr_conflictWith_122 : decode b_cr_conflictWith 122 = .ok (.if_icmp .ne 5, 3) := by decide +kernel
theorem d_cr_conflictWith_125 : decode b_cr_conflictWith 125 = .ok (.iconst 5, 1) := by decide +kernel
theorem d_cr_conflictWith_126 : decode b_cr_conflictWith 126 = .ok (.ireturn, 1) := by decide +kernel
theorem d_cr_conflictWith_127 : decode b_cr_conflictWith 127 = .ok (.aload_n 0, 1) := by decide +kernel
theorem d_cr_conflictWith_128 : decode b_cr_conflictWith 128 = .ok (.getfield 19, 3) := by decide +kernel
theorem d_cr_conflictWith_131 : decode b_cr_conflictWith 131 = .ok (.getfield 223, 3) := by decide +kernel
theorem d_cr_conflictWith_134 : decode b_cr_conflictWith 134 = .ok (.iload 6, 2) := by decide +kernel
theorem d_cr_conflictWith_136 : decode b_cr_conflictWith 136 = .ok (.iaload, 1) := by decide +kernel
theorem d_cr_conflictWith_137 : decode b_cr_conflictWith 137 = .ok (.aload_n 0, 1) := by decide +kernel
theorem d_cr_conflictWith_138 : decode b_cr_conflictWith 138 = .ok (.getfield 19, 3) := by decide +kernel
theorem d_cr_conflictWith_141 : decode b_cr_conflictWith 141 = .ok (.getfield 223, 3) := by decide +kernel
theorem d_cr_conflictWith_144 : decode b_cr_conflictWith 144 = .ok (.iload 7, 2) := by decide +kernel
theorem d_cr_conflictWith_146 : decode b_cr_conflictWith 146 = .ok (.iaload, 1) := by decide +kernel
theorem d_cr_conflictWith_147 : decode b_cr_conflictWith 147 = .ok (.iadd, 1) := by decide +kernel
theorem d_cr_conflictWith_148 : decode b_cr_conflictWith 148 = .ok (.aload_n 0, 1) := by decide +kernel
theorem d_cr_conflictWith_149 : decode b_cr_conflictWith 149 = .ok (.getfield 12, 3) := by decide +kernel
theorem d_cr_conflictWith_152 : decode b_cr_conflictWith 152 = .ok (.getfield 220, 3) := by decide +kernel
theorem d_cr_conflictWith_155 : decode b_cr_conflictWith 155 = .ok (.iload 4, 2) := by decide +kernel
theorem d_cr_conflictWith_157 : decode b_cr_conflictWith 157 = .ok (.iaload, 1) := by decide +kernel
theorem d_cr_conflictWith_158 : decode b_cr_conflictWith 158 = .ok (.if_icmp .le 7, 3) := by decide +kernel
theorem d_cr_conflictWith_161 : decode b_cr_conflictWith 161 = .ok (.iconst 1, 1) := by decide +kernel
theorem d_cr_conflictWith_162 : decode b_cr_conflictWith 162 = .ok (.goto 4, 3) := by decide +kernel
theorem d_cr_conflictWith_165 : decode b_cr_conflictWith 165 = .ok (.iconst 0, 1) := by decide +kernel
theorem d_cr_conflictWith_166 : decode b_cr_conflictWith 166 = .ok (.istore 8, 2) := by decide +kernel
theorem d_cr_conflictWith_168 : decode b_cr_conflictWith 168 = .ok (.aload_n 0, 1) := by decide +kernel
theorem d_cr_conflictWith_169 : decode b_cr_conflictWith 169 = .ok (.getfield 26, 3) := by decide +kernel
theorem d_cr_conflictWith_172 : decode b_cr_conflictWith 172 = .ok (.iload_n 2, 1) := by decide +kernel
theorem d_cr_conflictWith_173 : decode b_cr_conflictWith 173 = .ok (.iload_n 3, 1) := by decide +kernel
theorem d_cr_conflictWith_174 : decode b_cr_conflictWith 174 = .ok (.invokevirtual 175, 3) := by decide +kernel
theorem d_cr_conflictWith_177 : decode b_cr_conflictWith 177 = .ok (.aload_n 0, 1) := by decide +kernel
theorem d_cr_conflictWith_178 : decode b_cr_conflictWith 178 = .ok (.getfield 26, 3) := by decide +kernel
theorem d_cr_conflictWith_181 : decode b_cr_conflictWith 181 = .ok (.iload_n 1, 1) := by decide +kernel
theorem d_cr_conflictWith_182 : decode b_cr_conflictWith 182 = .ok (.iload 5, 2) := by decide +kernel
theorem d_cr_conflictWith_184 : decode b_cr_conflictWith 184 = .ok (.invokevirtual 175, 3) := by decide +kernel
theorem d_cr_conflictWith_187 : decode b_cr_conflictWith 187 = .ok (.if_icmp .eq 41, 3) := by decide +kernel
theorem d_cr_conflictWith_190 : decode b_cr_conflictWith 190 = .ok (.aload_n 0, 1) := by decide +kernel
theorem d_cr_conflictWith_191 : decode b_cr_conflictWith 191 = .ok (.getfield 12, 3) := by decide +kernel
theorem d_cr_conflictWith_194 : decode b_cr_conflictWith 194 = .ok (.iload 4, 2) := by decide +kernel
theorem d_cr_conflictWith_196 : decode b_cr_conflictWith 196 = .ok (.iconst 3, 1) := by decide +kernel
theorem d_cr_conflictWith_197 : decode b_cr_conflictWith 197 = .ok (.invokevirtual 248, 3) := by decide +kernel
theorem d_cr_conflictWith_200 : decode b_cr_conflictWith 200 = .ok (.iconst 1, 1) := by decide +kernel
theorem d_cr_conflictWith_201 : decode b_cr_conflictWith 201 = .ok (.if_icmp .ne 7, 3) := by decide +kernel
theorem d_cr_conflictWith_204 : decode b_cr_conflictWith 204 = .ok (.iconst 1, 1) := by decide +kernel
theorem d_cr_conflictWith_205 : decode b_cr_conflictWith 205 = .ok (.goto 4, 3) := by decide +kernel
theorem d_cr_conflictWith_208 : decode b_cr_conflictWith 208 = .ok (.iconst 0, 1) := by decide +kernel
theorem d_cr_conflictWith_209 : decode b_cr_conflictWith 209 = .ok (.istore 9, 2) := by decide +kernel
theorem d_cr_conflictWith_211 : decode b_cr_conflictWith 211 = .ok (.iload 9, 2) := by decide +kernel
theorem d_cr_conflictWith_213 : decode b_cr_conflictWith 213 = .ok (.ifCond .ne 8, 3) := by decide +kernel
theorem d_cr_conflictWith_216 : decode b_cr_conflictWith 216 = .ok (.iload 8, 2) := by decide +kernel
theorem d_cr_conflictWith_218 : decode b_cr_conflictWith 218 = .ok (.ifCond .eq 8, 3) := by decide +kernel
theorem d_cr_conflictWith_221 : decode b_cr_conflictWith 221 = .ok (.bipush 6, 2) := by decide +kernel
theorem d_cr_conflictWith_223 : decode b_cr_conflictWith 223 = .ok (.goto 4, 3) := by decide +kernel
theorem d_cr_conflictWith_226 : decode b_cr_conflictWith 226 = .ok (.iconst 0, 1) := by decide +kernel
theorem d_cr_conflictWith_227 : decode b_cr_conflictWith 227 = .ok (.ireturn, 1) := by decide +kernel
theorem d_cr_conflictWith_228 : decode b_cr_conflictWith 228 = .ok (.aload_n 0, 1) := by decide +kernel
theorem d_cr_conflictWith_229 : decode b_cr_conflictWith 229 = .ok (.getfield 12, 3) := by decide +kernel
theorem d_cr_conflictWith_232 : decode b_cr_conflictWith 232 = .ok (.iload 4, 2) := by decide +kernel
theorem d_cr_conflictWith_234 : decode b_cr_conflictWith 234 = .ok (.iconst 4, 1) := by decide +kernel
theorem d_cr_conflictWith_235 : decode b_cr_conflictWith 235 = .ok (.invokevirtual 248, 3) := by decide +kernel
theorem d_cr_conflictWith_238 : decode b_cr_conflictWith 238 = .ok (.iconst 1, 1) := by decide +kernel
theorem d_cr_conflictWith_239 : decode b_cr_conflictWith 239 = .ok (.if_icmp .ne 7, 3) := by decide +kernel
theorem d_cr_conflictWith_242 : decode b_cr_conflictWith 242 = .ok (.iconst 1, 1) := by decide +kernel
theorem d_cr_conflictWith_243 : decode b_cr_conflictWith 243 = .ok (.goto 4, 3) := by decide +kernel
theorem d_cr_conflictWith_246 : decode b_cr_conflictWith 246 = .ok (.iconst 0, 1) := by decide +kernel
theorem d_cr_conflictWith_247 : decode b_cr_conflictWith 247 = .ok (.istore 9, 2) := by decide +kernel
theorem d_cr_conflictWith_249 : decode b_cr_conflictWith 249 = .ok (.aload_n 0, 1) := by decide +kernel
theorem d_cr_conflictWith_250 : decode b_cr_conflictWith 250 = .ok (.getfield 26, 3) := by decide +kernel
theorem d_cr_conflictWith_253 : decode b_cr_conflictWith 253 = .ok (.iload_n 2, 1) := by decide +kernel
theorem d_cr_conflictWith_254 : decode b_cr_conflictWith 254 = .ok (.iload_n 3, 1) := by decide +kernel
theorem d_cr_conflictWith_255 : decode b_cr_conflictWith 255 = .ok (.iload_n 1, 1) := by decide +kernel
theorem d_cr_conflictWith_256 : decode b_cr_conflictWith 256 = .ok (.iload 5, 2) := by decide +kernel
theorem d_cr_conflictWith_258 : decode b_cr_conflictWith 258 = .ok (.invokevirtual 267, 3) := by decide +kernel
theorem d_cr_conflictWith_261 : decode b_cr_conflictWith 261 = .ok (.ifCond .eq 18, 3) := by decide +kernel
theorem d_cr_conflictWith_264 : decode b_cr_conflictWith 264 = .ok (.iload 9, 2) := by decide +kernel
theorem d_cr_conflictWith_266 : decode b_cr_conflictWith 266 = .ok (.ifCond .eq 8, 3) := by decide +kernel
theorem d_cr_conflictWith_269 : decode b_cr_conflictWith 269 = .ok (.iload 8, 2) := by decide +kernel
theorem d_cr_conflictWith_271 : decode b_cr_conflictWith 271 = .ok (.ifCond .eq 8, 3) := by decide +kernel
theorem d_cr_conflictWith_274 : decode b_cr_conflictWith 274 = .ok (.bipush 7, 2) := by decide +kernel
theorem d_cr_conflictWith_276 : decode b_cr_conflictWith 276 = .ok (.goto 4, 3) := by decide +kernel
theorem d_cr_conflictWith_279 : decode b_cr_conflictWith 279 = .ok (.iconst 0, 1) := by decide +kernel
theorem d_cr_conflictWith_280 : decode b_cr_conflictWith 280 = .ok (.ireturn, 1) := by decide +kernel
theorem d_cr_shareMinute_0 : decode b_cr_shareMinute 0 = .ok (.iload_n 0, 1) := by decide +kernel
theorem d_cr_shareMinute_1 : decode b_cr_shareMinute 1 = .ok (.iload_n 3, 1) := by decide +kernel
theorem d_cr_shareMinute_2 : decode b_cr_shareMinute 2 = .ok (.if_icmp .ge 12, 3) := by decide +kernel
theorem d_cr_shareMinute_5 : decode b_cr_shareMinute 5 = .ok (.iload_n 2, 1) := by decide +kernel
theorem d_cr_shareMinute_6 : decode b_cr_shareMinute 6 = .ok (.iload_n 1, 1) := by decide +kernel
theorem d_cr_shareMinute_7 : decode b_cr_shareMinute 7 = .ok (.if_icmp .ge 7, 3) := by decide +kernel
theorem d_cr_shareMinute_10 : decode b_cr_shareMinute 10 = .ok (.iconst 1, 1) := by decide +kernel
theorem d_cr_shareMinute_11 : decode b_cr_shareMinute 11 = .ok (.goto 4, 3) := by decide +kernel
theorem d_cr_shareMinute_14 : decode b_cr_shareMinute 14 = .ok (.iconst 0, 1) := by decide +kernel
theorem d_cr_shareMinute_15 : decode b_cr_shareMinute 15 = .ok (.ireturn, 1) := by decide +kernel
theorem d_cr_givenMark_0 : decode b_cr_givenMark 0 = .ok (.aload_n 0, 1) := by decide +kernel
theorem d_cr_givenMark_1 : decode b_cr_givenMark 1 = .ok (.getfield 26, 3) := by decide +kernel
theorem d_cr_givenMark_4 : decode b_cr_givenMark 4 = .ok (.iload_n 1, 1) := by decide +kernel
theorem d_cr_givenMark_5 : decode b_cr_givenMark 5 = .ok (.invokevirtual 134, 3) := by decide +kernel
theorem d_cr_givenMark_8 : decode b_cr_givenMark 8 = .ok (.ifCond .ne 5, 3) := by decide +kernel
theorem d_cr_givenMark_11 : decode b_cr_givenMark 11 = .ok (.iconst (-1), 1) := by decide +kernel
theorem d_cr_givenMark_12 : decode b_cr_givenMark 12 = .ok (.ireturn, 1) := by decide +kernel
theorem d_cr_givenMark_13 : decode b_cr_givenMark 13 = .ok (.aload_n 0, 1) := by decide +kernel
theorem d_cr_givenMark_14 : decode b_cr_givenMark 14 = .ok (.getfield 26, 3) := by decide +kernel
theorem d_cr_givenMark_17 : decode b_cr_givenMark 17 = .ok (.getfield 142, 3) := by decide +kernel
theorem d_cr_givenMark_20 : decode b_cr_givenMark 20 = .ok (.iload_n 1, 1) := by decide +kernel
theorem d_cr_givenMark_21 : decode b_cr_givenMark 21 = .ok (.baload, 1) := by decide +kernel
theorem d_cr_givenMark_22 : decode b_cr_givenMark 22 = .ok (.ifCond .eq 7, 3) := by decide +kernel
theorem d_cr_givenMark_25 : decode b_cr_givenMark 25 = .ok (.iconst 1, 1) := by decide +kernel
theorem d_cr_givenMark_26 : decode b_cr_givenMark 26 = .ok (.goto 4, 3) := by decide +kernel
theorem d_cr_givenMark_29 : decode b_cr_givenMark 29 = .ok (.iconst 0, 1) := by decide +kernel
theorem d_cr_givenMark_30 : decode b_cr_givenMark 30 = .ok (.ireturn, 1) := by decide +kernel
theorem d_cr_piece_0 : decode b_cr_piece 0 = .ok (.iload_n 1, 1) := by decide +kernel
theorem d_cr_piece_1 : decode b_cr_piece 1 = .ok (.invokestatic 45, 3) := by decide +kernel
theorem d_cr_piece_4 : decode b_cr_piece 4 = .ok (.ifCond .eq 15, 3) := by decide +kernel
theorem d_cr_piece_7 : decode b_cr_piece 7 = .ok (.iload_n 2, 1) := by decide +kernel
theorem d_cr_piece_8 : decode b_cr_piece 8 = .ok (.invokestatic 45, 3) := by decide +kernel
theorem d_cr_piece_11 : decode b_cr_piece 11 = .ok (.ifCond .eq 8, 3) := by decide +kernel
theorem d_cr_piece_14 : decode b_cr_piece 14 = .ok (.iload_n 1, 1) := by decide +kernel
theorem d_cr_piece_15 : decode b_cr_piece 15 = .ok (.iload_n 2, 1) := by decide +kernel
theorem d_cr_piece_16 : decode b_cr_piece 16 = .ok (.if_icmp .ne 13, 3) := by decide +kernel
theorem d_cr_piece_19 : decode b_cr_piece 19 = .ok (.new 49, 3) := by decide +kernel
theorem d_cr_piece_22 : decode b_cr_piece 22 = .ok (.dup, 1) := by decide +kernel
theorem d_cr_piece_23 : decode b_cr_piece 23 = .ok (.ldc 51, 2) := by decide +kernel
theorem d_cr_piece_25 : decode b_cr_piece 25 = .ok (.invokespecial 53, 3) := by decide +kernel
theorem d_cr_piece_28 : decode b_cr_piece 28 = .ok (.athrow, 1) := by decide +kernel
theorem d_cr_piece_29 : decode b_cr_piece 29 = .ok (.iload_n 3, 1) := by decide +kernel
theorem d_cr_piece_30 : decode b_cr_piece 30 = .ok (.iconst 1, 1) := by decide +kernel
theorem d_cr_piece_31 : decode b_cr_piece 31 = .ok (.bipush 100, 2) := by decide +kernel
theorem d_cr_piece_33 : decode b_cr_piece 33 = .ok (.invokestatic 56, 3) := by decide +kernel
theorem d_cr_piece_36 : decode b_cr_piece 36 = .ok (.ifCond .eq 14, 3) := by decide +kernel
theorem d_cr_piece_39 : decode b_cr_piece 39 = .ok (.iload 4, 2) := by decide +kernel
theorem d_cr_piece_41 : decode b_cr_piece 41 = .ok (.iconst 1, 1) := by decide +kernel
theorem d_cr_piece_42 : decode b_cr_piece 42 = .ok (.bipush 100, 2) := by decide +kernel
theorem d_cr_piece_44 : decode b_cr_piece 44 = .ok (.invokestatic 56, 3) := by decide +kernel
theorem d_cr_piece_47 : decode b_cr_piece 47 = .ok (.ifCond .ne 13, 3) := by decide +kernel
theorem d_cr_piece_50 : decode b_cr_piece 50 = .ok (.new 49, 3) := by decide +kernel
theorem d_cr_piece_53 : decode b_cr_piece 53 = .ok (.dup, 1) := by decide +kernel
theorem d_cr_piece_54 : decode b_cr_piece 54 = .ok (.ldc 60, 2) := by decide +kernel
theorem d_cr_piece_56 : decode b_cr_piece 56 = .ok (.invokespecial 53, 3) := by decide +kernel
theorem d_cr_piece_59 : decode b_cr_piece 59 = .ok (.athrow, 1) := by decide +kernel
theorem d_cr_piece_60 : decode b_cr_piece 60 = .ok (.aload_n 0, 1) := by decide +kernel
theorem d_cr_piece_61 : decode b_cr_piece 61 = .ok (.getfield 12, 3) := by decide +kernel
theorem d_cr_piece_64 : decode b_cr_piece 64 = .ok (.getfield 62, 3) := by decide +kernel
theorem d_cr_piece_67 : decode b_cr_piece 67 = .ok (.bipush 12, 2) := by decide +kernel
theorem d_cr_piece_69 : decode b_cr_piece 69 = .ok (.if_icmp .lt 13, 3) := by decide +kernel
theorem d_cr_piece_72 : decode b_cr_piece 72 = .ok (.new 65, 3) := by decide +kernel
theorem d_cr_piece_75 : decode b_cr_piece 75 = .ok (.dup, 1) := by decide +kernel
theorem d_cr_piece_76 : decode b_cr_piece 76 = .ok (.ldc 67, 2) := by decide +kernel
theorem d_cr_piece_78 : decode b_cr_piece 78 = .ok (.invokespecial 69, 3) := by decide +kernel
theorem d_cr_piece_81 : decode b_cr_piece 81 = .ok (.athrow, 1) := by decide +kernel
theorem d_cr_piece_82 : decode b_cr_piece 82 = .ok (.aload_n 0, 1) := by decide +kernel
theorem d_cr_piece_83 : decode b_cr_piece 83 = .ok (.getfield 12, 3) := by decide +kernel
theorem d_cr_piece_86 : decode b_cr_piece 86 = .ok (.iload_n 1, 1) := by decide +kernel
theorem d_cr_piece_87 : decode b_cr_piece 87 = .ok (.iload_n 2, 1) := by decide +kernel
theorem d_cr_piece_88 : decode b_cr_piece 88 = .ok (.iload_n 3, 1) := by decide +kernel
theorem d_cr_piece_89 : decode b_cr_piece 89 = .ok (.iload 4, 2) := by decide +kernel
theorem d_cr_piece_91 : decode b_cr_piece 91 = .ok (.invokevirtual 70, 3) := by decide +kernel
theorem d_cr_piece_94 : decode b_cr_piece 94 = .ok (.ireturn, 1) := by decide +kernel
theorem d_cr_isPoint_0 : decode b_cr_isPoint 0 = .ok (.iload_n 0, 1) := by decide +kernel
theorem d_cr_isPoint_1 : decode b_cr_isPoint 1 = .ok (.iconst 0, 1) := by decide +kernel
theorem d_cr_isPoint_2 : decode b_cr_isPoint 2 = .ok (.bipush 7, 2) := by decide +kernel
theorem d_cr_isPoint_4 : decode b_cr_isPoint 4 = .ok (.invokestatic 56, 3) := by decide +kernel
theorem d_cr_isPoint_7 : decode b_cr_isPoint 7 = .ok (.ireturn, 1) := by decide +kernel
theorem d_cr_ship_0 : decode b_cr_ship 0 = .ok (.iload_n 1, 1) := by decide +kernel
theorem d_cr_ship_1 : decode b_cr_ship 1 = .ok (.iconst 1, 1) := by decide +kernel
theorem d_cr_ship_2 : decode b_cr_ship 2 = .ok (.bipush 100, 2) := by decide +kernel
theorem d_cr_ship_4 : decode b_cr_ship 4 = .ok (.invokestatic 56, 3) := by decide +kernel
theorem d_cr_ship_7 : decode b_cr_ship 7 = .ok (.ifCond .eq 22, 3) := by decide +kernel
theorem d_cr_ship_10 : decode b_cr_ship 10 = .ok (.iload_n 2, 1) := by decide +kernel
theorem d_cr_ship_11 : decode b_cr_ship 11 = .ok (.iconst 1, 1) := by decide +kernel
theorem d_cr_ship_12 : decode b_cr_ship 12 = .ok (.bipush 20, 2) := by decide +kernel
theorem d_cr_ship_14 : decode b_cr_ship 14 = .ok (.invokestatic 56, 3) := by decide +kernel
theorem d_cr_ship_17 : decode b_cr_ship 17 = .ok (.ifCond .eq 12, 3) := by decide +kernel
theorem d_cr_ship_20 : decode b_cr_ship 20 = .ok (.iload_n 3, 1) := by decide +kernel
theorem d_cr_ship_21 : decode b_cr_ship 21 = .ok (.iconst 0, 1) := by decide +kernel
theorem d_cr_ship_22 : decode b_cr_ship 22 = .ok (.iconst 2, 1) := by decide +kernel
theorem d_cr_ship_23 : decode b_cr_ship 23 = .ok (.invokestatic 56, 3) := by decide +kernel
theorem d_cr_ship_26 : decode b_cr_ship 26 = .ok (.ifCond .ne 13, 3) := by decide +kernel
theorem d_cr_ship_29 : decode b_cr_ship 29 = .ok (.new 49, 3) := by decide +kernel
theorem d_cr_ship_32 : decode b_cr_ship 32 = .ok (.dup, 1) := by decide +kernel
theorem d_cr_ship_33 : decode b_cr_ship 33 = .ok (.ldc 84, 2) := by decide +kernel
theorem d_cr_ship_35 : decode b_cr_ship 35 = .ok (.invokespecial 53, 3) := by decide +kernel
theorem d_cr_ship_38 : decode b_cr_ship 38 = .ok (.athrow, 1) := by decide +kernel
theorem d_cr_ship_39 : decode b_cr_ship 39 = .ok (.aload_n 0, 1) := by decide +kernel
theorem d_cr_ship_40 : decode b_cr_ship 40 = .ok (.getfield 19, 3) := by decide +kernel
theorem d_cr_ship_43 : decode b_cr_ship 43 = .ok (.getfield 86, 3) := by decide +kernel
theorem d_cr_ship_46 : decode b_cr_ship 46 = .ok (.bipush 12, 2) := by decide +kernel
theorem d_cr_ship_48 : decode b_cr_ship 48 = .ok (.if_icmp .lt 13, 3) := by decide +kernel
theorem d_cr_ship_51 : decode b_cr_ship 51 = .ok (.new 65, 3) := by decide +kernel
theorem d_cr_ship_54 : decode b_cr_ship 54 = .ok (.dup, 1) := by decide +kernel
theorem d_cr_ship_55 : decode b_cr_ship 55 = .ok (.ldc 87, 2) := by decide +kernel
theorem d_cr_ship_57 : decode b_cr_ship 57 = .ok (.invokespecial 69, 3) := by decide +kernel
theorem d_cr_ship_60 : decode b_cr_ship 60 = .ok (.athrow, 1) := by decide +kernel
theorem d_cr_ship_61 : decode b_cr_ship 61 = .ok (.aload_n 0, 1) := by decide +kernel
theorem d_cr_ship_62 : decode b_cr_ship 62 = .ok (.getfield 19, 3) := by decide +kernel
theorem d_cr_ship_65 : decode b_cr_ship 65 = .ok (.iload_n 1, 1) := by decide +kernel
theorem d_cr_ship_66 : decode b_cr_ship 66 = .ok (.iload_n 2, 1) := by decide +kernel
theorem d_cr_ship_67 : decode b_cr_ship 67 = .ok (.iload_n 3, 1) := by decide +kernel
theorem d_cr_ship_68 : decode b_cr_ship 68 = .ok (.invokevirtual 89, 3) := by decide +kernel
theorem d_cr_ship_71 : decode b_cr_ship 71 = .ok (.ireturn, 1) := by decide +kernel
theorem d_cr_route_0 : decode b_cr_route 0 = .ok (.aload_n 0, 1) := by decide +kernel
theorem d_cr_route_1 : decode b_cr_route 1 = .ok (.iload_n 1, 1) := by decide +kernel
theorem d_cr_route_2 : decode b_cr_route 2 = .ok (.iload_n 2, 1) := by decide +kernel
theorem d_cr_route_3 : decode b_cr_route 3 = .ok (.iload_n 3, 1) := by decide +kernel
theorem d_cr_route_4 : decode b_cr_route 4 = .ok (.invokevirtual 92, 3) := by decide +kernel
theorem d_cr_route_7 : decode b_cr_route 7 = .ok (.ifCond .eq 13, 3) := by decide +kernel
theorem d_cr_route_10 : decode b_cr_route 10 = .ok (.iload 4, 2) := by decide +kernel
theorem d_cr_route_12 : decode b_cr_route 12 = .ok (.iconst 0, 1) := by decide +kernel
theorem d_cr_route_13 : decode b_cr_route 13 = .ok (.iconst 2, 1) := by decide +kernel
theorem d_cr_route_14 : decode b_cr_route 14 = .ok (.invokestatic 56, 3) := by decide +kernel
theorem d_cr_route_17 : decode b_cr_route 17 = .ok (.ifCond .ne 13, 3) := by decide +kernel
theorem d_cr_route_20 : decode b_cr_route 20 = .ok (.new 49, 3) := by decide +kernel
theorem d_cr_route_23 : decode b_cr_route 23 = .ok (.dup, 1) := by decide +kernel
theorem d_cr_route_24 : decode b_cr_route 24 = .ok (.ldc 95, 2) := by decide +kernel
theorem d_cr_route_26 : decode b_cr_route 26 = .ok (.invokespecial 53, 3) := by decide +kernel
theorem d_cr_route_29 : decode b_cr_route 29 = .ok (.athrow, 1) := by decide +kernel
theorem d_cr_route_30 : decode b_cr_route 30 = .ok (.aload_n 0, 1) := by decide +kernel
theorem d_cr_route_31 : decode b_cr_route 31 = .ok (.iload_n 1, 1) := by decide +kernel
theorem d_cr_route_32 : decode b_cr_route 32 = .ok (.iload_n 2, 1) := by decide +kernel
theorem d_cr_route_33 : decode b_cr_route 33 = .ok (.iload_n 3, 1) := by decide +kernel
theorem d_cr_route_34 : decode b_cr_route 34 = .ok (.invokevirtual 97, 3) := by decide +kernel
theorem d_cr_route_37 : decode b_cr_route 37 = .ok (.ifCond .ne 5, 3) := by decide +kernel
theorem d_cr_route_40 : decode b_cr_route 40 = .ok (.iconst (-1), 1) := by decide +kernel
theorem d_cr_route_41 : decode b_cr_route 41 = .ok (.ireturn, 1) := by decide +kernel
theorem d_cr_route_42 : decode b_cr_route 42 = .ok (.iload 4, 2) := by decide +kernel
theorem d_cr_route_44 : decode b_cr_route 44 = .ok (.lookupswitch 45 #[(0, 28), (1, 35)], 28) := by decide +kernel
theorem d_cr_route_72 : decode b_cr_route 72 = .ok (.aload_n 0, 1) := by decide +kernel
theorem d_cr_route_73 : decode b_cr_route 73 = .ok (.getfield 30, 3) := by decide +kernel
theorem d_cr_route_76 : decode b_cr_route 76 = .ok (.iload_n 2, 1) := by decide +kernel
theorem d_cr_route_77 : decode b_cr_route 77 = .ok (.iaload, 1) := by decide +kernel
theorem d_cr_route_78 : decode b_cr_route 78 = .ok (.ireturn, 1) := by decide +kernel
theorem d_cr_route_79 : decode b_cr_route 79 = .ok (.aload_n 0, 1) := by decide +kernel
theorem d_cr_route_80 : decode b_cr_route 80 = .ok (.getfield 26, 3) := by decide +kernel
theorem d_cr_route_83 : decode b_cr_route 83 = .ok (.iconst 0, 1) := by decide +kernel
theorem d_cr_route_84 : decode b_cr_route 84 = .ok (.iconst 0, 1) := by decide +kernel
theorem d_cr_route_85 : decode b_cr_route 85 = .ok (.invokevirtual 100, 3) := by decide +kernel
theorem d_cr_route_88 : decode b_cr_route 88 = .ok (.ireturn, 1) := by decide +kernel
theorem d_cr_route_89 : decode b_cr_route 89 = .ok (.aload_n 0, 1) := by decide +kernel
theorem d_cr_route_90 : decode b_cr_route 90 = .ok (.getfield 26, 3) := by decide +kernel
theorem d_cr_route_93 : decode b_cr_route 93 = .ok (.getfield 104, 3) := by decide +kernel
theorem d_cr_route_96 : decode b_cr_route 96 = .ok (.iconst 0, 1) := by decide +kernel
theorem d_cr_route_97 : decode b_cr_route 97 = .ok (.iaload, 1) := by decide +kernel
theorem d_cr_route_98 : decode b_cr_route 98 = .ok (.ireturn, 1) := by decide +kernel
theorem d_cr_isVoyage_0 : decode b_cr_isVoyage 0 = .ok (.aload_n 0, 1) := by decide +kernel
theorem d_cr_isVoyage_1 : decode b_cr_isVoyage 1 = .ok (.getfield 19, 3) := by decide +kernel
theorem d_cr_isVoyage_4 : decode b_cr_isVoyage 4 = .ok (.iload_n 1, 1) := by decide +kernel
theorem d_cr_isVoyage_5 : decode b_cr_isVoyage 5 = .ok (.invokevirtual 185, 3) := by decide +kernel
theorem d_cr_isVoyage_8 : decode b_cr_isVoyage 8 = .ok (.ifCond .eq 21, 3) := by decide +kernel
theorem d_cr_isVoyage_11 : decode b_cr_isVoyage 11 = .ok (.iload_n 2, 1) := by decide +kernel
theorem d_cr_isVoyage_12 : decode b_cr_isVoyage 12 = .ok (.invokestatic 45, 3) := by decide +kernel
theorem d_cr_isVoyage_15 : decode b_cr_isVoyage 15 = .ok (.ifCond .eq 14, 3) := by decide +kernel
theorem d_cr_isVoyage_18 : decode b_cr_isVoyage 18 = .ok (.iload_n 3, 1) := by decide +kernel
theorem d_cr_isVoyage_19 : decode b_cr_isVoyage 19 = .ok (.invokestatic 45, 3) := by decide +kernel
theorem d_cr_isVoyage_22 : decode b_cr_isVoyage 22 = .ok (.ifCond .eq 7, 3) := by decide +kernel
theorem d_cr_isVoyage_25 : decode b_cr_isVoyage 25 = .ok (.iconst 1, 1) := by decide +kernel
theorem d_cr_isVoyage_26 : decode b_cr_isVoyage 26 = .ok (.goto 4, 3) := by decide +kernel
theorem d_cr_isVoyage_29 : decode b_cr_isVoyage 29 = .ok (.iconst 0, 1) := by decide +kernel
theorem d_cr_isVoyage_30 : decode b_cr_isVoyage 30 = .ok (.ireturn, 1) := by decide +kernel
theorem d_cr_planRoute_0 : decode b_cr_planRoute 0 = .ok (.aload_n 0, 1) := by decide +kernel
theorem d_cr_planRoute_1 : decode b_cr_planRoute 1 = .ok (.getfield 26, 3) := by decide +kernel
theorem d_cr_planRoute_4 : decode b_cr_planRoute 4 = .ok (.iload_n 1, 1) := by decide +kernel
theorem d_cr_planRoute_5 : decode b_cr_planRoute 5 = .ok (.invokevirtual 186, 3) := by decide +kernel
theorem d_cr_planRoute_8 : decode b_cr_planRoute 8 = .ok (.iload_n 2, 1) := by decide +kernel
theorem d_cr_planRoute_9 : decode b_cr_planRoute 9 = .ok (.iload_n 3, 1) := by decide +kernel
theorem d_cr_planRoute_10 : decode b_cr_planRoute 10 = .ok (.if_icmp .ne 5, 3) := by decide +kernel
theorem d_cr_planRoute_13 : decode b_cr_planRoute 13 = .ok (.iconst 0, 1) := by decide +kernel
theorem d_cr_planRoute_14 : decode b_cr_planRoute 14 = .ok (.ireturn, 1) := by decide +kernel
theorem d_cr_planRoute_15 : decode b_cr_planRoute 15 = .ok (.aload_n 0, 1) := by decide +kernel
theorem d_cr_planRoute_16 : decode b_cr_planRoute 16 = .ok (.iload_n 1, 1) := by decide +kernel
theorem d_cr_planRoute_17 : decode b_cr_planRoute 17 = .ok (.iload_n 3, 1) := by decide +kernel
theorem d_cr_planRoute_18 : decode b_cr_planRoute 18 = .ok (.invokevirtual 190, 3) := by decide +kernel
theorem d_cr_planRoute_21 : decode b_cr_planRoute 21 = .ok (.iload_n 2, 1) := by decide +kernel
theorem d_cr_planRoute_22 : decode b_cr_planRoute 22 = .ok (.istore 4, 2) := by decide +kernel
theorem d_cr_planRoute_24 : decode b_cr_planRoute 24 = .ok (.iconst 0, 1) := by decide +kernel
theorem d_cr_planRoute_25 : decode b_cr_planRoute 25 = .ok (.istore 5, 2) := by decide +kernel
theorem d_cr_planRoute_27 : decode b_cr_planRoute 27 = .ok (.iload 5, 2) := by decide +kernel
theorem d_cr_planRoute_29 : decode b_cr_planRoute 29 = .ok (.bipush 7, 2) := by decide +kernel
theorem d_cr_planRoute_31 : decode b_cr_planRoute 31 = .ok (.if_icmp .ge 81, 3) := by decide +kernel
theorem d_cr_planRoute_34 : decode b_cr_planRoute 34 = .ok (.iload 4, 2) := by decide +kernel
theorem d_cr_planRoute_36 : decode b_cr_planRoute 36 = .ok (.iload_n 3, 1) := by decide +kernel
theorem d_cr_planRoute_37 : decode b_cr_planRoute 37 = .ok (.if_icmp .eq 75, 3) := by decide +kernel
theorem d_cr_planRoute_40 : decode b_cr_planRoute 40 = .ok (.aload_n 0, 1) := by decide +kernel
theorem d_cr_planRoute_41 : decode b_cr_planRoute 41 = .ok (.iload_n 1, 1) := by decide +kernel
theorem d_cr_planRoute_42 : decode b_cr_planRoute 42 = .ok (.iload 4, 2) := by decide +kernel
theorem d_cr_planRoute_44 : decode b_cr_planRoute 44 = .ok (.invokevirtual 194, 3) := by decide +kernel
theorem d_cr_planRoute_47 : decode b_cr_planRoute 47 = .ok (.istore 6, 2) := by decide +kernel
theorem d_cr_planRoute_49 : decode b_cr_planRoute 49 = .ok (.iload 6, 2) := by decide +kernel
theorem d_cr_planRoute_51 : decode b_cr_planRoute 51 = .ok (.iconst (-1), 1) := by decide +kernel
theorem d_cr_planRoute_52 : decode b_cr_planRoute 52 = .ok (.if_icmp .ne 5, 3) := by decide +kernel
theorem d_cr_planRoute_55 : decode b_cr_planRoute 55 = .ok (.iconst 0, 1) := by decide +kernel
theorem d_cr_planRoute_56 : decode b_cr_planRoute 56 = .ok (.ireturn, 1) := by decide +kernel
theorem d_cr_planRoute_57 : decode b_cr_planRoute 57 = .ok (.aload_n 0, 1) := by decide +kernel
theorem d_cr_planRoute_58 : decode b_cr_planRoute 58 = .ok (.getfield 26, 3) := by decide +kernel
theorem d_cr_planRoute_61 : decode b_cr_planRoute 61 = .ok (.iload 6, 2) := by decide +kernel
theorem d_cr_planRoute_63 : decode b_cr_planRoute 63 = .ok (.aload_n 0, 1) := by decide +kernel
theorem d_cr_planRoute_64 : decode b_cr_planRoute 64 = .ok (.getfield 12, 3) := by decide +kernel
theorem d_cr_planRoute_67 : decode b_cr_planRoute 67 = .ok (.getfield 197, 3) := by decide +kernel
theorem d_cr_planRoute_70 : decode b_cr_planRoute 70 = .ok (.iload 6, 2) := by decide +kernel
theorem d_cr_planRoute_72 : decode b_cr_planRoute 72 = .ok (.iaload, 1) := by decide +kernel
theorem d_cr_planRoute_73 : decode b_cr_planRoute 73 = .ok (.iload 4, 2) := by decide +kernel
theorem d_cr_planRoute_75 : decode b_cr_planRoute 75 = .ok (.if_icmp .ne 7, 3) := by decide +kernel
theorem d_cr_planRoute_78 : decode b_cr_planRoute 78 = .ok (.iconst 1, 1) := by decide +kernel
theorem d_cr_planRoute_79 : decode b_cr_planRoute 79 = .ok (.goto 4, 3) := by decide +kernel
theorem d_cr_planRoute_82 : decode b_cr_planRoute 82 = .ok (.iconst 0, 1) := by decide +kernel
theorem d_cr_planRoute_83 : decode b_cr_planRoute 83 = .ok (.aload_n 0, 1) := by decide +kernel
theorem d_cr_planRoute_84 : decode b_cr_planRoute 84 = .ok (.iload_n 1, 1) := by decide +kernel
theorem d_cr_planRoute_85 : decode b_cr_planRoute 85 = .ok (.iload 6, 2) := by decide +kernel
theorem d_cr_planRoute_87 : decode b_cr_planRoute 87 = .ok (.invokevirtual 200, 3) := by decide +kernel
theorem d_cr_planRoute_90 : decode b_cr_planRoute 90 = .ok (.invokevirtual 203, 3) := by decide +kernel
theorem d_cr_planRoute_93 : decode b_cr_planRoute 93 = .ok (.aload_n 0, 1) := by decide +kernel
theorem d_cr_planRoute_94 : decode b_cr_planRoute 94 = .ok (.getfield 12, 3) := by decide +kernel
theorem d_cr_planRoute_97 : decode b_cr_planRoute 97 = .ok (.iload 6, 2) := by decide +kernel
theorem d_cr_planRoute_99 : decode b_cr_planRoute 99 = .ok (.iload 4, 2) := by decide +kernel
theorem d_cr_planRoute_101 : decode b_cr_planRoute 101 = .ok (.invokevirtual 207, 3) := by decide +kernel
theorem d_cr_planRoute_104 : decode b_cr_planRoute 104 = .ok (.istore 4, 2) := by decide +kernel
theorem d_cr_planRoute_106 : decode b_cr_planRoute 106 = .ok (.iinc 5 1, 3) := by decide +kernel
theorem d_cr_planRoute_109 : decode b_cr_planRoute 109 = .ok (.goto (-82), 3) := by decide +kernel
theorem d_cr_planRoute_112 : decode b_cr_planRoute 112 = .ok (.iload 4, 2) := by decide +kernel
theorem d_cr_planRoute_114 : decode b_cr_planRoute 114 = .ok (.iload_n 3, 1) := by decide +kernel
theorem d_cr_planRoute_115 : decode b_cr_planRoute 115 = .ok (.if_icmp .ne 7, 3) := by decide +kernel
theorem d_cr_planRoute_118 : decode b_cr_planRoute 118 = .ok (.iconst 1, 1) := by decide +kernel
theorem d_cr_planRoute_119 : decode b_cr_planRoute 119 = .ok (.goto 4, 3) := by decide +kernel
theorem d_cr_planRoute_122 : decode b_cr_planRoute 122 = .ok (.iconst 0, 1) := by decide +kernel
theorem d_cr_planRoute_123 : decode b_cr_planRoute 123 = .ok (.ireturn, 1) := by decide +kernel
theorem d_cr_measureTimeLeft_0 : decode b_cr_measureTimeLeft 0 = .ok (.iconst 0, 1) := by decide +kernel
theorem d_cr_measureTimeLeft_1 : decode b_cr_measureTimeLeft 1 = .ok (.istore_n 3, 1) := by decide +kernel
theorem d_cr_measureTimeLeft_2 : decode b_cr_measureTimeLeft 2 = .ok (.iload_n 3, 1) := by decide +kernel
theorem d_cr_measureTimeLeft_3 : decode b_cr_measureTimeLeft 3 = .ok (.bipush 8, 2) := by decide +kernel
theorem d_cr_measureTimeLeft_5 : decode b_cr_measureTimeLeft 5 = .ok (.if_icmp .ge 26, 3) := by decide +kernel
theorem d_cr_measureTimeLeft_8 : decode b_cr_measureTimeLeft 8 = .ok (.aload_n 0, 1) := by decide +kernel
theorem d_cr_measureTimeLeft_9 : decode b_cr_measureTimeLeft 9 = .ok (.getfield 30, 3) := by decide +kernel
theorem d_cr_measureTimeLeft_12 : decode b_cr_measureTimeLeft 12 = .ok (.iload_n 3, 1) := by decide +kernel
theorem d_cr_measureTimeLeft_13 : decode b_cr_measureTimeLeft 13 = .ok (.iload_n 3, 1) := by decide +kernel
theorem d_cr_measureTimeLeft_14 : decode b_cr_measureTimeLeft 14 = .ok (.iload_n 2, 1) := by decide +kernel
theorem d_cr_measureTimeLeft_15 : decode b_cr_measureTimeLeft 15 = .ok (.if_icmp .ne 7, 3) := by decide +kernel
theorem d_cr_measureTimeLeft_18 : decode b_cr_measureTimeLeft 18 = .ok (.iconst 0, 1) := by decide +kernel
theorem d_cr_measureTimeLeft_19 : decode b_cr_measureTimeLeft 19 = .ok (.goto 5, 3) := by decide +kernel
theorem d_cr_measureTimeLeft_22 : decode b_cr_measureTimeLeft 22 = .ok (.ldc 210, 2) := by decide +kernel
theorem d_cr_measureTimeLeft_24 : decode b_cr_measureTimeLeft 24 = .ok (.iastore, 1) := by decide +kernel
theorem d_cr_measureTimeLeft_25 : decode b_cr_measureTimeLeft 25 = .ok (.iinc 3 1, 3) := by decide +kernel
theorem d_cr_measureTimeLeft_28 : decode b_cr_measureTimeLeft 28 = .ok (.goto (-26), 3) := by decide +kernel
theorem d_cr_measureTimeLeft_31 : decode b_cr_measureTimeLeft 31 = .ok (.iconst 0, 1) := by decide +kernel
theorem d_cr_measureTimeLeft_32 : decode b_cr_measureTimeLeft 32 = .ok (.istore_n 3, 1) := by decide +kernel
theorem d_cr_measureTimeLeft_33 : decode b_cr_measureTimeLeft 33 = .ok (.iload_n 3, 1) := by decide +kernel
theorem d_cr_measureTimeLeft_34 : decode b_cr_measureTimeLeft 34 = .ok (.bipush 7, 2) := by decide +kernel
theorem d_cr_measureTimeLeft_36 : decode b_cr_measureTimeLeft 36 = .ok (.if_icmp .ge 53, 3) := by decide +kernel
theorem d_cr_measureTimeLeft_39 : decode b_cr_measureTimeLeft 39 = .ok (.iconst 0, 1) := by decide +kernel
theorem d_cr_measureTimeLeft_40 : decode b_cr_measureTimeLeft 40 = .ok (.istore 4, 2) := by decide +kernel
theorem d_cr_measureTimeLeft_42 : decode b_cr_measureTimeLeft 42 = .ok (.iload 4, 2) := by decide +kernel
theorem d_cr_measureTimeLeft_44 : decode b_cr_measureTimeLeft 44 = .ok (.aload_n 0, 1) := by decide +kernel
theorem d_cr_measureTimeLeft_45 : decode b_cr_measureTimeLeft 45 = .ok (.getfield 12, 3) := by decide +kernel
theorem d_cr_measureTimeLeft_48 : decode b_cr_measureTimeLeft 48 = .ok (.getfield 62, 3) := by decide +kernel
theorem d_cr_measureTimeLeft_51 : decode b_cr_measureTimeLeft 51 = .ok (.if_icmp .ge 32, 3) := by decide +kernel
theorem d_cr_measureTimeLeft_54 : decode b_cr_measureTimeLeft 54 = .ok (.aload_n 0, 1) := by decide +kernel
theorem d_cr_measureTimeLeft_55 : decode b_cr_measureTimeLeft 55 = .ok (.iload_n 1, 1) := by decide +kernel
theorem d_cr_measureTimeLeft_56 : decode b_cr_measureTimeLeft 56 = .ok (.iload 4, 2) := by decide +kernel
theorem d_cr_measureTimeLeft_58 : decode b_cr_measureTimeLeft 58 = .ok (.invokevirtual 211, 3) := by decide +kernel
theorem d_cr_measureTimeLeft_61 : decode b_cr_measureTimeLeft 61 = .ok (.ifCond .eq 16, 3) := by decide +kernel
theorem d_cr_measureTimeLeft_64 : decode b_cr_measureTimeLeft 64 = .ok (.aload_n 0, 1) := by decide +kernel
theorem d_cr_measureTimeLeft_65 : decode b_cr_measureTimeLeft 65 = .ok (.iload 4, 2) := by decide +kernel
theorem d_cr_measureTimeLeft_67 : decode b_cr_measureTimeLeft 67 = .ok (.aload_n 0, 1) := by decide +kernel
theorem d_cr_measureTimeLeft_68 : decode b_cr_measureTimeLeft 68 = .ok (.iload_n 1, 1) := by decide +kernel
theorem d_cr_measureTimeLeft_69 : decode b_cr_measureTimeLeft 69 = .ok (.iload 4, 2) := by decide +kernel
theorem d_cr_measureTimeLeft_71 : decode b_cr_measureTimeLeft 71 = .ok (.invokevirtual 200, 3) := by decide +kernel
theorem d_cr_measureTimeLeft_74 : decode b_cr_measureTimeLeft 74 = .ok (.invokevirtual 214, 3) := by decide +kernel
theorem d_cr_measureTimeLeft_77 : decode b_cr_measureTimeLeft 77 = .ok (.iinc 4 1, 3) := by decide +kernel
theorem d_cr_measureTimeLeft_80 : decode b_cr_measureTimeLeft 80 = .ok (.goto (-38), 3) := by decide +kernel
theorem d_cr_measureTimeLeft_83 : decode b_cr_measureTimeLeft 83 = .ok (.iinc 3 1, 3) := by decide +kernel
theorem d_cr_measureTimeLeft_86 : decode b_cr_measureTimeLeft 86 = .ok (.goto (-53), 3) := by decide +kernel
theorem d_cr_measureTimeLeft_89 : decode b_cr_measureTimeLeft 89 = .ok (.return_, 1) := by decide +kernel
theorem d_cr_fits_0 : decode b_cr_fits 0 = .ok (.aload_n 0, 1) := by decide +kernel
theorem d_cr_fits_1 : decode b_cr_fits 1 = .ok (.getfield 12, 3) := by decide +kernel
theorem d_cr_fits_4 : decode b_cr_fits 4 = .ok (.getfield 220, 3) := by decide +kernel
theorem d_cr_fits_7 : decode b_cr_fits 7 = .ok (.iload_n 2, 1) := by decide +kernel
theorem d_cr_fits_8 : decode b_cr_fits 8 = .ok (.iaload, 1) := by decide +kernel
theorem d_cr_fits_9 : decode b_cr_fits 9 = .ok (.aload_n 0, 1) := by decide +kernel
theorem d_cr_fits_10 : decode b_cr_fits 10 = .ok (.getfield 19, 3) := by decide +kernel
theorem d_cr_fits_13 : decode b_cr_fits 13 = .ok (.getfield 223, 3) := by decide +kernel
theorem d_cr_fits_16 : decode b_cr_fits 16 = .ok (.iload_n 1, 1) := by decide +kernel
theorem d_cr_fits_17 : decode b_cr_fits 17 = .ok (.iaload, 1) := by decide +kernel
theorem d_cr_fits_18 : decode b_cr_fits 18 = .ok (.if_icmp .lt 7, 3) := by decide +kernel
theorem d_cr_fits_21 : decode b_cr_fits 21 = .ok (.iconst 1, 1) := by decide +kernel
theorem d_cr_fits_22 : decode b_cr_fits 22 = .ok (.goto 4, 3) := by decide +kernel
theorem d_cr_fits_25 : decode b_cr_fits 25 = .ok (.iconst 0, 1) := by decide +kernel
theorem d_cr_fits_26 : decode b_cr_fits 26 = .ok (.ireturn, 1) := by decide +kernel
theorem d_cr_travelTime_0 : decode b_cr_travelTime 0 = .ok (.aload_n 0, 1) := by decide +kernel
theorem d_cr_travelTime_1 : decode b_cr_travelTime 1 = .ok (.getfield 19, 3) := by decide +kernel
theorem d_cr_travelTime_4 : decode b_cr_travelTime 4 = .ok (.getfield 224, 3) := by decide +kernel
theorem d_cr_travelTime_7 : decode b_cr_travelTime 7 = .ok (.iload_n 1, 1) := by decide +kernel
theorem d_cr_travelTime_8 : decode b_cr_travelTime 8 = .ok (.iaload, 1) := by decide +kernel
theorem d_cr_travelTime_9 : decode b_cr_travelTime 9 = .ok (.istore_n 3, 1) := by decide +kernel
theorem d_cr_travelTime_10 : decode b_cr_travelTime 10 = .ok (.iload_n 3, 1) := by decide +kernel
theorem d_cr_travelTime_11 : decode b_cr_travelTime 11 = .ok (.iconst 1, 1) := by decide +kernel
theorem d_cr_travelTime_12 : decode b_cr_travelTime 12 = .ok (.if_icmp .ge 6, 3) := by decide +kernel
theorem d_cr_travelTime_15 : decode b_cr_travelTime 15 = .ok (.ldc 210, 2) := by decide +kernel
theorem d_cr_travelTime_17 : decode b_cr_travelTime 17 = .ok (.ireturn, 1) := by decide +kernel
theorem d_cr_travelTime_18 : decode b_cr_travelTime 18 = .ok (.aload_n 0, 1) := by decide +kernel
theorem d_cr_travelTime_19 : decode b_cr_travelTime 19 = .ok (.getfield 12, 3) := by decide +kernel
theorem d_cr_travelTime_22 : decode b_cr_travelTime 22 = .ok (.getfield 227, 3) := by decide +kernel
theorem d_cr_travelTime_25 : decode b_cr_travelTime 25 = .ok (.iload_n 2, 1) := by decide +kernel
theorem d_cr_travelTime_26 : decode b_cr_travelTime 26 = .ok (.iaload, 1) := by decide +kernel
theorem d_cr_travelTime_27 : decode b_cr_travelTime 27 = .ok (.iload_n 3, 1) := by decide +kernel
theorem d_cr_travelTime_28 : decode b_cr_travelTime 28 = .ok (.iadd, 1) := by decide +kernel
theorem d_cr_travelTime_29 : decode b_cr_travelTime 29 = .ok (.iconst 1, 1) := by decide +kernel
theorem d_cr_travelTime_30 : decode b_cr_travelTime 30 = .ok (.isub, 1) := by decide +kernel
theorem d_cr_travelTime_31 : decode b_cr_travelTime 31 = .ok (.iload_n 3, 1) := by decide +kernel
theorem d_cr_travelTime_32 : decode b_cr_travelTime 32 = .ok (.idiv, 1) := by decide +kernel
theorem d_cr_travelTime_33 : decode b_cr_travelTime 33 = .ok (.ireturn, 1) := by decide +kernel
theorem d_cr_shortenBy_0 : decode b_cr_shortenBy 0 = .ok (.aload_n 0, 1) := by decide +kernel
theorem d_cr_shortenBy_1 : decode b_cr_shortenBy 1 = .ok (.getfield 12, 3) := by decide +kernel
theorem d_cr_shortenBy_4 : decode b_cr_shortenBy 4 = .ok (.getfield 197, 3) := by decide +kernel
theorem d_cr_shortenBy_7 : decode b_cr_shortenBy 7 = .ok (.iload_n 1, 1) := by decide +kernel
theorem d_cr_shortenBy_8 : decode b_cr_shortenBy 8 = .ok (.iaload, 1) := by decide +kernel
theorem d_cr_shortenBy_9 : decode b_cr_shortenBy 9 = .ok (.istore_n 3, 1) := by decide +kernel
theorem d_cr_shortenBy_10 : decode b_cr_shortenBy 10 = .ok (.aload_n 0, 1) := by decide +kernel
theorem d_cr_shortenBy_11 : decode b_cr_shortenBy 11 = .ok (.getfield 12, 3) := by decide +kernel
theorem d_cr_shortenBy_14 : decode b_cr_shortenBy 14 = .ok (.getfield 217, 3) := by decide +kernel
theorem d_cr_shortenBy_17 : decode b_cr_shortenBy 17 = .ok (.iload_n 1, 1) := by decide +kernel
theorem d_cr_shortenBy_18 : decode b_cr_shortenBy 18 = .ok (.iaload, 1) := by decide +kernel
theorem d_cr_shortenBy_19 : decode b_cr_shortenBy 19 = .ok (.istore 4, 2) := by decide +kernel
theorem d_cr_shortenBy_21 : decode b_cr_shortenBy 21 = .ok (.aload_n 0, 1) := by decide +kernel
theorem d_cr_shortenBy_22 : decode b_cr_shortenBy 22 = .ok (.getfield 30, 3) := by decide +kernel
theorem d_cr_shortenBy_25 : decode b_cr_shortenBy 25 = .ok (.iload_n 3, 1) := by decide +kernel
theorem d_cr_shortenBy_26 : decode b_cr_shortenBy 26 = .ok (.aload_n 0, 1) := by decide +kernel
theorem d_cr_shortenBy_27 : decode b_cr_shortenBy 27 = .ok (.getfield 30, 3) := by decide +kernel
theorem d_cr_shortenBy_30 : decode b_cr_shortenBy 30 = .ok (.iload_n 3, 1) := by decide +kernel
theorem d_cr_shortenBy_31 : decode b_cr_shortenBy 31 = .ok (.iaload, 1) := by decide +kernel
theorem d_cr_shortenBy_32 : decode b_cr_shortenBy 32 = .ok (.aload_n 0, 1) := by decide +kernel
theorem d_cr_shortenBy_33 : decode b_cr_shortenBy 33 = .ok (.getfield 30, 3) := by decide +kernel
theorem d_cr_shortenBy_36 : decode b_cr_shortenBy 36 = .ok (.iload 4, 2) := by decide +kernel
theorem d_cr_shortenBy_38 : decode b_cr_shortenBy 38 = .ok (.iaload, 1) := by decide +kernel
theorem d_cr_shortenBy_39 : decode b_cr_shortenBy 39 = .ok (.iload_n 2, 1) := by decide +kernel
theorem d_cr_shortenBy_40 : decode b_cr_shortenBy 40 = .ok (.iadd, 1) := by decide +kernel
theorem d_cr_shortenBy_41 : decode b_cr_shortenBy 41 = .ok (.invokestatic 126, 3) := by decide +kernel
theorem d_cr_shortenBy_44 : decode b_cr_shortenBy 44 = .ok (.iastore, 1) := by decide +kernel
theorem d_cr_shortenBy_45 : decode b_cr_shortenBy 45 = .ok (.aload_n 0, 1) := by decide +kernel
theorem d_cr_shortenBy_46 : decode b_cr_shortenBy 46 = .ok (.getfield 30, 3) := by decide +kernel
theorem d_cr_shortenBy_49 : decode b_cr_shortenBy 49 = .ok (.iload 4, 2) := by decide +kernel
theorem d_cr_shortenBy_51 : decode b_cr_shortenBy 51 = .ok (.aload_n 0, 1) := by decide +kernel
theorem d_cr_shortenBy_52 : decode b_cr_shortenBy 52 = .ok (.getfield 30, 3) := by decide +kernel
theorem d_cr_shortenBy_55 : decode b_cr_shortenBy 55 = .ok (.iload 4, 2) := by decide +kernel
theorem d_cr_shortenBy_57 : decode b_cr_shortenBy 57 = .ok (.iaload, 1) := by decide +kernel
theorem d_cr_shortenBy_58 : decode b_cr_shortenBy 58 = .ok (.aload_n 0, 1) := by decide +kernel
theorem d_cr_shortenBy_59 : decode b_cr_shortenBy 59 = .ok (.getfield 30, 3) := by decide +kernel
theorem d_cr_shortenBy_62 : decode b_cr_shortenBy 62 = .ok (.iload_n 3, 1) := by decide +kernel
theorem d_cr_shortenBy_63 : decode b_cr_shortenBy 63 = .ok (.iaload, 1) := by decide +kernel
theorem d_cr_shortenBy_64 : decode b_cr_shortenBy 64 = .ok (.iload_n 2, 1) := by decide +kernel
theorem d_cr_shortenBy_65 : decode b_cr_shortenBy 65 = .ok (.iadd, 1) := by decide +kernel
theorem d_cr_shortenBy_66 : decode b_cr_shortenBy 66 = .ok (.invokestatic 126, 3) := by decide +kernel
theorem d_cr_shortenBy_69 : decode b_cr_shortenBy 69 = .ok (.iastore, 1) := by decide +kernel
theorem d_cr_shortenBy_70 : decode b_cr_shortenBy 70 = .ok (.return_, 1) := by decide +kernel
theorem d_cr_nextPiece_0 : decode b_cr_nextPiece 0 = .ok (.aload_n 0, 1) := by decide +kernel
theorem d_cr_nextPiece_1 : decode b_cr_nextPiece 1 = .ok (.getfield 30, 3) := by decide +kernel
theorem d_cr_nextPiece_4 : decode b_cr_nextPiece 4 = .ok (.iload_n 2, 1) := by decide +kernel
theorem d_cr_nextPiece_5 : decode b_cr_nextPiece 5 = .ok (.iaload, 1) := by decide +kernel
theorem d_cr_nextPiece_6 : decode b_cr_nextPiece 6 = .ok (.ldc 210, 2) := by decide +kernel
theorem d_cr_nextPiece_8 : decode b_cr_nextPiece 8 = .ok (.if_icmp .lt 5, 3) := by decide +kernel
theorem d_cr_nextPiece_11 : decode b_cr_nextPiece 11 = .ok (.iconst (-1), 1) := by decide +kernel
theorem d_cr_nextPiece_12 : decode b_cr_nextPiece 12 = .ok (.ireturn, 1) := by decide +kernel
theorem d_cr_nextPiece_13 : decode b_cr_nextPiece 13 = .ok (.iconst 0, 1) := by decide +kernel
theorem d_cr_nextPiece_14 : decode b_cr_nextPiece 14 = .ok (.istore_n 3, 1) := by decide +kernel
theorem d_cr_nextPiece_15 : decode b_cr_nextPiece 15 = .ok (.iload_n 3, 1) := by decide +kernel
theorem d_cr_nextPiece_16 : decode b_cr_nextPiece 16 = .ok (.aload_n 0, 1) := by decide +kernel
theorem d_cr_nextPiece_17 : decode b_cr_nextPiece 17 = .ok (.getfield 12, 3) := by decide +kernel
theorem d_cr_nextPiece_20 : decode b_cr_nextPiece 20 = .ok (.getfield 62, 3) := by decide +kernel
theorem d_cr_nextPiece_23 : decode b_cr_nextPiece 23 = .ok (.if_icmp .ge 60, 3) := by decide +kernel
theorem d_cr_nextPiece_26 : decode b_cr_nextPiece 26 = .ok (.aload_n 0, 1) := by decide +kernel
theorem d_cr_nextPiece_27 : decode b_cr_nextPiece 27 = .ok (.getfield 12, 3) := by decide +kernel
theorem d_cr_nextPiece_30 : decode b_cr_nextPiece 30 = .ok (.iload_n 3, 1) := by decide +kernel
theorem d_cr_nextPiece_31 : decode b_cr_nextPiece 31 = .ok (.iload_n 2, 1) := by decide +kernel
theorem d_cr_nextPiece_32 : decode b_cr_nextPiece 32 = .ok (.invokevirtual 207, 3) := by decide +kernel
theorem d_cr_nextPiece_35 : decode b_cr_nextPiece 35 = .ok (.istore 4, 2) := by decide +kernel
theorem d_cr_nextPiece_37 : decode b_cr_nextPiece 37 = .ok (.iload 4, 2) := by decide +kernel
theorem d_cr_nextPiece_39 : decode b_cr_nextPiece 39 = .ok (.iconst (-1), 1) := by decide +kernel
theorem d_cr_nextPiece_40 : decode b_cr_nextPiece 40 = .ok (.if_icmp .eq 37, 3) := by decide +kernel
theorem d_cr_nextPiece_43 : decode b_cr_nextPiece 43 = .ok (.aload_n 0, 1) := by decide +kernel
theorem d_cr_nextPiece_44 : decode b_cr_nextPiece 44 = .ok (.iload_n 1, 1) := by decide +kernel
theorem d_cr_nextPiece_45 : decode b_cr_nextPiece 45 = .ok (.iload_n 3, 1) := by decide +kernel
theorem d_cr_nextPiece_46 : decode b_cr_nextPiece 46 = .ok (.invokevirtual 211, 3) := by decide +kernel
theorem d_cr_nextPiece_49 : decode b_cr_nextPiece 49 = .ok (.ifCond .eq 28, 3) := by decide +kernel
theorem d_cr_nextPiece_52 : decode b_cr_nextPiece 52 = .ok (.aload_n 0, 1) := by decide +kernel
theorem d_cr_nextPiece_53 : decode b_cr_nextPiece 53 = .ok (.getfield 30, 3) := by decide +kernel
theorem d_cr_nextPiece_56 : decode b_cr_nextPiece 56 = .ok (.iload_n 2, 1) := by decide +kernel
theorem d_cr_nextPiece_57 : decode b_cr_nextPiece 57 = .ok (.iaload, 1) := by decide +kernel
theorem d_cr_nextPiece_58 : decode b_cr_nextPiece 58 = .ok (.aload_n 0, 1) := by decide +kernel
theorem d_cr_nextPiece_59 : decode b_cr_nextPiece 59 = .ok (.iload_n 1, 1) := by decide +kernel
theorem d_cr_nextPiece_60 : decode b_cr_nextPiece 60 = .ok (.iload_n 3, 1) := by decide +kernel
theorem d_cr_nextPiece_61 : decode b_cr_nextPiece 61 = .ok (.invokevirtual 200, 3) := by decide +kernel
theorem d_cr_nextPiece_64 : decode b_cr_nextPiece 64 = .ok (.aload_n 0, 1) := by decide +kernel
theorem d_cr_nextPiece_65 : decode b_cr_nextPiece 65 = .ok (.getfield 30, 3) := by decide +kernel
theorem d_cr_nextPiece_68 : decode b_cr_nextPiece 68 = .ok (.iload 4, 2) := by decide +kernel
theorem d_cr_nextPiece_70 : decode b_cr_nextPiece 70 = .ok (.iaload, 1) := by decide +kernel
theorem d_cr_nextPiece_71 : decode b_cr_nextPiece 71 = .ok (.iadd, 1) := by decide +kernel
theorem d_cr_nextPiece_72 : decode b_cr_nextPiece 72 = .ok (.if_icmp .ne 5, 3) := by decide +kernel
theorem d_cr_nextPiece_75 : decode b_cr_nextPiece 75 = .ok (.iload_n 3, 1) := by decide +kernel
theorem d_cr_nextPiece_76 : decode b_cr_nextPiece 76 = .ok (.ireturn, 1) := by decide +kernel
theorem d_cr_nextPiece_77 : decode b_cr_nextPiece 77 = .ok (.iinc 3 1, 3) := by decide +kernel
theorem d_cr_nextPiece_80 : decode b_cr_nextPiece 80 = .ok (.goto (-65), 3) := by decide +kernel
theorem d_cr_nextPiece_83 : decode b_cr_nextPiece 83 = .ok (.iconst (-1), 1) := by decide +kernel
theorem d_cr_nextPiece_84 : decode b_cr_nextPiece 84 = .ok (.ireturn, 1) := by decide +kernel
theorem d_cr_ask_0 : decode b_cr_ask 0 = .ok (.aload_n 0, 1) := by decide +kernel
theorem d_cr_ask_1 : decode b_cr_ask 1 = .ok (.iload_n 1, 1) := by decide +kernel
theorem d_cr_ask_2 : decode b_cr_ask 2 = .ok (.iload_n 2, 1) := by decide +kernel
theorem d_cr_ask_3 : decode b_cr_ask 3 = .ok (.iload_n 3, 1) := by decide +kernel
theorem d_cr_ask_4 : decode b_cr_ask 4 = .ok (.invokevirtual 92, 3) := by decide +kernel
theorem d_cr_ask_7 : decode b_cr_ask 7 = .ok (.ifCond .eq 17, 3) := by decide +kernel
theorem d_cr_ask_10 : decode b_cr_ask 10 = .ok (.iload 4, 2) := by decide +kernel
theorem d_cr_ask_12 : decode b_cr_ask 12 = .ok (.aload_n 0, 1) := by decide +kernel
theorem d_cr_ask_13 : decode b_cr_ask 13 = .ok (.getfield 41, 3) := by decide +kernel
theorem d_cr_ask_16 : decode b_cr_ask 16 = .ok (.ldc 107, 2) := by decide +kernel
theorem d_cr_ask_18 : decode b_cr_ask 18 = .ok (.invokestatic 56, 3) := by decide +kernel
theorem d_cr_ask_21 : decode b_cr_ask 21 = .ok (.ifCond .ne 13, 3) := by decide +kernel
theorem d_cr_ask_24 : decode b_cr_ask 24 = .ok (.new 49, 3) := by decide +kernel
theorem d_cr_ask_27 : decode b_cr_ask 27 = .ok (.dup, 1) := by decide +kernel
theorem d_cr_ask_28 : decode b_cr_ask 28 = .ok (.ldc 108, 2) := by decide +kernel
theorem d_cr_ask_30 : decode b_cr_ask 30 = .ok (.invokespecial 53, 3) := by decide +kernel
theorem d_cr_ask_33 : decode b_cr_ask 33 = .ok (.athrow, 1) := by decide +kernel
theorem d_cr_ask_34 : decode b_cr_ask 34 = .ok (.aload_n 0, 1) := by decide +kernel
theorem d_cr_ask_35 : decode b_cr_ask 35 = .ok (.getfield 26, 3) := by decide +kernel
theorem d_cr_ask_38 : decode b_cr_ask 38 = .ok (.getfield 110, 3) := by decide +kernel
theorem d_cr_ask_41 : decode b_cr_ask 41 = .ok (.bipush 30, 2) := by decide +kernel
theorem d_cr_ask_43 : decode b_cr_ask 43 = .ok (.if_icmp .lt 13, 3) := by decide +kernel
theorem d_cr_ask_46 : decode b_cr_ask 46 = .ok (.new 65, 3) := by decide +kernel
theorem d_cr_ask_49 : decode b_cr_ask 49 = .ok (.dup, 1) := by decide +kernel
theorem d_cr_ask_50 : decode b_cr_ask 50 = .ok (.ldc 113, 2) := by decide +kernel
theorem d_cr_ask_52 : decode b_cr_ask 52 = .ok (.invokespecial 69, 3) := by decide +kernel
theorem d_cr_ask_55 : decode b_cr_ask 55 = .ok (.athrow, 1) := by decide +kernel
theorem d_cr_ask_56 : decode b_cr_ask 56 = .ok (.aload_n 0, 1) := by decide +kernel
theorem d_cr_ask_57 : decode b_cr_ask 57 = .ok (.iload_n 1, 1) := by decide +kernel
theorem d_cr_ask_58 : decode b_cr_ask 58 = .ok (.iload_n 2, 1) := by decide +kernel
theorem d_cr_ask_59 : decode b_cr_ask 59 = .ok (.iload_n 3, 1) := by decide +kernel
theorem d_cr_ask_60 : decode b_cr_ask 60 = .ok (.invokevirtual 97, 3) := by decide +kernel
theorem d_cr_ask_63 : decode b_cr_ask 63 = .ok (.ifCond .ne 5, 3) := by decide +kernel
theorem d_cr_ask_66 : decode b_cr_ask 66 = .ok (.iconst 0, 1) := by decide +kernel
theorem d_cr_ask_67 : decode b_cr_ask 67 = .ok (.ireturn, 1) := by decide +kernel
theorem d_cr_ask_68 : decode b_cr_ask 68 = .ok (.aload_n 0, 1) := by decide +kernel
theorem d_cr_ask_69 : decode b_cr_ask 69 = .ok (.getfield 26, 3) := by decide +kernel
theorem d_cr_ask_72 : decode b_cr_ask 72 = .ok (.getfield 115, 3) := by decide +kernel
theorem d_cr_ask_75 : decode b_cr_ask 75 = .ok (.iconst 0, 1) := by decide +kernel
theorem d_cr_ask_76 : decode b_cr_ask 76 = .ok (.iload 4, 2) := by decide +kernel
theorem d_cr_ask_78 : decode b_cr_ask 78 = .ok (.iastore, 1) := by decide +kernel
theorem d_cr_ask_79 : decode b_cr_ask 79 = .ok (.aload_n 0, 1) := by decide +kernel
theorem d_cr_ask_80 : decode b_cr_ask 80 = .ok (.iconst 0, 1) := by decide +kernel
theorem d_cr_ask_81 : decode b_cr_ask 81 = .ok (.invokevirtual 118, 3) := by decide +kernel
theorem d_cr_ask_84 : decode b_cr_ask 84 = .ok (.istore 5, 2) := by decide +kernel
theorem d_cr_ask_86 : decode b_cr_ask 86 = .ok (.iload 5, 2) := by decide +kernel
theorem d_cr_ask_88 : decode b_cr_ask 88 = .ok (.ifCond .ne 13, 3) := by decide +kernel
theorem d_cr_ask_91 : decode b_cr_ask 91 = .ok (.aload_n 0, 1) := by decide +kernel
theorem d_cr_ask_92 : decode b_cr_ask 92 = .ok (.getfield 26, 3) := by decide +kernel
theorem d_cr_ask_95 : decode b_cr_ask 95 = .ok (.invokevirtual 122, 3) := by decide +kernel
theorem d_cr_ask_98 : decode b_cr_ask 98 = .ok (.goto 7, 3) := by decide +kernel
theorem d_cr_ask_101 : decode b_cr_ask 101 = .ok (.iconst (-1), 1) := by decide +kernel
theorem d_cr_ask_102 : decode b_cr_ask 102 = .ok (.iload 5, 2) := by decide +kernel
theorem d_cr_ask_104 : decode b_cr_ask 104 = .ok (.isub, 1) := by decide +kernel
theorem d_cr_ask_105 : decode b_cr_ask 105 = .ok (.ireturn, 1) := by decide +kernel
theorem d_cr_firstBar_0 : decode b_cr_firstBar 0 = .ok (.iconst 0, 1) := by decide +kernel
theorem d_cr_firstBar_1 : decode b_cr_firstBar 1 = .ok (.istore_n 2, 1) := by decide +kernel
theorem d_cr_firstBar_2 : decode b_cr_firstBar 2 = .ok (.iload_n 2, 1) := by decide +kernel
theorem d_cr_firstBar_3 : decode b_cr_firstBar 3 = .ok (.aload_n 0, 1) := by decide +kernel
theorem d_cr_firstBar_4 : decode b_cr_firstBar 4 = .ok (.getfield 26, 3) := by decide +kernel
theorem d_cr_firstBar_7 : decode b_cr_firstBar 7 = .ok (.getfield 104, 3) := by decide +kernel
theorem d_cr_firstBar_10 : decode b_cr_firstBar 10 = .ok (.iload_n 1, 1) := by decide +kernel
theorem d_cr_firstBar_11 : decode b_cr_firstBar 11 = .ok (.iaload, 1) := by decide +kernel
theorem d_cr_firstBar_12 : decode b_cr_firstBar 12 = .ok (.if_icmp .ge 33, 3) := by decide +kernel
theorem d_cr_firstBar_15 : decode b_cr_firstBar 15 = .ok (.aload_n 0, 1) := by decide +kernel
theorem d_cr_firstBar_16 : decode b_cr_firstBar 16 = .ok (.iload_n 1, 1) := by decide +kernel
theorem d_cr_firstBar_17 : decode b_cr_firstBar 17 = .ok (.iload_n 2, 1) := by decide +kernel
theorem d_cr_firstBar_18 : decode b_cr_firstBar 18 = .ok (.invokevirtual 230, 3) := by decide +kernel
theorem d_cr_firstBar_21 : decode b_cr_firstBar 21 = .ok (.istore_n 3, 1) := by decide +kernel
theorem d_cr_firstBar_22 : decode b_cr_firstBar 22 = .ok (.iload_n 3, 1) := by decide +kernel
theorem d_cr_firstBar_23 : decode b_cr_firstBar 23 = .ok (.ifCond .ne 10, 3) := by decide +kernel
theorem d_cr_firstBar_26 : decode b_cr_firstBar 26 = .ok (.aload_n 0, 1) := by decide +kernel
theorem d_cr_firstBar_27 : decode b_cr_firstBar 27 = .ok (.iload_n 1, 1) := by decide +kernel
theorem d_cr_firstBar_28 : decode b_cr_firstBar 28 = .ok (.iload_n 2, 1) := by decide +kernel
theorem d_cr_firstBar_29 : decode b_cr_firstBar 29 = .ok (.invokevirtual 233, 3) := by decide +kernel
theorem d_cr_firstBar_32 : decode b_cr_firstBar 32 = .ok (.istore_n 3, 1) := by decide +kernel
theorem d_cr_firstBar_33 : decode b_cr_firstBar 33 = .ok (.iload_n 3, 1) := by decide +kernel
theorem d_cr_firstBar_34 : decode b_cr_firstBar 34 = .ok (.ifCond .eq 5, 3) := by decide +kernel
theorem d_cr_firstBar_37 : decode b_cr_firstBar 37 = .ok (.iload_n 3, 1) := by decide +kernel
theorem d_cr_firstBar_38 : decode b_cr_firstBar 38 = .ok (.ireturn, 1) := by decide +kernel
theorem d_cr_firstBar_39 : decode b_cr_firstBar 39 = .ok (.iinc 2 1, 3) := by decide +kernel
theorem d_cr_firstBar_42 : decode b_cr_firstBar 42 = .ok (.goto (-40), 3) := by decide +kernel
theorem d_cr_firstBar_45 : decode b_cr_firstBar 45 = .ok (.iconst 0, 1) := by decide +kernel
theorem d_cr_firstBar_46 : decode b_cr_firstBar 46 = .ok (.ireturn, 1) := by decide +kernel
theorem d_cr_barByPiece_0 : decode b_cr_barByPiece 0 = .ok (.aload_n 0, 1) := by decide +kernel
theorem d_cr_barByPiece_1 : decode b_cr_barByPiece 1 = .ok (.iload_n 1, 1) := by decide +kernel
theorem d_cr_barByPiece_2 : decode b_cr_barByPiece 2 = .ok (.iload_n 2, 1) := by decide +kernel
theorem d_cr_barByPiece_3 : decode b_cr_barByPiece 3 = .ok (.invokevirtual 236, 3) := by decide +kernel
theorem d_cr_barByPiece_6 : decode b_cr_barByPiece 6 = .ok (.ifCond .eq 5, 3) := by decide +kernel
theorem d_cr_barByPiece_9 : decode b_cr_barByPiece 9 = .ok (.iconst 1, 1) := by decide +kernel
theorem d_cr_barByPiece_10 : decode b_cr_barByPiece 10 = .ok (.ireturn, 1) := by decide +kernel
theorem d_cr_barByPiece_11 : decode b_cr_barByPiece 11 = .ok (.aload_n 0, 1) := by decide +kernel
theorem d_cr_barByPiece_12 : decode b_cr_barByPiece 12 = .ok (.iload_n 1, 1) := by decide +kernel
theorem d_cr_barByPiece_13 : decode b_cr_barByPiece 13 = .ok (.iload_n 2, 1) := by decide +kernel
theorem d_cr_barByPiece_14 : decode b_cr_barByPiece 14 = .ok (.invokevirtual 239, 3) := by decide +kernel
theorem d_cr_barByPiece_17 : decode b_cr_barByPiece 17 = .ok (.ifCond .eq 5, 3) := by decide +kernel
theorem d_cr_barByPiece_20 : decode b_cr_barByPiece 20 = .ok (.iconst 2, 1) := by decide +kernel
theorem d_cr_barByPiece_21 : decode b_cr_barByPiece 21 = .ok (.ireturn, 1) := by decide +kernel
theorem d_cr_barByPiece_22 : decode b_cr_barByPiece 22 = .ok (.aload_n 0, 1) := by decide +kernel
theorem d_cr_barByPiece_23 : decode b_cr_barByPiece 23 = .ok (.iload_n 1, 1) := by decide +kernel
theorem d_cr_barByPiece_24 : decode b_cr_barByPiece 24 = .ok (.iload_n 2, 1) := by decide +kernel
theorem d_cr_barByPiece_25 : decode b_cr_barByPiece 25 = .ok (.invokevirtual 242, 3) := by decide +kernel
theorem d_cr_barByPiece_28 : decode b_cr_barByPiece 28 = .ok (.ifCond .eq 5, 3) := by decide +kernel
theorem d_cr_barByPiece_31 : decode b_cr_barByPiece 31 = .ok (.iconst 3, 1) := by decide +kernel
theorem d_cr_barByPiece_32 : decode b_cr_barByPiece 32 = .ok (.ireturn, 1) := by decide +kernel
theorem d_cr_barByPiece_33 : decode b_cr_barByPiece 33 = .ok (.aload_n 0, 1) := by decide +kernel
theorem d_cr_barByPiece_34 : decode b_cr_barByPiece 34 = .ok (.getfield 26, 3) := by decide +kernel
theorem d_cr_barByPiece_37 : decode b_cr_barByPiece 37 = .ok (.iload_n 1, 1) := by decide +kernel
theorem d_cr_barByPiece_38 : decode b_cr_barByPiece 38 = .ok (.iload_n 2, 1) := by decide +kernel
theorem d_cr_barByPiece_39 : decode b_cr_barByPiece 39 = .ok (.invokevirtual 169, 3) := by decide +kernel
theorem d_cr_barByPiece_42 : decode b_cr_barByPiece 42 = .ok (.istore_n 3, 1) := by decide +kernel
theorem d_cr_barByPiece_43 : decode b_cr_barByPiece 43 = .ok (.aload_n 0, 1) := by decide +kernel
theorem d_cr_barByPiece_44 : decode b_cr_barByPiece 44 = .ok (.getfield 26, 3) := by decide +kernel
theorem d_cr_barByPiece_47 : decode b_cr_barByPiece 47 = .ok (.iload_n 1, 1) := by decide +kernel
theorem d_cr_barByPiece_48 : decode b_cr_barByPiece 48 = .ok (.iload_n 2, 1) := by decide +kernel
theorem d_cr_barByPiece_49 : decode b_cr_barByPiece 49 = .ok (.invokevirtual 172, 3) := by decide +kernel
theorem d_cr_barByPiece_52 : decode b_cr_barByPiece 52 = .ok (.istore 4, 2) := by decide +kernel
theorem d_cr_barByPiece_54 : decode b_cr_barByPiece 54 = .ok (.aload_n 0, 1) := by decide +kernel
theorem d_cr_barByPiece_55 : decode b_cr_barByPiece 55 = .ok (.getfield 12, 3) := by decide +kernel
theorem d_cr_barByPiece_58 : decode b_cr_barByPiece 58 = .ok (.aload_n 0, 1) := by decide +kernel
theorem d_cr_barByPiece_59 : decode b_cr_barByPiece 59 = .ok (.getfield 26, 3) := by decide +kernel
theorem d_cr_barByPiece_62 : decode b_cr_barByPiece 62 = .ok (.iload_n 1, 1) := by decide +kernel
theorem d_cr_barByPiece_63 : decode b_cr_barByPiece 63 = .ok (.iload_n 2, 1) := by decide +kernel
theorem d_cr_barByPiece_64 : decode b_cr_barByPiece 64 = .ok (.invokevirtual 100, 3) := by decide +kernel
theorem d_cr_barByPiece_67 : decode b_cr_barByPiece 67 = .ok (.iload_n 3, 1) := by decide +kernel
theorem d_cr_barByPiece_68 : decode b_cr_barByPiece 68 = .ok (.iload 4, 2) := by decide +kernel
theorem d_cr_barByPiece_70 : decode b_cr_barByPiece 70 = .ok (.invokevirtual 245, 3) := by decide +kernel
theorem d_cr_barByPiece_73 : decode b_cr_barByPiece 73 = .ok (.istore 5, 2) := by decide +kernel
theorem d_cr_barByPiece_75 : decode b_cr_barByPiece 75 = .ok (.iload 5, 2) := by decide +kernel
theorem d_cr_barByPiece_77 : decode b_cr_barByPiece 77 = .ok (.ifCond .le 7, 3) := by decide +kernel
theorem d_cr_barByPiece_80 : decode b_cr_barByPiece 80 = .ok (.iconst 4, 1) := by decide +kernel
theorem d_cr_barByPiece_81 : decode b_cr_barByPiece 81 = .ok (.goto 4, 3) := by decide +kernel
theorem d_cr_barByPiece_84 : decode b_cr_barByPiece 84 = .ok (.iconst 0, 1) := by decide +kernel
theorem d_cr_barByPiece_85 : decode b_cr_barByPiece 85 = .ok (.ireturn, 1) := by decide +kernel
theorem d_cr_isAgainstOneWay_0 : decode b_cr_isAgainstOneWay 0 = .ok (.aload_n 0, 1) := by decide +kernel
theorem d_cr_isAgainstOneWay_1 : decode b_cr_isAgainstOneWay 1 = .ok (.getfield 12, 3) := by decide +kernel
theorem d_cr_isAgainstOneWay_4 : decode b_cr_isAgainstOneWay 4 = .ok (.aload_n 0, 1) := by decide +kernel
theorem d_cr_isAgainstOneWay_5 : decode b_cr_isAgainstOneWay 5 = .ok (.getfield 26, 3) := by decide +kernel
theorem d_cr_isAgainstOneWay_8 : decode b_cr_isAgainstOneWay 8 = .ok (.iload_n 1, 1) := by decide +kernel
theorem d_cr_isAgainstOneWay_9 : decode b_cr_isAgainstOneWay 9 = .ok (.iload_n 2, 1) := by decide +kernel
theorem d_cr_isAgainstOneWay_10 : decode b_cr_isAgainstOneWay 10 = .ok (.invokevirtual 100, 3) := by decide +kernel
theorem d_cr_isAgainstOneWay_13 : decode b_cr_isAgainstOneWay 13 = .ok (.iconst 0, 1) := by decide +kernel
theorem d_cr_isAgainstOneWay_14 : decode b_cr_isAgainstOneWay 14 = .ok (.invokevirtual 248, 3) := by decide +kernel
theorem d_cr_isAgainstOneWay_17 : decode b_cr_isAgainstOneWay 17 = .ok (.istore_n 3, 1) := by decide +kernel
theorem d_cr_isAgainstOneWay_18 : decode b_cr_isAgainstOneWay 18 = .ok (.iload_n 3, 1) := by decide +kernel
theorem d_cr_isAgainstOneWay_19 : decode b_cr_isAgainstOneWay 19 = .ok (.aload_n 0, 1) := by decide +kernel
theorem d_cr_isAgainstOneWay_20 : decode b_cr_isAgainstOneWay 20 = .ok (.getfield 26, 3) := by decide +kernel
theorem d_cr_isAgainstOneWay_23 : decode b_cr_isAgainstOneWay 23 = .ok (.iload_n 1, 1) := by decide +kernel
theorem d_cr_isAgainstOneWay_24 : decode b_cr_isAgainstOneWay 24 = .ok (.iload_n 2, 1) := by decide +kernel
theorem d_cr_isAgainstOneWay_25 : decode b_cr_isAgainstOneWay 25 = .ok (.invokevirtual 175, 3) := by decide +kernel
theorem d_cr_isAgainstOneWay_28 : decode b_cr_isAgainstOneWay 28 = .ok (.ifCond .eq 7, 3) := by decide +kernel
theorem d_cr_isAgainstOneWay_31 : decode b_cr_isAgainstOneWay 31 = .ok (.iconst 2, 1) := by decide +kernel
theorem d_cr_isAgainstOneWay_32 : decode b_cr_isAgainstOneWay 32 = .ok (.goto 4, 3) := by decide +kernel
theorem d_cr_isAgainstOneWay_35 : decode b_cr_isAgainstOneWay 35 = .ok (.iconst 1, 1) := by decide +kernel
theorem d_cr_isAgainstOneWay_36 : decode b_cr_isAgainstOneWay 36 = .ok (.if_icmp .ne 7, 3) := by decide +kernel
theorem d_cr_isAgainstOneWay_39 : decode b_cr_isAgainstOneWay 39 = .ok (.iconst 1, 1) := by decide +kernel
theorem d_cr_isAgainstOneWay_40 : decode b_cr_isAgainstOneWay 40 = .ok (.goto 4, 3) := by decide +kernel
theorem d_cr_isAgainstOneWay_43 : decode b_cr_isAgainstOneWay 43 = .ok (.iconst 0, 1) := by decide +kernel
theorem d_cr_isAgainstOneWay_44 : decode b_cr_isAgainstOneWay 44 = .ok (.ireturn, 1) := by decide +kernel
theorem d_cr_isBarredAtNight_0 : decode b_cr_isBarredAtNight 0 = .ok (.aload_n 0, 1) := by decide +kernel
theorem d_cr_isBarredAtNight_1 : decode b_cr_isBarredAtNight 1 = .ok (.getfield 12, 3) := by decide +kernel
theorem d_cr_isBarredAtNight_4 : decode b_cr_isBarredAtNight 4 = .ok (.aload_n 0, 1) := by decide +kernel
theorem d_cr_isBarredAtNight_5 : decode b_cr_isBarredAtNight 5 = .ok (.getfield 26, 3) := by decide +kernel
theorem d_cr_isBarredAtNight_8 : decode b_cr_isBarredAtNight 8 = .ok (.iload_n 1, 1) := by decide +kernel
theorem d_cr_isBarredAtNight_9 : decode b_cr_isBarredAtNight 9 = .ok (.iload_n 2, 1) := by decide +kernel
theorem d_cr_isBarredAtNight_10 : decode b_cr_isBarredAtNight 10 = .ok (.invokevirtual 100, 3) := by decide +kernel
theorem d_cr_isBarredAtNight_13 : decode b_cr_isBarredAtNight 13 = .ok (.iconst 1, 1) := by decide +kernel
theorem d_cr_isBarredAtNight_14 : decode b_cr_isBarredAtNight 14 = .ok (.invokevirtual 248, 3) := by decide +kernel
theorem d_cr_isBarredAtNight_17 : decode b_cr_isBarredAtNight 17 = .ok (.istore_n 3, 1) := by decide +kernel
theorem d_cr_isBarredAtNight_18 : decode b_cr_isBarredAtNight 18 = .ok (.iload_n 3, 1) := by decide +kernel
theorem d_cr_isBarredAtNight_19 : decode b_cr_isBarredAtNight 19 = .ok (.ifCond .eq 24, 3) := by decide +kernel
theorem d_cr_isBarredAtNight_22 : decode b_cr_isBarredAtNight 22 = .ok (.aload_n 0, 1) := by decide +kernel
theorem d_cr_isBarredAtNight_23 : decode b_cr_isBarredAtNight 23 = .ok (.getfield 19, 3) := by decide +kernel
theorem d_cr_isBarredAtNight_26 : decode b_cr_isBarredAtNight 26 = .ok (.getfield 251, 3) := by decide +kernel
theorem d_cr_isBarredAtNight_29 : decode b_cr_isBarredAtNight 29 = .ok (.aload_n 0, 1) := by decide +kernel
theorem d_cr_isBarredAtNight_30 : decode b_cr_isBarredAtNight 30 = .ok (.getfield 26, 3) := by decide +kernel
theorem d_cr_isBarredAtNight_33 : decode b_cr_isBarredAtNight 33 = .ok (.getfield 254, 3) := by decide +kernel
theorem d_cr_isBarredAtNight_36 : decode b_cr_isBarredAtNight 36 = .ok (.iload_n 1, 1) := by decide +kernel
theorem d_cr_isBarredAtNight_37 : decode b_cr_isBarredAtNight 37 = .ok (.iaload, 1) := by decide +kernel
theorem d_cr_isBarredAtNight_38 : decode b_cr_isBarredAtNight 38 = .ok (.iaload, 1) := by decide +kernel
theorem d_cr_isBarredAtNight_39 : decode b_cr_isBarredAtNight 39 = .ok (.iload_n 3, 1) := by decide +kernel
theorem d_cr_isBarredAtNight_40 : decode b_cr_isBarredAtNight 40 = .ok (.if_icmp .ge 5, 3) := by decide +kernel
theorem d_cr_isBarredAtNight_43 : decode b_cr_isBarredAtNight 43 = .ok (.iconst 0, 1) := by decide +kernel
theorem d_cr_isBarredAtNight_44 : decode b_cr_isBarredAtNight 44 = .ok (.ireturn, 1) := by decide +kernel
theorem d_cr_isBarredAtNight_45 : decode b_cr_isBarredAtNight 45 = .ok (.aload_n 0, 1) := by decide +kernel
theorem d_cr_isBarredAtNight_46 : decode b_cr_isBarredAtNight 46 = .ok (.getfield 26, 3) := by decide +kernel
theorem d_cr_isBarredAtNight_49 : decode b_cr_isBarredAtNight 49 = .ok (.iload_n 1, 1) := by decide +kernel
theorem d_cr_isBarredAtNight_50 : decode b_cr_isBarredAtNight 50 = .ok (.iload_n 2, 1) := by decide +kernel
theorem d_cr_isBarredAtNight_51 : decode b_cr_isBarredAtNight 51 = .ok (.invokevirtual 169, 3) := by decide +kernel
theorem d_cr_isBarredAtNight_54 : decode b_cr_isBarredAtNight 54 = .ok (.istore 4, 2) := by decide +kernel
theorem d_cr_isBarredAtNight_56 : decode b_cr_isBarredAtNight 56 = .ok (.iload 4, 2) := by decide +kernel
theorem d_cr_isBarredAtNight_58 : decode b_cr_isBarredAtNight 58 = .ok (.sipush 1440, 3) := by decide +kernel
theorem d_cr_isBarredAtNight_61 : decode b_cr_isBarredAtNight 61 = .ok (.irem, 1) := by decide +kernel
theorem d_cr_isBarredAtNight_62 : decode b_cr_isBarredAtNight 62 = .ok (.istore 5, 2) := by decide +kernel
theorem d_cr_isBarredAtNight_64 : decode b_cr_isBarredAtNight 64 = .ok (.iload 5, 2) := by decide +kernel
theorem d_cr_isBarredAtNight_66 : decode b_cr_isBarredAtNight 66 = .ok (.aload_n 0, 1) := by decide +kernel
theorem d_cr_isBarredAtNight_67 : decode b_cr_isBarredAtNight 67 = .ok (.getfield 26, 3) := by decide +kernel
theorem d_cr_isBarredAtNight_70 : decode b_cr_isBarredAtNight 70 = .ok (.iload_n 1, 1) := by decide +kernel
theorem d_cr_isBarredAtNight_71 : decode b_cr_isBarredAtNight 71 = .ok (.iload_n 2, 1) := by decide +kernel
theorem d_cr_isBarredAtNight_72 : decode b_cr_isBarredAtNight 72 = .ok (.invokevirtual 172, 3) := by decide +kernel
theorem d_cr_isBarredAtNight_75 : decode b_cr_isBarredAtNight 75 = .ok (.iadd, 1) := by decide +kernel
theorem d_cr_isBarredAtNight_76 : decode b_cr_isBarredAtNight 76 = .ok (.iload 4, 2) := by decide +kernel
theorem d_cr_isBarredAtNight_78 : decode b_cr_isBarredAtNight 78 = .ok (.isub, 1) := by decide +kernel
theorem d_cr_isBarredAtNight_79 : decode b_cr_isBarredAtNight 79 = .ok (.iconst 1, 1) := by decide +kernel
theorem d_cr_isBarredAtNight_80 : decode b_cr_isBarredAtNight 80 = .ok (.isub, 1) := by decide +kernel
theorem d_cr_isBarredAtNight_81 : decode b_cr_isBarredAtNight 81 = .ok (.istore 6, 2) := by decide +kernel
theorem d_cr_isBarredAtNight_83 : decode b_cr_isBarredAtNight 83 = .ok (.iload 5, 2) := by decide +kernel
theorem d_cr_isBarredAtNight_85 : decode b_cr_isBarredAtNight 85 = .ok (.sipush 300, 3) := by decide +kernel
theorem d_cr_isBarredAtNight_88 : decode b_cr_isBarredAtNight 88 = .ok (.if_icmp .lt 11, 3) := by decide +kernel
theorem d_cr_isBarredAtNight_91 : decode b_cr_isBarredAtNight 91 = .ok (.iload 6, 2) := by decide +kernel
theorem d_cr_isBarredAtNight_93 : decode b_cr_isBarredAtNight 93 = .ok (.sipush 1200, 3) := by decide +kernel
theorem d_cr_isBarredAtNight_96 : decode b_cr_isBarredAtNight 96 = .ok (.if_icmp .lt 7, 3) := by decide +kernel
theorem d_cr_isBarredAtNight_99 : decode b_cr_isBarredAtNight 99 = .ok (.iconst 1, 1) := by decide +kernel
theorem d_cr_isBarredAtNight_100 : decode b_cr_isBarredAtNight 100 = .ok (.goto 4, 3) := by decide +kernel
theorem d_cr_isBarredAtNight_103 : decode b_cr_isBarredAtNight 103 = .ok (.iconst 0, 1) := by decide +kernel
theorem d_cr_isBarredAtNight_104 : decode b_cr_isBarredAtNight 104 = .ok (.ireturn, 1) := by decide +kernel
theorem d_cr_isBarredInWind_0 : decode b_cr_isBarredInWind 0 = .ok (.aload_n 0, 1) := by decide +kernel
theorem d_cr_isBarredInWind_1 : decode b_cr_isBarredInWind 1 = .ok (.getfield 12, 3) := by decide +kernel
theorem d_cr_isBarredInWind_4 : decode b_cr_isBarredInWind 4 = .ok (.aload_n 0, 1) := by decide +kernel
theorem d_cr_isBarredInWind_5 : decode b_cr_isBarredInWind 5 = .ok (.getfield 26, 3) := by decide +kernel
theorem d_cr_isBarredInWind_8 : decode b_cr_isBarredInWind 8 = .ok (.iload_n 1, 1) := by decide +kernel
theorem d_cr_isBarredInWind_9 : decode b_cr_isBarredInWind 9 = .ok (.iload_n 2, 1) := by decide +kernel
theorem d_cr_isBarredInWind_10 : decode b_cr_isBarredInWind 10 = .ok (.invokevirtual 100, 3) := by decide +kernel
theorem d_cr_isBarredInWind_13 : decode b_cr_isBarredInWind 13 = .ok (.iconst 2, 1) := by decide +kernel
theorem d_cr_isBarredInWind_14 : decode b_cr_isBarredInWind 14 = .ok (.invokevirtual 248, 3) := by decide +kernel
theorem d_cr_isBarredInWind_17 : decode b_cr_isBarredInWind 17 = .ok (.istore_n 3, 1) := by decide +kernel
theorem d_cr_isBarredInWind_18 : decode b_cr_isBarredInWind 18 = .ok (.aload_n 0, 1) := by decide +kernel
theorem d_cr_isBarredInWind_19 : decode b_cr_isBarredInWind 19 = .ok (.getfield 37, 3) := by decide +kernel
theorem d_cr_isBarredInWind_22 : decode b_cr_isBarredInWind 22 = .ok (.ifCond .eq 28, 3) := by decide +kernel
theorem d_cr_isBarredInWind_25 : decode b_cr_isBarredInWind 25 = .ok (.aload_n 0, 1) := by decide +kernel
theorem d_cr_isBarredInWind_26 : decode b_cr_isBarredInWind 26 = .ok (.getfield 19, 3) := by decide +kernel
theorem d_cr_isBarredInWind_29 : decode b_cr_isBarredInWind 29 = .ok (.getfield 223, 3) := by decide +kernel
theorem d_cr_isBarredInWind_32 : decode b_cr_isBarredInWind 32 = .ok (.aload_n 0, 1) := by decide +kernel
theorem d_cr_isBarredInWind_33 : decode b_cr_isBarredInWind 33 = .ok (.getfield 26, 3) := by decide +kernel
theorem d_cr_isBarredInWind_36 : decode b_cr_isBarredInWind 36 = .ok (.getfield 254, 3) := by decide +kernel
theorem d_cr_isBarredInWind_39 : decode b_cr_isBarredInWind 39 = .ok (.iload_n 1, 1) := by decide +kernel
theorem d_cr_isBarredInWind_40 : decode b_cr_isBarredInWind 40 = .ok (.iaload, 1) := by decide +kernel
theorem d_cr_isBarredInWind_41 : decode b_cr_isBarredInWind 41 = .ok (.iaload, 1) := by decide +kernel
theorem d_cr_isBarredInWind_42 : decode b_cr_isBarredInWind 42 = .ok (.iload_n 3, 1) := by decide +kernel
theorem d_cr_isBarredInWind_43 : decode b_cr_isBarredInWind 43 = .ok (.if_icmp .le 7, 3) := by decide +kernel
theorem d_cr_isBarredInWind_46 : decode b_cr_isBarredInWind 46 = .ok (.iconst 1, 1) := by decide +kernel
theorem d_cr_isBarredInWind_47 : decode b_cr_isBarredInWind 47 = .ok (.goto 4, 3) := by decide +kernel
theorem d_cr_isBarredInWind_50 : decode b_cr_isBarredInWind 50 = .ok (.iconst 0, 1) := by decide +kernel
theorem d_cr_isBarredInWind_51 : decode b_cr_isBarredInWind 51 = .ok (.ireturn, 1) := by decide +kernel
theorem d_cr_barBySlots_0 : decode b_cr_barBySlots 0 = .ok (.iconst 0, 1) := by decide +kernel
theorem d_cr_barBySlots_1 : decode b_cr_barBySlots 1 = .ok (.istore_n 3, 1) := by decide +kernel
theorem d_cr_barBySlots_2 : decode b_cr_barBySlots 2 = .ok (.iconst 1, 1) := by decide +kernel
theorem d_cr_barBySlots_3 : decode b_cr_barBySlots 3 = .ok (.istore 4, 2) := by decide +kernel
theorem d_cr_barBySlots_5 : decode b_cr_barBySlots 5 = .ok (.iload 4, 2) := by decide +kernel
theorem d_cr_barBySlots_7 : decode b_cr_barBySlots 7 = .ok (.aload_n 0, 1) := by decide +kernel
theorem d_cr_barBySlots_8 : decode b_cr_barBySlots 8 = .ok (.getfield 26, 3) := by decide +kernel
theorem d_cr_barBySlots_11 : decode b_cr_barBySlots 11 = .ok (.getfield 110, 3) := by decide +kernel
theorem d_cr_barBySlots_14 : decode b_cr_barBySlots 14 = .ok (.if_icmp .gt 56, 3) := by decide +kernel
theorem d_cr_barBySlots_17 : decode b_cr_barBySlots 17 = .ok (.iload 4, 2) := by decide +kernel
theorem d_cr_barBySlots_19 : decode b_cr_barBySlots 19 = .ok (.iload_n 1, 1) := by decide +kernel
theorem d_cr_barBySlots_20 : decode b_cr_barBySlots 20 = .ok (.if_icmp .eq 44, 3) := by decide +kernel
theorem d_cr_barBySlots_23 : decode b_cr_barBySlots 23 = .ok (.aload_n 0, 1) := by decide +kernel
theorem d_cr_barBySlots_24 : decode b_cr_barBySlots 24 = .ok (.getfield 26, 3) := by decide +kernel
theorem d_cr_barBySlots_27 : decode b_cr_barBySlots 27 = .ok (.getfield 142, 3) := by decide +kernel
theorem d_cr_barBySlots_30 : decode b_cr_barBySlots 30 = .ok (.iload 4, 2) := by decide +kernel
theorem d_cr_barBySlots_32 : decode b_cr_barBySlots 32 = .ok (.baload, 1) := by decide +kernel
theorem d_cr_barBySlots_33 : decode b_cr_barBySlots 33 = .ok (.ifCond .eq 31, 3) := by decide +kernel
theorem d_cr_barBySlots_36 : decode b_cr_barBySlots 36 = .ok (.aload_n 0, 1) := by decide +kernel
theorem d_cr_barBySlots_37 : decode b_cr_barBySlots 37 = .ok (.iload 4, 2) := by decide +kernel
theorem d_cr_barBySlots_39 : decode b_cr_barBySlots 39 = .ok (.iload_n 1, 1) := by decide +kernel
theorem d_cr_barBySlots_40 : decode b_cr_barBySlots 40 = .ok (.iload_n 2, 1) := by decide +kernel
theorem d_cr_barBySlots_41 : decode b_cr_barBySlots 41 = .ok (.invokevirtual 257, 3) := by decide +kernel
theorem d_cr_barBySlots_44 : decode b_cr_barBySlots 44 = .ok (.istore 5, 2) := by decide +kernel
theorem d_cr_barBySlots_46 : decode b_cr_barBySlots 46 = .ok (.iload 5, 2) := by decide +kernel
theorem d_cr_barBySlots_48 : decode b_cr_barBySlots 48 = .ok (.ifCond .eq 16, 3) := by decide +kernel
theorem d_cr_barBySlots_51 : decode b_cr_barBySlots 51 = .ok (.iload_n 3, 1) := by decide +kernel
theorem d_cr_barBySlots_52 : decode b_cr_barBySlots 52 = .ok (.ifCond .eq 9, 3) := by decide +kernel
theorem d_cr_barBySlots_55 : decode b_cr_barBySlots 55 = .ok (.iload 5, 2) := by decide +kernel
theorem d_cr_barBySlots_57 : decode b_cr_barBySlots 57 = .ok (.iload_n 3, 1) := by decide +kernel
theorem d_cr_barBySlots_58 : decode b_cr_barBySlots 58 = .ok (.if_icmp .ge 6, 3) := by decide +kernel
theorem d_cr_barBySlots_61 : decode b_cr_barBySlots 61 = .ok (.iload 5, 2) := by decide +kernel
theorem d_cr_barBySlots_63 : decode b_cr_barBySlots 63 = .ok (.istore_n 3, 1) := by decide +kernel
theorem d_cr_barBySlots_64 : decode b_cr_barBySlots 64 = .ok (.iinc 4 1, 3) := by decide +kernel
theorem d_cr_barBySlots_67 : decode b_cr_barBySlots 67 = .ok (.goto (-62), 3) := by decide +kernel
theorem d_cr_barBySlots_70 : decode b_cr_barBySlots 70 = .ok (.iload_n 3, 1) := by decide +kernel
theorem d_cr_barBySlots_71 : decode b_cr_barBySlots 71 = .ok (.ireturn, 1) := by decide +kernel
theorem d_cr_earliest_0 : decode b_cr_earliest 0 = .ok (.aload_n 0, 1) := by decide +kernel
theorem d_cr_earliest_1 : decode b_cr_earliest 1 = .ok (.iload_n 1, 1) := by decide +kernel
theorem d_cr_earliest_2 : decode b_cr_earliest 2 = .ok (.iload_n 2, 1) := by decide +kernel
theorem d_cr_earliest_3 : decode b_cr_earliest 3 = .ok (.iload_n 3, 1) := by decide +kernel
theorem d_cr_earliest_4 : decode b_cr_earliest 4 = .ok (.invokevirtual 92, 3) := by decide +kernel
theorem d_cr_earliest_7 : decode b_cr_earliest 7 = .ok (.ifCond .eq 17, 3) := by decide +kernel
theorem d_cr_earliest_10 : decode b_cr_earliest 10 = .ok (.iload 4, 2) := by decide +kernel
theorem d_cr_earliest_12 : decode b_cr_earliest 12 = .ok (.aload_n 0, 1) := by decide +kernel
theorem d_cr_earliest_13 : decode b_cr_earliest 13 = .ok (.getfield 41, 3) := by decide +kernel
theorem d_cr_earliest_16 : decode b_cr_earliest 16 = .ok (.ldc 107, 2) := by decide +kernel
theorem d_cr_earliest_18 : decode b_cr_earliest 18 = .ok (.invokestatic 56, 3) := by decide +kernel
theorem d_cr_earliest_21 : decode b_cr_earliest 21 = .ok (.ifCond .ne 13, 3) := by decide +kernel
theorem d_cr_earliest_24 : decode b_cr_earliest 24 = .ok (.new 49, 3) := by decide +kernel
theorem d_cr_earliest_27 : decode b_cr_earliest 27 = .ok (.dup, 1) := by decide +kernel
theorem d_cr_earliest_28 : decode b_cr_earliest 28 = .ok (.ldc 108, 2) := by decide +kernel
theorem d_cr_earliest_30 : decode b_cr_earliest 30 = .ok (.invokespecial 53, 3) := by decide +kernel
theorem d_cr_earliest_33 : decode b_cr_earliest 33 = .ok (.athrow, 1) := by decide +kernel
theorem d_cr_earliest_34 : decode b_cr_earliest 34 = .ok (.aload_n 0, 1) := by decide +kernel
theorem d_cr_earliest_35 : decode b_cr_earliest 35 = .ok (.iload_n 1, 1) := by decide +kernel
theorem d_cr_earliest_36 : decode b_cr_earliest 36 = .ok (.iload_n 2, 1) := by decide +kernel
theorem d_cr_earliest_37 : decode b_cr_earliest 37 = .ok (.iload_n 3, 1) := by decide +kernel
theorem d_cr_earliest_38 : decode b_cr_earliest 38 = .ok (.invokevirtual 97, 3) := by decide +kernel
theorem d_cr_earliest_41 : decode b_cr_earliest 41 = .ok (.ifCond .ne 5, 3) := by decide +kernel
theorem d_cr_earliest_44 : decode b_cr_earliest 44 = .ok (.iconst (-1), 1) := by decide +kernel
theorem d_cr_earliest_45 : decode b_cr_earliest 45 = .ok (.ireturn, 1) := by decide +kernel
theorem d_cr_earliest_46 : decode b_cr_earliest 46 = .ok (.iload 4, 2) := by decide +kernel
theorem d_cr_earliest_48 : decode b_cr_earliest 48 = .ok (.sipush 2880, 3) := by decide +kernel
theorem d_cr_earliest_51 : decode b_cr_earliest 51 = .ok (.iadd, 1) := by decide +kernel
theorem d_cr_earliest_52 : decode b_cr_earliest 52 = .ok (.ldc 107, 2) := by decide +kernel
theorem d_cr_earliest_54 : decode b_cr_earliest 54 = .ok (.invokestatic 126, 3) := by decide +kernel
theorem d_cr_earliest_57 : decode b_cr_earliest 57 = .ok (.istore 5, 2) := by decide +kernel
theorem d_cr_earliest_59 : decode b_cr_earliest 59 = .ok (.iload 4, 2) := by decide +kernel
theorem d_cr_earliest_61 : decode b_cr_earliest 61 = .ok (.istore 6, 2) := by decide +kernel
theorem d_cr_earliest_63 : decode b_cr_earliest 63 = .ok (.iload 6, 2) := by decide +kernel
theorem d_cr_earliest_65 : decode b_cr_earliest 65 = .ok (.iload 5, 2) := by decide +kernel
theorem d_cr_earliest_67 : decode b_cr_earliest 67 = .ok (.if_icmp .gt 38, 3) := by decide +kernel
theorem d_cr_earliest_70 : decode b_cr_earliest 70 = .ok (.aload_n 0, 1) := by decide +kernel
theorem d_cr_earliest_71 : decode b_cr_earliest 71 = .ok (.getfield 26, 3) := by decide +kernel
theorem d_cr_earliest_74 : decode b_cr_earliest 74 = .ok (.getfield 115, 3) := by decide +kernel
theorem d_cr_earliest_77 : decode b_cr_earliest 77 = .ok (.iconst 0, 1) := by decide +kernel
theorem d_cr_earliest_78 : decode b_cr_earliest 78 = .ok (.iload 6, 2) := by decide +kernel
theorem d_cr_earliest_80 : decode b_cr_earliest 80 = .ok (.iastore, 1) := by decide +kernel
theorem d_cr_earliest_81 : decode b_cr_earliest 81 = .ok (.aload_n 0, 1) := by decide +kernel
theorem d_cr_earliest_82 : decode b_cr_earliest 82 = .ok (.invokevirtual 131, 3) := by decide +kernel
theorem d_cr_earliest_85 : decode b_cr_earliest 85 = .ok (.istore 7, 2) := by decide +kernel
theorem d_cr_earliest_87 : decode b_cr_earliest 87 = .ok (.iload 7, 2) := by decide +kernel
theorem d_cr_earliest_89 : decode b_cr_earliest 89 = .ok (.ifCond .gt 6, 3) := by decide +kernel
theorem d_cr_earliest_92 : decode b_cr_earliest 92 = .ok (.iload 6, 2) := by decide +kernel
theorem d_cr_earliest_94 : decode b_cr_earliest 94 = .ok (.ireturn, 1) := by decide +kernel
theorem d_cr_earliest_95 : decode b_cr_earliest 95 = .ok (.iload 6, 2) := by decide +kernel
theorem d_cr_earliest_97 : decode b_cr_earliest 97 = .ok (.iload 7, 2) := by decide +kernel
theorem d_cr_earliest_99 : decode b_cr_earliest 99 = .ok (.iadd, 1) := by decide +kernel
theorem d_cr_earliest_100 : decode b_cr_earliest 100 = .ok (.istore 6, 2) := by decide +kernel
theorem d_cr_earliest_102 : decode b_cr_earliest 102 = .ok (.goto (-39), 3) := by decide +kernel
theorem d_cr_earliest_105 : decode b_cr_earliest 105 = .ok (.iconst (-1), 1) := by decide +kernel
theorem d_cr_earliest_106 : decode b_cr_earliest 106 = .ok (.ireturn, 1) := by decide +kernel
theorem d_cr_planWait_0 : decode b_cr_planWait 0 = .ok (.iconst 0, 1) := by decide +kernel
theorem d_cr_planWait_1 : decode b_cr_planWait 1 = .ok (.istore_n 1, 1) := by decide +kernel
theorem d_cr_planWait_2 : decode b_cr_planWait 2 = .ok (.iconst 0, 1) := by decide +kernel
theorem d_cr_planWait_3 : decode b_cr_planWait 3 = .ok (.istore_n 2, 1) := by decide +kernel
theorem d_cr_planWait_4 : decode b_cr_planWait 4 = .ok (.iload_n 2, 1) := by decide +kernel
theorem d_cr_planWait_5 : decode b_cr_planWait 5 = .ok (.aload_n 0, 1) := by decide +kernel
theorem d_cr_planWait_6 : decode b_cr_planWait 6 = .ok (.getfield 26, 3) := by decide +kernel
theorem d_cr_planWait_9 : decode b_cr_planWait 9 = .ok (.getfield 104, 3) := by decide +kernel
theorem d_cr_planWait_12 : decode b_cr_planWait 12 = .ok (.iconst 0, 1) := by decide +kernel
theorem d_cr_planWait_13 : decode b_cr_planWait 13 = .ok (.iaload, 1) := by decide +kernel
theorem d_cr_planWait_14 : decode b_cr_planWait 14 = .ok (.if_icmp .ge 27, 3) := by decide +kernel
theorem d_cr_planWait_17 : decode b_cr_planWait 17 = .ok (.iload_n 1, 1) := by decide +kernel
theorem d_cr_planWait_18 : decode b_cr_planWait 18 = .ok (.aload_n 0, 1) := by decide +kernel
theorem d_cr_planWait_19 : decode b_cr_planWait 19 = .ok (.iload_n 2, 1) := by decide +kernel
theorem d_cr_planWait_20 : decode b_cr_planWait 20 = .ok (.invokevirtual 270, 3) := by decide +kernel
theorem d_cr_planWait_23 : decode b_cr_planWait 23 = .ok (.aload_n 0, 1) := by decide +kernel
theorem d_cr_planWait_24 : decode b_cr_planWait 24 = .ok (.iload_n 2, 1) := by decide +kernel
theorem d_cr_planWait_25 : decode b_cr_planWait 25 = .ok (.invokevirtual 273, 3) := by decide +kernel
theorem d_cr_planWait_28 : decode b_cr_planWait 28 = .ok (.invokestatic 276, 3) := by decide +kernel
theorem d_cr_planWait_31 : decode b_cr_planWait 31 = .ok (.invokestatic 276, 3) := by decide +kernel
theorem d_cr_planWait_34 : decode b_cr_planWait 34 = .ok (.istore_n 1, 1) := by decide +kernel
theorem d_cr_planWait_35 : decode b_cr_planWait 35 = .ok (.iinc 2 1, 3) := by decide +kernel
theorem d_cr_planWait_38 : decode b_cr_planWait 38 = .ok (.goto (-34), 3) := by decide +kernel
theorem d_cr_planWait_41 : decode b_cr_planWait 41 = .ok (.iload_n 1, 1) := by decide +kernel
theorem d_cr_planWait_42 : decode b_cr_planWait 42 = .ok (.ireturn, 1) := by decide +kernel
theorem d_cr_planWaitByPiece_0 : decode b_cr_planWaitByPiece 0 = .ok (.aload_n 0, 1) := by decide +kernel
theorem d_cr_planWaitByPiece_1 : decode b_cr_planWaitByPiece 1 = .ok (.iconst 0, 1) := by decide +kernel
theorem d_cr_planWaitByPiece_2 : decode b_cr_planWaitByPiece 2 = .ok (.iload_n 1, 1) := by decide +kernel
theorem d_cr_planWaitByPiece_3 : decode b_cr_planWaitByPiece 3 = .ok (.invokevirtual 236, 3) := by decide +kernel
theorem d_cr_planWaitByPiece_6 : decode b_cr_planWaitByPiece 6 = .ok (.ifCond .ne 12, 3) := by decide +kernel
theorem d_cr_planWaitByPiece_9 : decode b_cr_planWaitByPiece 9 = .ok (.aload_n 0, 1) := by decide +kernel
theorem d_cr_planWaitByPiece_10 : decode b_cr_planWaitByPiece 10 = .ok (.iconst 0, 1) := by decide +kernel
theorem d_cr_planWaitByPiece_11 : decode b_cr_planWaitByPiece 11 = .ok (.iload_n 1, 1) := by decide +kernel
theorem d_cr_planWaitByPiece_12 : decode b_cr_planWaitByPiece 12 = .ok (.invokevirtual 242, 3) := by decide +kernel
theorem d_cr_planWaitByPiece_15 : decode b_cr_planWaitByPiece 15 = .ok (.ifCond .eq 6, 3) := by decide +kernel
theorem d_cr_planWaitByPiece_18 : decode b_cr_planWaitByPiece 18 = .ok (.ldc 210, 2) := by decide +kernel
theorem d_cr_planWaitByPiece_20 : decode b_cr_planWaitByPiece 20 = .ok (.ireturn, 1) := by decide +kernel
theorem d_cr_planWaitByPiece_21 : decode b_cr_planWaitByPiece 21 = .ok (.aload_n 0, 1) := by decide +kernel
theorem d_cr_planWaitByPiece_22 : decode b_cr_planWaitByPiece 22 = .ok (.getfield 26, 3) := by decide +kernel
theorem d_cr_planWaitByPiece_25 : decode b_cr_planWaitByPiece 25 = .ok (.iconst 0, 1) := by decide +kernel
theorem d_cr_planWaitByPiece_26 : decode b_cr_planWaitByPiece 26 = .ok (.iload_n 1, 1) := by decide +kernel
theorem d_cr_planWaitByPiece_27 : decode b_cr_planWaitByPiece 27 = .ok (.invokevirtual 169, 3) := by decide +kernel
theorem d_cr_planWaitByPiece_30 : decode b_cr_planWaitByPiece 30 = .ok (.istore_n 2, 1) := by decide +kernel
theorem d_cr_planWaitByPiece_31 : decode b_cr_planWaitByPiece 31 = .ok (.aload_n 0, 1) := by decide +kernel
theorem d_cr_planWaitByPiece_32 : decode b_cr_planWaitByPiece 32 = .ok (.getfield 26, 3) := by decide +kernel
theorem d_cr_planWaitByPiece_35 : decode b_cr_planWaitByPiece 35 = .ok (.iconst 0, 1) := by decide +kernel
theorem d_cr_planWaitByPiece_36 : decode b_cr_planWaitByPiece 36 = .ok (.iload_n 1, 1) := by decide +kernel
theorem d_cr_planWaitByPiece_37 : decode b_cr_planWaitByPiece 37 = .ok (.invokevirtual 172, 3) := by decide +kernel
theorem d_cr_planWaitByPiece_40 : decode b_cr_planWaitByPiece 40 = .ok (.istore_n 3, 1) := by decide +kernel
theorem d_cr_planWaitByPiece_41 : decode b_cr_planWaitByPiece 41 = .ok (.aload_n 0, 1) := by decide +kernel
theorem d_cr_planWaitByPiece_42 : decode b_cr_planWaitByPiece 42 = .ok (.getfield 12, 3) := by decide +kernel
theorem d_cr_planWaitByPiece_45 : decode b_cr_planWaitByPiece 45 = .ok (.aload_n 0, 1) := by decide +kernel
theorem d_cr_planWaitByPiece_46 : decode b_cr_planWaitByPiece 46 = .ok (.getfield 26, 3) := by decide +kernel
theorem d_cr_planWaitByPiece_49 : decode b_cr_planWaitByPiece 49 = .ok (.iconst 0, 1) := by decide +kernel
theorem d_cr_planWaitByPiece_50 : decode b_cr_planWaitByPiece 50 = .ok (.iload_n 1, 1) := by decide +kernel
theorem d_cr_planWaitByPiece_51 : decode b_cr_planWaitByPiece 51 = .ok (.invokevirtual 100, 3) := by decide +kernel
theorem d_cr_planWaitByPiece_54 : decode b_cr_planWaitByPiece 54 = .ok (.iload_n 2, 1) := by decide +kernel
theorem d_cr_planWaitByPiece_55 : decode b_cr_planWaitByPiece 55 = .ok (.iload_n 3, 1) := by decide +kernel
theorem d_cr_planWaitByPiece_56 : decode b_cr_planWaitByPiece 56 = .ok (.invokevirtual 245, 3) := by decide +kernel
theorem d_cr_planWaitByPiece_59 : decode b_cr_planWaitByPiece 59 = .ok (.istore 4, 2) := by decide +kernel
theorem d_cr_planWaitByPiece_61 : decode b_cr_planWaitByPiece 61 = .ok (.iload 4, 2) := by decide +kernel
theorem d_cr_planWaitByPiece_63 : decode b_cr_planWaitByPiece 63 = .ok (.aload_n 0, 1) := by decide +kernel
theorem d_cr_planWaitByPiece_64 : decode b_cr_planWaitByPiece 64 = .ok (.iconst 0, 1) := by decide +kernel
theorem d_cr_planWaitByPiece_65 : decode b_cr_planWaitByPiece 65 = .ok (.iload_n 1, 1) := by decide +kernel
theorem d_cr_planWaitByPiece_66 : decode b_cr_planWaitByPiece 66 = .ok (.invokevirtual 239, 3) := by decide +kernel
theorem d_cr_planWaitByPiece_69 : decode b_cr_planWaitByPiece 69 = .ok (.ifCond .eq 10, 3) := by decide +kernel
theorem d_cr_planWaitByPiece_72 : decode b_cr_planWaitByPiece 72 = .ok (.iload_n 2, 1) := by decide +kernel
theorem d_cr_planWaitByPiece_73 : decode b_cr_planWaitByPiece 73 = .ok (.invokestatic 279, 3) := by decide +kernel
theorem d_cr_planWaitByPiece_76 : decode b_cr_planWaitByPiece 76 = .ok (.goto 4, 3) := by decide +kernel
theorem d_cr_planWaitByPiece_79 : decode b_cr_planWaitByPiece 79 = .ok (.iconst 0, 1) := by decide +kernel
theorem d_cr_planWaitByPiece_80 : decode b_cr_planWaitByPiece 80 = .ok (.invokestatic 276, 3) := by decide +kernel
theorem d_cr_planWaitByPiece_83 : decode b_cr_planWaitByPiece 83 = .ok (.ireturn, 1) := by decide +kernel
theorem d_cr_minutesToMorning_0 : decode b_cr_minutesToMorning 0 = .ok (.sipush 300, 3) := by decide +kernel
theorem d_cr_minutesToMorning_3 : decode b_cr_minutesToMorning 3 = .ok (.iload_n 0, 1) := by decide +kernel
theorem d_cr_minutesToMorning_4 : decode b_cr_minutesToMorning 4 = .ok (.isub, 1) := by decide +kernel
theorem d_cr_minutesToMorning_5 : decode b_cr_minutesToMorning 5 = .ok (.sipush 1440, 3) := by decide +kernel
theorem d_cr_minutesToMorning_8 : decode b_cr_minutesToMorning 8 = .ok (.invokestatic 282, 3) := by decide +kernel
theorem d_cr_minutesToMorning_11 : decode b_cr_minutesToMorning 11 = .ok (.ireturn, 1) := by decide +kernel
theorem d_cr_planWaitBySlots_0 : decode b_cr_planWaitBySlots 0 = .ok (.iconst 0, 1) := by decide +kernel
theorem d_cr_planWaitBySlots_1 : decode b_cr_planWaitBySlots 1 = .ok (.istore_n 2, 1) := by decide +kernel
theorem d_cr_planWaitBySlots_2 : decode b_cr_planWaitBySlots 2 = .ok (.iconst 1, 1) := by decide +kernel
theorem d_cr_planWaitBySlots_3 : decode b_cr_planWaitBySlots 3 = .ok (.istore_n 3, 1) := by decide +kernel
theorem d_cr_planWaitBySlots_4 : decode b_cr_planWaitBySlots 4 = .ok (.iload_n 3, 1) := by decide +kernel
theorem d_cr_planWaitBySlots_5 : decode b_cr_planWaitBySlots 5 = .ok (.aload_n 0, 1) := by decide +kernel
theorem d_cr_planWaitBySlots_6 : decode b_cr_planWaitBySlots 6 = .ok (.getfield 26, 3) := by decide +kernel
theorem d_cr_planWaitBySlots_9 : decode b_cr_planWaitBySlots 9 = .ok (.getfield 110, 3) := by decide +kernel
theorem d_cr_planWaitBySlots_12 : decode b_cr_planWaitBySlots 12 = .ok (.if_icmp .gt 32, 3) := by decide +kernel
theorem d_cr_planWaitBySlots_15 : decode b_cr_planWaitBySlots 15 = .ok (.aload_n 0, 1) := by decide +kernel
theorem d_cr_planWaitBySlots_16 : decode b_cr_planWaitBySlots 16 = .ok (.getfield 26, 3) := by decide +kernel
theorem d_cr_planWaitBySlots_19 : decode b_cr_planWaitBySlots 19 = .ok (.getfield 142, 3) := by decide +kernel
theorem d_cr_planWaitBySlots_22 : decode b_cr_planWaitBySlots 22 = .ok (.iload_n 3, 1) := by decide +kernel
theorem d_cr_planWaitBySlots_23 : decode b_cr_planWaitBySlots 23 = .ok (.baload, 1) := by decide +kernel
theorem d_cr_planWaitBySlots_24 : decode b_cr_planWaitBySlots 24 = .ok (.ifCond .eq 14, 3) := by decide +kernel
theorem d_cr_planWaitBySlots_27 : decode b_cr_planWaitBySlots 27 = .ok (.iload_n 2, 1) := by decide +kernel
theorem d_cr_planWaitBySlots_28 : decode b_cr_planWaitBySlots 28 = .ok (.aload_n 0, 1) := by decide +kernel
theorem d_cr_planWaitBySlots_29 : decode b_cr_planWaitBySlots 29 = .ok (.iload_n 3, 1) := by decide +kernel
theorem d_cr_planWaitBySlots_30 : decode b_cr_planWaitBySlots 30 = .ok (.iload_n 1, 1) := by decide +kernel
theorem d_cr_planWaitBySlots_31 : decode b_cr_planWaitBySlots 31 = .ok (.invokevirtual 285, 3) := by decide +kernel
theorem d_cr_planWaitBySlots_34 : decode b_cr_planWaitBySlots 34 = .ok (.invokestatic 276, 3) := by decide +kernel
theorem d_cr_planWaitBySlots_37 : decode b_cr_planWaitBySlots 37 = .ok (.istore_n 2, 1) := by decide +kernel
theorem d_cr_planWaitBySlots_38 : decode b_cr_planWaitBySlots 38 = .ok (.iinc 3 1, 3) := by decide +kernel
theorem d_cr_planWaitBySlots_41 : decode b_cr_planWaitBySlots 41 = .ok (.goto (-37), 3) := by decide +kernel
theorem d_cr_planWaitBySlots_44 : decode b_cr_planWaitBySlots 44 = .ok (.iload_n 2, 1) := by decide +kernel
theorem d_cr_planWaitBySlots_45 : decode b_cr_planWaitBySlots 45 = .ok (.ireturn, 1) := by decide +kernel
theorem d_cr_planWaitFor_0 : decode b_cr_planWaitFor 0 = .ok (.aload_n 0, 1) := by decide +kernel
theorem d_cr_planWaitFor_1 : decode b_cr_planWaitFor 1 = .ok (.iload_n 1, 1) := by decide +kernel
theorem d_cr_planWaitFor_2 : decode b_cr_planWaitFor 2 = .ok (.iconst 0, 1) := by decide +kernel
theorem d_cr_planWaitFor_3 : decode b_cr_planWaitFor 3 = .ok (.iload_n 2, 1) := by decide +kernel
theorem d_cr_planWaitFor_4 : decode b_cr_planWaitFor 4 = .ok (.invokevirtual 257, 3) := by decide +kernel
theorem d_cr_planWaitFor_7 : decode b_cr_planWaitFor 7 = .ok (.istore_n 3, 1) := by decide +kernel
theorem d_cr_planWaitFor_8 : decode b_cr_planWaitFor 8 = .ok (.aload_n 0, 1) := by decide +kernel
theorem d_cr_planWaitFor_9 : decode b_cr_planWaitFor 9 = .ok (.getfield 26, 3) := by decide +kernel
theorem d_cr_planWaitFor_12 : decode b_cr_planWaitFor 12 = .ok (.iload_n 1, 1) := by decide +kernel
theorem d_cr_planWaitFor_13 : decode b_cr_planWaitFor 13 = .ok (.aload_n 0, 1) := by decide +kernel
theorem d_cr_planWaitFor_14 : decode b_cr_planWaitFor 14 = .ok (.getfield 26, 3) := by decide +kernel
theorem d_cr_planWaitFor_17 : decode b_cr_planWaitFor 17 = .ok (.iconst 0, 1) := by decide +kernel
theorem d_cr_planWaitFor_18 : decode b_cr_planWaitFor 18 = .ok (.iload_n 2, 1) := by decide +kernel
theorem d_cr_planWaitFor_19 : decode b_cr_planWaitFor 19 = .ok (.invokevirtual 100, 3) := by decide +kernel
theorem d_cr_planWaitFor_22 : decode b_cr_planWaitFor 22 = .ok (.invokevirtual 260, 3) := by decide +kernel
theorem d_cr_planWaitFor_25 : decode b_cr_planWaitFor 25 = .ok (.istore 4, 2) := by decide +kernel
theorem d_cr_planWaitFor_27 : decode b_cr_planWaitFor 27 = .ok (.iload_n 3, 1) := by decide +kernel
theorem d_cr_planWaitFor_28 : decode b_cr_planWaitFor 28 = .ok (.ifCond .eq 9, 3) := by decide +kernel
theorem d_cr_planWaitFor_31 : decode b_cr_planWaitFor 31 = .ok (.iload 4, 2) := by decide +kernel
theorem d_cr_planWaitFor_33 : decode b_cr_planWaitFor 33 = .ok (.iconst (-1), 1) := by decide +kernel
theorem d_cr_planWaitFor_34 : decode b_cr_planWaitFor 34 = .ok (.if_icmp .ne 5, 3) := by decide +kernel
theorem d_cr_planWaitFor_37 : decode b_cr_planWaitFor 37 = .ok (.iconst 0, 1) := by decide +kernel
theorem d_cr_planWaitFor_38 : decode b_cr_planWaitFor 38 = .ok (.ireturn, 1) := by decide +kernel
theorem d_cr_planWaitFor_39 : decode b_cr_planWaitFor 39 = .ok (.aload_n 0, 1) := by decide +kernel
theorem d_cr_planWaitFor_40 : decode b_cr_planWaitFor 40 = .ok (.getfield 26, 3) := by decide +kernel
theorem d_cr_planWaitFor_43 : decode b_cr_planWaitFor 43 = .ok (.iconst 0, 1) := by decide +kernel
theorem d_cr_planWaitFor_44 : decode b_cr_planWaitFor 44 = .ok (.iload_n 2, 1) := by decide +kernel
theorem d_cr_planWaitFor_45 : decode b_cr_planWaitFor 45 = .ok (.invokevirtual 169, 3) := by decide +kernel
theorem d_cr_planWaitFor_48 : decode b_cr_planWaitFor 48 = .ok (.istore 5, 2) := by decide +kernel
theorem d_cr_planWaitFor_50 : decode b_cr_planWaitFor 50 = .ok (.iload_n 3, 1) := by decide +kernel
theorem d_cr_planWaitFor_51 : decode b_cr_planWaitFor 51 = .ok (.bipush 7, 2) := by decide +kernel
theorem d_cr_planWaitFor_53 : decode b_cr_planWaitFor 53 = .ok (.if_icmp .eq 17, 3) := by decide +kernel
theorem d_cr_planWaitFor_56 : decode b_cr_planWaitFor 56 = .ok (.aload_n 0, 1) := by decide +kernel
theorem d_cr_planWaitFor_57 : decode b_cr_planWaitFor 57 = .ok (.getfield 26, 3) := by decide +kernel
theorem d_cr_planWaitFor_60 : decode b_cr_planWaitFor 60 = .ok (.iload_n 1, 1) := by decide +kernel
theorem d_cr_planWaitFor_61 : decode b_cr_planWaitFor 61 = .ok (.iload 4, 2) := by decide +kernel
theorem d_cr_planWaitFor_63 : decode b_cr_planWaitFor 63 = .ok (.invokevirtual 172, 3) := by decide +kernel
theorem d_cr_planWaitFor_66 : decode b_cr_planWaitFor 66 = .ok (.iload 5, 2) := by decide +kernel
theorem d_cr_planWaitFor_68 : decode b_cr_planWaitFor 68 = .ok (.isub, 1) := by decide +kernel
theorem d_cr_planWaitFor_69 : decode b_cr_planWaitFor 69 = .ok (.ireturn, 1) := by decide +kernel
theorem d_cr_planWaitFor_70 : decode b_cr_planWaitFor 70 = .ok (.aload_n 0, 1) := by decide +kernel
theorem d_cr_planWaitFor_71 : decode b_cr_planWaitFor 71 = .ok (.getfield 26, 3) := by decide +kernel
theorem d_cr_planWaitFor_74 : decode b_cr_planWaitFor 74 = .ok (.iload_n 1, 1) := by decide +kernel
theorem d_cr_planWaitFor_75 : decode b_cr_planWaitFor 75 = .ok (.iload 4, 2) := by decide +kernel
theorem d_cr_planWaitFor_77 : decode b_cr_planWaitFor 77 = .ok (.invokevirtual 169, 3) := by decide +kernel
theorem d_cr_planWaitFor_80 : decode b_cr_planWaitFor 80 = .ok (.iload 5, 2) := by decide +kernel
theorem d_cr_planWaitFor_82 : decode b_cr_planWaitFor 82 = .ok (.isub, 1) := by decide +kernel
theorem d_cr_planWaitFor_83 : decode b_cr_planWaitFor 83 = .ok (.istore 6, 2) := by decide +kernel
theorem d_cr_planWaitFor_85 : decode b_cr_planWaitFor 85 = .ok (.aload_n 0, 1) := by decide +kernel
theorem d_cr_planWaitFor_86 : decode b_cr_planWaitFor 86 = .ok (.getfield 26, 3) := by decide +kernel
theorem d_cr_planWaitFor_89 : decode b_cr_planWaitFor 89 = .ok (.iload_n 1, 1) := by decide +kernel
theorem d_cr_planWaitFor_90 : decode b_cr_planWaitFor 90 = .ok (.iload 4, 2) := by decide +kernel
theorem d_cr_planWaitFor_92 : decode b_cr_planWaitFor 92 = .ok (.invokevirtual 172, 3) := by decide +kernel
theorem d_cr_planWaitFor_95 : decode b_cr_planWaitFor 95 = .ok (.aload_n 0, 1) := by decide +kernel
theorem d_cr_planWaitFor_96 : decode b_cr_planWaitFor 96 = .ok (.getfield 26, 3) := by decide +kernel
theorem d_cr_planWaitFor_99 : decode b_cr_planWaitFor 99 = .ok (.iconst 0, 1) := by decide +kernel
theorem d_cr_planWaitFor_100 : decode b_cr_planWaitFor 100 = .ok (.iload_n 2, 1) := by decide +kernel
theorem d_cr_planWaitFor_101 : decode b_cr_planWaitFor 101 = .ok (.invokevirtual 172, 3) := by decide +kernel
theorem d_cr_planWaitFor_104 : decode b_cr_planWaitFor 104 = .ok (.isub, 1) := by decide +kernel
theorem d_cr_planWaitFor_105 : decode b_cr_planWaitFor 105 = .ok (.istore 7, 2) := by decide +kernel
theorem d_cr_planWaitFor_107 : decode b_cr_planWaitFor 107 = .ok (.iload 6, 2) := by decide +kernel
theorem d_cr_planWaitFor_109 : decode b_cr_planWaitFor 109 = .ok (.iload 7, 2) := by decide +kernel
theorem d_cr_planWaitFor_111 : decode b_cr_planWaitFor 111 = .ok (.invokestatic 276, 3) := by decide +kernel
theorem d_cr_planWaitFor_114 : decode b_cr_planWaitFor 114 = .ok (.iconst 1, 1) := by decide +kernel
theorem d_cr_planWaitFor_115 : decode b_cr_planWaitFor 115 = .ok (.iadd, 1) := by decide +kernel
theorem d_cr_planWaitFor_116 : decode b_cr_planWaitFor 116 = .ok (.ireturn, 1) := by decide +kernel
theorem d_cr_change_0 : decode b_cr_change 0 = .ok (.aload_n 0, 1) := by decide +kernel
theorem d_cr_change_1 : decode b_cr_change 1 = .ok (.getfield 26, 3) := by decide +kernel
theorem d_cr_change_4 : decode b_cr_change 4 = .ok (.iload_n 1, 1) := by decide +kernel
theorem d_cr_change_5 : decode b_cr_change 5 = .ok (.invokevirtual 134, 3) := by decide +kernel
theorem d_cr_change_8 : decode b_cr_change 8 = .ok (.ifCond .eq 16, 3) := by decide +kernel
theorem d_cr_change_11 : decode b_cr_change 11 = .ok (.iload_n 2, 1) := by decide +kernel
theorem d_cr_change_12 : decode b_cr_change 12 = .ok (.aload_n 0, 1) := by decide +kernel
theorem d_cr_change_13 : decode b_cr_change 13 = .ok (.getfield 41, 3) := by decide +kernel
theorem d_cr_change_16 : decode b_cr_change 16 = .ok (.ldc 107, 2) := by decide +kernel
theorem d_cr_change_18 : decode b_cr_change 18 = .ok (.invokestatic 56, 3) := by decide +kernel
theorem d_cr_change_21 : decode b_cr_change 21 = .ok (.ifCond .ne 13, 3) := by decide +kernel
theorem d_cr_change_24 : decode b_cr_change 24 = .ok (.new 49, 3) := by decide +kernel
theorem d_cr_change_27 : decode b_cr_change 27 = .ok (.dup, 1) := by decide +kernel
theorem d_cr_change_28 : decode b_cr_change 28 = .ok (.ldc 137, 2) := by decide +kernel
theorem d_cr_change_30 : decode b_cr_change 30 = .ok (.invokespecial 53, 3) := by decide +kernel
theorem d_cr_change_33 : decode b_cr_change 33 = .ok (.athrow, 1) := by decide +kernel
theorem d_cr_change_34 : decode b_cr_change 34 = .ok (.aload_n 0, 1) := by decide +kernel
theorem d_cr_change_35 : decode b_cr_change 35 = .ok (.iload_n 1, 1) := by decide +kernel
theorem d_cr_change_36 : decode b_cr_change 36 = .ok (.invokevirtual 139, 3) := by decide +kernel
theorem d_cr_change_39 : decode b_cr_change 39 = .ok (.ifCond .ne 5, 3) := by decide +kernel
theorem d_cr_change_42 : decode b_cr_change 42 = .ok (.iconst (-1), 1) := by decide +kernel
theorem d_cr_change_43 : decode b_cr_change 43 = .ok (.ireturn, 1) := by decide +kernel
theorem d_cr_change_44 : decode b_cr_change 44 = .ok (.aload_n 0, 1) := by decide +kernel
theorem d_cr_change_45 : decode b_cr_change 45 = .ok (.getfield 26, 3) := by decide +kernel
theorem d_cr_change_48 : decode b_cr_change 48 = .ok (.getfield 115, 3) := by decide +kernel
theorem d_cr_change_51 : decode b_cr_change 51 = .ok (.iload_n 1, 1) := by decide +kernel
theorem d_cr_change_52 : decode b_cr_change 52 = .ok (.iaload, 1) := by decide +kernel
theorem d_cr_change_53 : decode b_cr_change 53 = .ok (.istore_n 3, 1) := by decide +kernel
theorem d_cr_change_54 : decode b_cr_change 54 = .ok (.aload_n 0, 1) := by decide +kernel
theorem d_cr_change_55 : decode b_cr_change 55 = .ok (.getfield 26, 3) := by decide +kernel
theorem d_cr_change_58 : decode b_cr_change 58 = .ok (.getfield 115, 3) := by decide +kernel
theorem d_cr_change_61 : decode b_cr_change 61 = .ok (.iload_n 1, 1) := by decide +kernel
theorem d_cr_change_62 : decode b_cr_change 62 = .ok (.iload_n 2, 1) := by decide +kernel
theorem d_cr_change_63 : decode b_cr_change 63 = .ok (.iastore, 1) := by decide +kernel
theorem d_cr_change_64 : decode b_cr_change 64 = .ok (.aload_n 0, 1) := by decide +kernel
theorem d_cr_change_65 : decode b_cr_change 65 = .ok (.iload_n 1, 1) := by decide +kernel
theorem d_cr_change_66 : decode b_cr_change 66 = .ok (.invokevirtual 118, 3) := by decide +kernel
theorem d_cr_change_69 : decode b_cr_change 69 = .ok (.ifCond .eq 15, 3) := by decide +kernel
theorem d_cr_change_72 : decode b_cr_change 72 = .ok (.aload_n 0, 1) := by decide +kernel
theorem d_cr_change_73 : decode b_cr_change 73 = .ok (.getfield 26, 3) := by decide +kernel
theorem d_cr_change_76 : decode b_cr_change 76 = .ok (.getfield 115, 3) := by decide +kernel
theorem d_cr_change_79 : decode b_cr_change 79 = .ok (.iload_n 1, 1) := by decide +kernel
theorem d_cr_change_80 : decode b_cr_change 80 = .ok (.iload_n 3, 1) := by decide +kernel
theorem d_cr_change_81 : decode b_cr_change 81 = .ok (.iastore, 1) := by decide +kernel
theorem d_cr_change_82 : decode b_cr_change 82 = .ok (.iconst 0, 1) := by decide +kernel
theorem d_cr_change_83 : decode b_cr_change 83 = .ok (.ireturn, 1) := by decide +kernel
theorem d_cr_change_84 : decode b_cr_change 84 = .ok (.iconst 1, 1) := by decide +kernel
theorem d_cr_change_85 : decode b_cr_change 85 = .ok (.ireturn, 1) := by decide +kernel
theorem d_cr_close_0 : decode b_cr_close 0 = .ok (.aload_n 0, 1) := by decide +kernel
theorem d_cr_close_1 : decode b_cr_close 1 = .ok (.getfield 12, 3) := by decide +kernel
theorem d_cr_close_4 : decode b_cr_close 4 = .ok (.iload_n 1, 1) := by decide +kernel
theorem d_cr_close_5 : decode b_cr_close 5 = .ok (.invokevirtual 74, 3) := by decide +kernel
theorem d_cr_close_8 : decode b_cr_close 8 = .ok (.ifCond .eq 22, 3) := by decide +kernel
theorem d_cr_close_11 : decode b_cr_close 11 = .ok (.iload_n 2, 1) := by decide +kernel
theorem d_cr_close_12 : decode b_cr_close 12 = .ok (.aload_n 0, 1) := by decide +kernel
theorem d_cr_close_13 : decode b_cr_close 13 = .ok (.getfield 41, 3) := by decide +kernel
theorem d_cr_close_16 : decode b_cr_close 16 = .ok (.if_icmp .lt 14, 3) := by decide +kernel
theorem d_cr_close_19 : decode b_cr_close 19 = .ok (.iload_n 2, 1) := by decide +kernel
theorem d_cr_close_20 : decode b_cr_close 20 = .ok (.iload_n 3, 1) := by decide +kernel
theorem d_cr_close_21 : decode b_cr_close 21 = .ok (.if_icmp .ge 9, 3) := by decide +kernel
theorem d_cr_close_24 : decode b_cr_close 24 = .ok (.iload_n 3, 1) := by decide +kernel
theorem d_cr_close_25 : decode b_cr_close 25 = .ok (.ldc 107, 2) := by decide +kernel
theorem d_cr_close_27 : decode b_cr_close 27 = .ok (.if_icmp .le 13, 3) := by decide +kernel
theorem d_cr_close_30 : decode b_cr_close 30 = .ok (.new 49, 3) := by decide +kernel
theorem d_cr_close_33 : decode b_cr_close 33 = .ok (.dup, 1) := by decide +kernel
theorem d_cr_close_34 : decode b_cr_close 34 = .ok (.ldc 146, 2) := by decide +kernel
theorem d_cr_close_36 : decode b_cr_close 36 = .ok (.invokespecial 53, 3) := by decide +kernel
theorem d_cr_close_39 : decode b_cr_close 39 = .ok (.athrow, 1) := by decide +kernel
theorem d_cr_close_40 : decode b_cr_close 40 = .ok (.aload_n 0, 1) := by decide +kernel
theorem d_cr_close_41 : decode b_cr_close 41 = .ok (.getfield 12, 3) := by decide +kernel
theorem d_cr_close_44 : decode b_cr_close 44 = .ok (.getfield 148, 3) := by decide +kernel
theorem d_cr_close_47 : decode b_cr_close 47 = .ok (.iload_n 1, 1) := by decide +kernel
theorem d_cr_close_48 : decode b_cr_close 48 = .ok (.iaload, 1) := by decide +kernel
theorem d_cr_close_49 : decode b_cr_close 49 = .ok (.iconst 4, 1) := by decide +kernel
theorem d_cr_close_50 : decode b_cr_close 50 = .ok (.if_icmp .lt 13, 3) := by decide +kernel
theorem d_cr_close_53 : decode b_cr_close 53 = .ok (.new 65, 3) := by decide +kernel
theorem d_cr_close_56 : decode b_cr_close 56 = .ok (.dup, 1) := by decide +kernel
theorem d_cr_close_57 : decode b_cr_close 57 = .ok (.ldc 151, 2) := by decide +kernel
theorem d_cr_close_59 : decode b_cr_close 59 = .ok (.invokespecial 69, 3) := by decide +kernel
theorem d_cr_close_62 : decode b_cr_close 62 = .ok (.athrow, 1) := by decide +kernel
theorem d_cr_close_63 : decode b_cr_close 63 = .ok (.aload_n 0, 1) := by decide +kernel
theorem d_cr_close_64 : decode b_cr_close 64 = .ok (.getfield 12, 3) := by decide +kernel
theorem d_cr_close_67 : decode b_cr_close 67 = .ok (.iload_n 1, 1) := by decide +kernel
theorem d_cr_close_68 : decode b_cr_close 68 = .ok (.iload_n 2, 1) := by decide +kernel
theorem d_cr_close_69 : decode b_cr_close 69 = .ok (.iload_n 3, 1) := by decide +kernel
theorem d_cr_close_70 : decode b_cr_close 70 = .ok (.invokevirtual 153, 3) := by decide +kernel
theorem d_cr_close_73 : decode b_cr_close 73 = .ok (.aload_n 0, 1) := by decide +kernel
theorem d_cr_close_74 : decode b_cr_close 74 = .ok (.iload_n 1, 1) := by decide +kernel
theorem d_cr_close_75 : decode b_cr_close 75 = .ok (.iload_n 2, 1) := by decide +kernel
theorem d_cr_close_76 : decode b_cr_close 76 = .ok (.iload_n 3, 1) := by decide +kernel
theorem d_cr_close_77 : decode b_cr_close 77 = .ok (.invokevirtual 156, 3) := by decide +kernel
theorem d_cr_close_80 : decode b_cr_close 80 = .ok (.ireturn, 1) := by decide +kernel
theorem d_cr_endSlotsOn_0 : decode b_cr_endSlotsOn 0 = .ok (.iconst 0, 1) := by decide +kernel
theorem d_cr_endSlotsOn_1 : decode b_cr_endSlotsOn 1 = .ok (.istore 4, 2) := by decide +kernel
theorem d_cr_endSlotsOn_3 : decode b_cr_endSlotsOn 3 = .ok (.iconst 1, 1) := by decide +kernel
theorem d_cr_endSlotsOn_4 : decode b_cr_endSlotsOn 4 = .ok (.istore 5, 2) := by decide +kernel
theorem d_cr_endSlotsOn_6 : decode b_cr_endSlotsOn 6 = .ok (.iload 5, 2) := by decide +kernel
theorem d_cr_endSlotsOn_8 : decode b_cr_endSlotsOn 8 = .ok (.aload_n 0, 1) := by decide +kernel
theorem d_cr_endSlotsOn_9 : decode b_cr_endSlotsOn 9 = .ok (.getfield 26, 3) := by decide +kernel
theorem d_cr_endSlotsOn_12 : decode b_cr_endSlotsOn 12 = .ok (.getfield 110, 3) := by decide +kernel
theorem d_cr_endSlotsOn_15 : decode b_cr_endSlotsOn 15 = .ok (.if_icmp .gt 84, 3) := by decide +kernel
theorem d_cr_endSlotsOn_18 : decode b_cr_endSlotsOn 18 = .ok (.aload_n 0, 1) := by decide +kernel
theorem d_cr_endSlotsOn_19 : decode b_cr_endSlotsOn 19 = .ok (.getfield 26, 3) := by decide +kernel
theorem d_cr_endSlotsOn_22 : decode b_cr_endSlotsOn 22 = .ok (.iload 5, 2) := by decide +kernel
theorem d_cr_endSlotsOn_24 : decode b_cr_endSlotsOn 24 = .ok (.iload_n 1, 1) := by decide +kernel
theorem d_cr_endSlotsOn_25 : decode b_cr_endSlotsOn 25 = .ok (.invokevirtual 260, 3) := by decide +kernel
theorem d_cr_endSlotsOn_28 : decode b_cr_endSlotsOn 28 = .ok (.istore 6, 2) := by decide +kernel
theorem d_cr_endSlotsOn_30 : decode b_cr_endSlotsOn 30 = .ok (.aload_n 0, 1) := by decide +kernel
theorem d_cr_endSlotsOn_31 : decode b_cr_endSlotsOn 31 = .ok (.getfield 26, 3) := by decide +kernel
theorem d_cr_endSlotsOn_34 : decode b_cr_endSlotsOn 34 = .ok (.getfield 142, 3) := by decide +kernel
theorem d_cr_endSlotsOn_37 : decode b_cr_endSlotsOn 37 = .ok (.iload 5, 2) := by decide +kernel
theorem d_cr_endSlotsOn_39 : decode b_cr_endSlotsOn 39 = .ok (.baload, 1) := by decide +kernel
theorem d_cr_endSlotsOn_40 : decode b_cr_endSlotsOn 40 = .ok (.ifCond .eq 53, 3) := by decide +kernel
theorem d_cr_endSlotsOn_43 : decode b_cr_endSlotsOn 43 = .ok (.iload 6, 2) := by decide +kernel
theorem d_cr_endSlotsOn_45 : decode b_cr_endSlotsOn 45 = .ok (.iconst (-1), 1) := by decide +kernel
theorem d_cr_endSlotsOn_46 : decode b_cr_endSlotsOn 46 = .ok (.if_icmp .eq 47, 3) := by decide +kernel
theorem d_cr_endSlotsOn_49 : decode b_cr_endSlotsOn 49 = .ok (.iload_n 2, 1) := by decide +kernel
theorem d_cr_endSlotsOn_50 : decode b_cr_endSlotsOn 50 = .ok (.iload_n 3, 1) := by decide +kernel
theorem d_cr_endSlotsOn_51 : decode b_cr_endSlotsOn 51 = .ok (.aload_n 0, 1) := by decide +kernel
theorem d_cr_endSlotsOn_52 : decode b_cr_endSlotsOn 52 = .ok (.getfield 26, 3) := by decide +kernel
theorem d_cr_endSlotsOn_55 : decode b_cr_endSlotsOn 55 = .ok (.iload 5, 2) := by decide +kernel
theorem d_cr_endSlotsOn_57 : decode b_cr_endSlotsOn 57 = .ok (.iload 6, 2) := by decide +kernel
theorem d_cr_endSlotsOn_59 : decode b_cr_endSlotsOn 59 = .ok (.invokevirtual 169, 3) := by decide +kernel
theorem d_cr_endSlotsOn_62 : decode b_cr_endSlotsOn 62 = .ok (.aload_n 0, 1) := by decide +kernel
theorem d_cr_endSlotsOn_63 : decode b_cr_endSlotsOn 63 = .ok (.getfield 26, 3) := by decide +kernel
theorem d_cr_endSlotsOn_66 : decode b_cr_endSlotsOn 66 = .ok (.iload 5, 2) := by decide +kernel
theorem d_cr_endSlotsOn_68 : decode b_cr_endSlotsOn 68 = .ok (.iload 6, 2) := by decide +kernel
theorem d_cr_endSlotsOn_70 : decode b_cr_endSlotsOn 70 = .ok (.invokevirtual 172, 3) := by decide +kernel
theorem d_cr_endSlotsOn_73 : decode b_cr_endSlotsOn 73 = .ok (.invokestatic 263, 3) := by decide +kernel
theorem d_cr_endSlotsOn_76 : decode b_cr_endSlotsOn 76 = .ok (.ifCond .eq 17, 3) := by decide +kernel
theorem d_cr_endSlotsOn_79 : decode b_cr_endSlotsOn 79 = .ok (.aload_n 0, 1) := by decide +kernel
theorem d_cr_endSlotsOn_80 : decode b_cr_endSlotsOn 80 = .ok (.getfield 26, 3) := by decide +kernel
theorem d_cr_endSlotsOn_83 : decode b_cr_endSlotsOn 83 = .ok (.getfield 142, 3) := by decide +kernel
theorem d_cr_endSlotsOn_86 : decode b_cr_endSlotsOn 86 = .ok (.iload 5, 2) := by decide +kernel
theorem d_cr_endSlotsOn_88 : decode b_cr_endSlotsOn 88 = .ok (.iconst 0, 1) := by decide +kernel
theorem d_cr_endSlotsOn_89 : decode b_cr_endSlotsOn 89 = .ok (.bastore, 1) := by decide +kernel
theorem d_cr_endSlotsOn_90 : decode b_cr_endSlotsOn 90 = .ok (.iinc 4 1, 3) := by decide +kernel
theorem d_cr_endSlotsOn_93 : decode b_cr_endSlotsOn 93 = .ok (.iinc 5 1, 3) := by decide +kernel
theorem d_cr_endSlotsOn_96 : decode b_cr_endSlotsOn 96 = .ok (.goto (-90), 3) := by decide +kernel
theorem d_cr_endSlotsOn_99 : decode b_cr_endSlotsOn 99 = .ok (.iload 4, 2) := by decide +kernel
theorem d_cr_endSlotsOn_101 : decode b_cr_endSlotsOn 101 = .ok (.ireturn, 1) := by decide +kernel
theorem d_cr_conflict_0 : decode b_cr_conflict 0 = .ok (.iload_n 2, 1) := by decide +kernel
theorem d_cr_conflict_1 : decode b_cr_conflict 1 = .ok (.iconst 0, 1) := by decide +kernel
theorem d_cr_conflict_2 : decode b_cr_conflict 2 = .ok (.iconst 3, 1) := by decide +kernel
theorem d_cr_conflict_3 : decode b_cr_conflict 3 = .ok (.invokestatic 56, 3) := by decide +kernel
theorem d_cr_conflict_6 : decode b_cr_conflict 6 = .ok (.ifCond .ne 13, 3) := by decide +kernel
theorem d_cr_conflict_9 : decode b_cr_conflict 9 = .ok (.new 49, 3) := by decide +kernel
theorem d_cr_conflict_12 : decode b_cr_conflict 12 = .ok (.dup, 1) := by decide +kernel
theorem d_cr_conflict_13 : decode b_cr_conflict 13 = .ok (.ldc 159, 2) := by decide +kernel
theorem d_cr_conflict_15 : decode b_cr_conflict 15 = .ok (.invokespecial 53, 3) := by decide +kernel
theorem d_cr_conflict_18 : decode b_cr_conflict 18 = .ok (.athrow, 1) := by decide +kernel
theorem d_cr_conflict_19 : decode b_cr_conflict 19 = .ok (.iload_n 1, 1) := by decide +kernel
theorem d_cr_conflict_20 : decode b_cr_conflict 20 = .ok (.ifCond .lt 12, 3) := by decide +kernel
theorem d_cr_conflict_23 : decode b_cr_conflict 23 = .ok (.iload_n 1, 1) := by decide +kernel
theorem d_cr_conflict_24 : decode b_cr_conflict 24 = .ok (.aload_n 0, 1) := by decide +kernel
theorem d_cr_conflict_25 : decode b_cr_conflict 25 = .ok (.iload_n 1, 1) := by decide +kernel
theorem d_cr_conflict_26 : decode b_cr_conflict 26 = .ok (.invokevirtual 161, 3) := by decide +kernel
theorem d_cr_conflict_29 : decode b_cr_conflict 29 = .ok (.if_icmp .lt 5, 3) := by decide +kernel
theorem d_cr_conflict_32 : decode b_cr_conflict 32 = .ok (.iconst (-1), 1) := by decide +kernel
theorem d_cr_conflict_33 : decode b_cr_conflict 33 = .ok (.ireturn, 1) := by decide +kernel
theorem d_cr_conflict_34 : decode b_cr_conflict 34 = .ok (.aload_n 0, 1) := by decide +kernel
theorem d_cr_conflict_35 : decode b_cr_conflict 35 = .ok (.getfield 34, 3) := by decide +kernel
theorem d_cr_conflict_38 : decode b_cr_conflict 38 = .ok (.iload_n 2, 1) := by decide +kernel
theorem d_cr_conflict_39 : decode b_cr_conflict 39 = .ok (.iaload, 1) := by decide +kernel
theorem d_cr_conflict_40 : decode b_cr_conflict 40 = .ok (.ireturn, 1) := by decide +kernel
theorem d_cr_at_0 : decode b_cr_at 0 = .ok (.aload_n 0, 1) := by decide +kernel
theorem d_cr_at_1 : decode b_cr_at 1 = .ok (.getfield 26, 3) := by decide +kernel
theorem d_cr_at_4 : decode b_cr_at 4 = .ok (.iload_n 1, 1) := by decide +kernel
theorem d_cr_at_5 : decode b_cr_at 5 = .ok (.invokevirtual 134, 3) := by decide +kernel
theorem d_cr_at_8 : decode b_cr_at 8 = .ok (.ifCond .eq 29, 3) := by decide +kernel
theorem d_cr_at_11 : decode b_cr_at 11 = .ok (.iload_n 2, 1) := by decide +kernel
theorem d_cr_at_12 : decode b_cr_at 12 = .ok (.ifCond .lt 25, 3) := by decide +kernel
theorem d_cr_at_15 : decode b_cr_at 15 = .ok (.iload_n 2, 1) := by decide +kernel
theorem d_cr_at_16 : decode b_cr_at 16 = .ok (.aload_n 0, 1) := by decide +kernel
theorem d_cr_at_17 : decode b_cr_at 17 = .ok (.getfield 26, 3) := by decide +kernel
theorem d_cr_at_20 : decode b_cr_at 20 = .ok (.getfield 104, 3) := by decide +kernel
theorem d_cr_at_23 : decode b_cr_at 23 = .ok (.iload_n 1, 1) := by decide +kernel
theorem d_cr_at_24 : decode b_cr_at 24 = .ok (.iaload, 1) := by decide +kernel
theorem d_cr_at_25 : decode b_cr_at 25 = .ok (.if_icmp .ge 12, 3) := by decide +kernel
theorem d_cr_at_28 : decode b_cr_at 28 = .ok (.iload_n 3, 1) := by decide +kernel
theorem d_cr_at_29 : decode b_cr_at 29 = .ok (.iconst 0, 1) := by decide +kernel
theorem d_cr_at_30 : decode b_cr_at 30 = .ok (.iconst 3, 1) := by decide +kernel
theorem d_cr_at_31 : decode b_cr_at 31 = .ok (.invokestatic 56, 3) := by decide +kernel
theorem d_cr_at_34 : decode b_cr_at 34 = .ok (.ifCond .ne 13, 3) := by decide +kernel
theorem d_cr_at_37 : decode b_cr_at 37 = .ok (.new 164, 3) := by decide +kernel
theorem d_cr_at_40 : decode b_cr_at 40 = .ok (.dup, 1) := by decide +kernel
theorem d_cr_at_41 : decode b_cr_at 41 = .ok (.ldc 166, 2) := by decide +kernel
theorem d_cr_at_43 : decode b_cr_at 43 = .ok (.invokespecial 168, 3) := by decide +kernel
theorem d_cr_at_46 : decode b_cr_at 46 = .ok (.athrow, 1) := by decide +kernel
theorem d_cr_at_47 : decode b_cr_at 47 = .ok (.iload_n 3, 1) := by decide +kernel
theorem d_cr_at_48 : decode b_cr_at 48 = .ok (.tableswitch 58 0 2 #[28, 38, 48], 28) := by decide +kernel
theorem d_cr_at_76 : decode b_cr_at 76 = .ok (.aload_n 0, 1) := by decide +kernel
theorem d_cr_at_77 : decode b_cr_at 77 = .ok (.getfield 26, 3) := by decide +kernel
theorem d_cr_at_80 : decode b_cr_at 80 = .ok (.iload_n 1, 1) := by decide +kernel
theorem d_cr_at_81 : decode b_cr_at 81 = .ok (.iload_n 2, 1) := by decide +kernel
theorem d_cr_at_82 : decode b_cr_at 82 = .ok (.invokevirtual 100, 3) := by decide +kernel
theorem d_cr_at_85 : decode b_cr_at 85 = .ok (.ireturn, 1) := by decide +kernel
theorem d_cr_at_86 : decode b_cr_at 86 = .ok (.aload_n 0, 1) := by decide +kernel
theorem d_cr_at_87 : decode b_cr_at 87 = .ok (.getfield 26, 3) := by decide +kernel
theorem d_cr_at_90 : decode b_cr_at 90 = .ok (.iload_n 1, 1) := by decide +kernel
theorem d_cr_at_91 : decode b_cr_at 91 = .ok (.iload_n 2, 1) := by decide +kernel
theorem d_cr_at_92 : decode b_cr_at 92 = .ok (.invokevirtual 169, 3) := by decide +kernel
theorem d_cr_at_95 : decode b_cr_at 95 = .ok (.ireturn, 1) := by decide +kernel
theorem d_cr_at_96 : decode b_cr_at 96 = .ok (.aload_n 0, 1) := by decide +kernel
theorem d_cr_at_97 : decode b_cr_at 97 = .ok (.getfield 26, 3) := by decide +kernel
theorem d_cr_at_100 : decode b_cr_at 100 = .ok (.iload_n 1, 1) := by decide +kernel
theorem d_cr_at_101 : decode b_cr_at 101 = .ok (.iload_n 2, 1) := by decide +kernel
theorem d_cr_at_102 : decode b_cr_at 102 = .ok (.invokevirtual 172, 3) := by decide +kernel
theorem d_cr_at_105 : decode b_cr_at 105 = .ok (.ireturn, 1) := by decide +kernel
theorem d_cr_at_106 : decode b_cr_at 106 = .ok (.aload_n 0, 1) := by decide +kernel
theorem d_cr_at_107 : decode b_cr_at 107 = .ok (.getfield 26, 3) := by decide +kernel
theorem d_cr_at_110 : decode b_cr_at 110 = .ok (.iload_n 1, 1) := by decide +kernel
theorem d_cr_at_111 : decode b_cr_at 111 = .ok (.iload_n 2, 1) := by decide +kernel
theorem d_cr_at_112 : decode b_cr_at 112 = .ok (.invokevirtual 175, 3) := by decide +kernel
theorem d_cr_at_115 : decode b_cr_at 115 = .ok (.ifCond .eq 7, 3) := by decide +kernel
theorem d_cr_at_118 : decode b_cr_at 118 = .ok (.iconst 1, 1) := by decide +kernel
theorem d_cr_at_119 : decode b_cr_at 119 = .ok (.goto 4, 3) := by decide +kernel
theorem d_cr_at_122 : decode b_cr_at 122 = .ok (.iconst 0, 1) := by decide +kernel
theorem d_cr_at_123 : decode b_cr_at 123 = .ok (.ireturn, 1) := by decide +kernel
end
section
theorem d_md_init_0 : decode b_md_init 0 = .ok (.aload_n 0, 1) := by decide +kernel
theorem d_md_init_1 : decode b_md_init 1 = .ok (.invokespecial 1, 3) := by decide +kernel
theorem d_md_init_4 : decode b_md_init 4 = .ok (.aload_n 0, 1) := by decide +kernel
theorem d_md_init_5 : decode b_md_init 5 = .ok (.bipush 12, 2) := by decide +kernel
theorem d_md_init_7 : decode b_md_init 7 = .ok (.newarray .int, 2) := by decide +kernel
theorem d_md_init_9 : decode b_md_init 9 = .ok (.putfield 7, 3) := by decide +kernel
theorem d_md_init_12 : decode b_md_init 12 = .ok (.aload_n 0, 1) := by decide +kernel
theorem d_md_init_13 : decode b_md_init 13 = .ok (.bipush 12, 2) := by decide +kernel
theorem d_md_init_15 : decode b_md_init 15 = .ok (.newarray .int, 2) := by decide +kernel
theorem d_md_init_17 : decode b_md_init 17 = .ok (.putfield 13, 3) := by decide +kernel
theorem d_md_init_20 : decode b_md_init 20 = .ok (.aload_n 0, 1) := by decide +kernel
theorem d_md_init_21 : decode b_md_init 21 = .ok (.bipush 12, 2) := by decide +kernel
theorem d_md_init_23 : decode b_md_init 23 = .ok (.newarray .int, 2) := by decide +kernel
theorem d_md_init_25 : decode b_md_init 25 = .ok (.putfield 16, 3) := by decide +kernel
theorem d_md_init_28 : decode b_md_init 28 = .ok (.aload_n 0, 1) := by decide +kernel
theorem d_md_init_29 : decode b_md_init 29 = .ok (.bipush 12, 2) := by decide +kernel
theorem d_md_init_31 : decode b_md_init 31 = .ok (.newarray .int, 2) := by decide +kernel
theorem d_md_init_33 : decode b_md_init 33 = .ok (.putfield 19, 3) := by decide +kernel
theorem d_md_init_36 : decode b_md_init 36 = .ok (.aload_n 0, 1) := by decide +kernel
theorem d_md_init_37 : decode b_md_init 37 = .ok (.bipush 60, 2) := by decide +kernel
theorem d_md_init_39 : decode b_md_init 39 = .ok (.newarray .int, 2) := by decide +kernel
theorem d_md_init_41 : decode b_md_init 41 = .ok (.putfield 22, 3) := by decide +kernel
theorem d_md_init_44 : decode b_md_init 44 = .ok (.aload_n 0, 1) := by decide +kernel
theorem d_md_init_45 : decode b_md_init 45 = .ok (.bipush 12, 2) := by decide +kernel
theorem d_md_init_47 : decode b_md_init 47 = .ok (.newarray .int, 2) := by decide +kernel
theorem d_md_init_49 : decode b_md_init 49 = .ok (.putfield 25, 3) := by decide +kernel
theorem d_md_init_52 : decode b_md_init 52 = .ok (.aload_n 0, 1) := by decide +kernel
theorem d_md_init_53 : decode b_md_init 53 = .ok (.bipush 48, 2) := by decide +kernel
theorem d_md_init_55 : decode b_md_init 55 = .ok (.newarray .int, 2) := by decide +kernel
theorem d_md_init_57 : decode b_md_init 57 = .ok (.putfield 28, 3) := by decide +kernel
theorem d_md_init_60 : decode b_md_init 60 = .ok (.aload_n 0, 1) := by decide +kernel
theorem d_md_init_61 : decode b_md_init 61 = .ok (.bipush 48, 2) := by decide +kernel
theorem d_md_init_63 : decode b_md_init 63 = .ok (.newarray .int, 2) := by decide +kernel
theorem d_md_init_65 : decode b_md_init 65 = .ok (.putfield 31, 3) := by decide +kernel
theorem d_md_init_68 : decode b_md_init 68 = .ok (.aload_n 0, 1) := by decide +kernel
theorem d_md_init_69 : decode b_md_init 69 = .ok (.bipush 12, 2) := by decide +kernel
theorem d_md_init_71 : decode b_md_init 71 = .ok (.newarray .int, 2) := by decide +kernel
theorem d_md_init_73 : decode b_md_init 73 = .ok (.putfield 34, 3) := by decide +kernel
theorem d_md_init_76 : decode b_md_init 76 = .ok (.aload_n 0, 1) := by decide +kernel
theorem d_md_init_77 : decode b_md_init 77 = .ok (.bipush 12, 2) := by decide +kernel
theorem d_md_init_79 : decode b_md_init 79 = .ok (.newarray .int, 2) := by decide +kernel
theorem d_md_init_81 : decode b_md_init 81 = .ok (.putfield 37, 3) := by decide +kernel
theorem d_md_init_84 : decode b_md_init 84 = .ok (.aload_n 0, 1) := by decide +kernel
theorem d_md_init_85 : decode b_md_init 85 = .ok (.bipush 12, 2) := by decide +kernel
theorem d_md_init_87 : decode b_md_init 87 = .ok (.newarray .int, 2) := by decide +kernel
theorem d_md_init_89 : decode b_md_init 89 = .ok (.putfield 40, 3) := by decide +kernel
theorem d_md_init_92 : decode b_md_init 92 = .ok (.aload_n 0, 1) := by decide +kernel
theorem d_md_init_93 : decode b_md_init 93 = .ok (.bipush 31, 2) := by decide +kernel
theorem d_md_init_95 : decode b_md_init 95 = .ok (.newarray .int, 2) := by decide +kernel
theorem d_md_init_97 : decode b_md_init 97 = .ok (.putfield 43, 3) := by decide +kernel
theorem d_md_init_100 : decode b_md_init 100 = .ok (.aload_n 0, 1) := by decide +kernel
theorem d_md_init_101 : decode b_md_init 101 = .ok (.bipush 31, 2) := by decide +kernel
theorem d_md_init_103 : decode b_md_init 103 = .ok (.newarray .int, 2) := by decide +kernel
theorem d_md_init_105 : decode b_md_init 105 = .ok (.putfield 46, 3) := by decide +kernel
theorem d_md_init_108 : decode b_md_init 108 = .ok (.aload_n 0, 1) := by decide +kernel
theorem d_md_init_109 : decode b_md_init 109 = .ok (.bipush 31, 2) := by decide +kernel
theorem d_md_init_111 : decode b_md_init 111 = .ok (.newarray .boolean, 2) := by decide +kernel
theorem d_md_init_113 : decode b_md_init 113 = .ok (.putfield 49, 3) := by decide +kernel
theorem d_md_init_116 : decode b_md_init 116 = .ok (.aload_n 0, 1) := by decide +kernel
theorem d_md_init_117 : decode b_md_init 117 = .ok (.bipush 31, 2) := by decide +kernel
theorem d_md_init_119 : decode b_md_init 119 = .ok (.newarray .int, 2) := by decide +kernel
theorem d_md_init_121 : decode b_md_init 121 = .ok (.putfield 53, 3) := by decide +kernel
theorem d_md_init_124 : decode b_md_init 124 = .ok (.aload_n 0, 1) := by decide +kernel
theorem d_md_init_125 : decode b_md_init 125 = .ok (.sipush 248, 3) := by decide +kernel
theorem d_md_init_128 : decode b_md_init 128 = .ok (.newarray .int, 2) := by decide +kernel
theorem d_md_init_130 : decode b_md_init 130 = .ok (.putfield 56, 3) := by decide +kernel
theorem d_md_init_133 : decode b_md_init 133 = .ok (.aload_n 0, 1) := by decide +kernel
theorem d_md_init_134 : decode b_md_init 134 = .ok (.sipush 248, 3) := by decide +kernel
theorem d_md_init_137 : decode b_md_init 137 = .ok (.newarray .int, 2) := by decide +kernel
theorem d_md_init_139 : decode b_md_init 139 = .ok (.putfield 59, 3) := by decide +kernel
theorem d_md_init_142 : decode b_md_init 142 = .ok (.aload_n 0, 1) := by decide +kernel
theorem d_md_init_143 : decode b_md_init 143 = .ok (.bipush 8, 2) := by decide +kernel
theorem d_md_init_145 : decode b_md_init 145 = .ok (.newarray .int, 2) := by decide +kernel
theorem d_md_init_147 : decode b_md_init 147 = .ok (.putfield 62, 3) := by decide +kernel
theorem d_md_init_150 : decode b_md_init 150 = .ok (.return_, 1) := by decide +kernel
theorem d_md_thrown_0 : decode b_md_thrown 0 = .ok (.aload_n 0, 1) := by decide +kernel
theorem d_md_thrown_1 : decode b_md_thrown 1 = .ok (.getfield 65, 3) := by decide +kernel
theorem d_md_thrown_4 : decode b_md_thrown 4 = .ok (.ireturn, 1) := by decide +kernel
theorem d_md_piece_0 : decode b_md_piece 0 = .ok (.iload_n 1, 1) := by decide +kernel
theorem d_md_piece_1 : decode b_md_piece 1 = .ok (.invokestatic 82, 3) := by decide +kernel
theorem d_md_piece_4 : decode b_md_piece 4 = .ok (.ifCond .eq 36, 3) := by decide +kernel
theorem d_md_piece_7 : decode b_md_piece 7 = .ok (.iload_n 2, 1) := by decide +kernel
theorem d_md_piece_8 : decode b_md_piece 8 = .ok (.invokestatic 82, 3) := by decide +kernel
theorem d_md_piece_11 : decode b_md_piece 11 = .ok (.ifCond .eq 29, 3) := by decide +kernel
theorem d_md_piece_14 : decode b_md_piece 14 = .ok (.iload_n 1, 1) := by decide +kernel
theorem d_md_piece_15 : decode b_md_piece 15 = .ok (.iload_n 2, 1) := by decide +kernel
theorem d_md_piece_16 : decode b_md_piece 16 = .ok (.if_icmp .eq 24, 3) := by decide +kernel
theorem d_md_piece_19 : decode b_md_piece 19 = .ok (.iload_n 3, 1) := by decide +kernel
theorem d_md_piece_20 : decode b_md_piece 20 = .ok (.iconst 1, 1) := by decide +kernel
theorem d_md_piece_21 : decode b_md_piece 21 = .ok (.bipush 100, 2) := by decide +kernel
theorem d_md_piece_23 : decode b_md_piece 23 = .ok (.invokestatic 86, 3) := by decide +kernel
theorem d_md_piece_26 : decode b_md_piece 26 = .ok (.ifCond .eq 14, 3) := by decide +kernel
theorem d_md_piece_29 : decode b_md_piece 29 = .ok (.iload 4, 2) := by decide +kernel
theorem d_md_piece_31 : decode b_md_piece 31 = .ok (.iconst 1, 1) := by decide +kernel
theorem d_md_piece_32 : decode b_md_piece 32 = .ok (.bipush 100, 2) := by decide +kernel
theorem d_md_piece_34 : decode b_md_piece 34 = .ok (.invokestatic 86, 3) := by decide +kernel
theorem d_md_piece_37 : decode b_md_piece 37 = .ok (.ifCond .ne 9, 3) := by decide +kernel
theorem d_md_piece_40 : decode b_md_piece 40 = .ok (.aload_n 0, 1) := by decide +kernel
theorem d_md_piece_41 : decode b_md_piece 41 = .ok (.iconst 1, 1) := by decide +kernel
theorem d_md_piece_42 : decode b_md_piece 42 = .ok (.invokevirtual 90, 3) := by decide +kernel
theorem d_md_piece_45 : decode b_md_piece 45 = .ok (.ireturn, 1) := by decide +kernel
theorem d_md_piece_46 : decode b_md_piece 46 = .ok (.aload_n 0, 1) := by decide +kernel
theorem d_md_piece_47 : decode b_md_piece 47 = .ok (.getfield 69, 3) := by decide +kernel
theorem d_md_piece_50 : decode b_md_piece 50 = .ok (.bipush 12, 2) := by decide +kernel
theorem d_md_piece_52 : decode b_md_piece 52 = .ok (.if_icmp .ne 9, 3) := by decide +kernel
theorem d_md_piece_55 : decode b_md_piece 55 = .ok (.aload_n 0, 1) := by decide +kernel
theorem d_md_piece_56 : decode b_md_piece 56 = .ok (.iconst 2, 1) := by decide +kernel
theorem d_md_piece_57 : decode b_md_piece 57 = .ok (.invokevirtual 90, 3) := by decide +kernel
theorem d_md_piece_60 : decode b_md_piece 60 = .ok (.ireturn, 1) := by decide +kernel
theorem d_md_piece_61 : decode b_md_piece 61 = .ok (.aload_n 0, 1) := by decide +kernel
theorem d_md_piece_62 : decode b_md_piece 62 = .ok (.iconst 0, 1) := by decide +kernel
theorem d_md_piece_63 : decode b_md_piece 63 = .ok (.putfield 65, 3) := by decide +kernel
theorem d_md_piece_66 : decode b_md_piece 66 = .ok (.aload_n 0, 1) := by decide +kernel
theorem d_md_piece_67 : decode b_md_piece 67 = .ok (.getfield 7, 3) := by decide +kernel
theorem d_md_piece_70 : decode b_md_piece 70 = .ok (.aload_n 0, 1) := by decide +kernel
theorem d_md_piece_71 : decode b_md_piece 71 = .ok (.getfield 69, 3) := by decide +kernel
theorem d_md_piece_74 : decode b_md_piece 74 = .ok (.iload_n 1, 1) := by decide +kernel
theorem d_md_piece_75 : decode b_md_piece 75 = .ok (.iastore, 1) := by decide +kernel
theorem d_md_piece_76 : decode b_md_piece 76 = .ok (.aload_n 0, 1) := by decide +kernel
theorem d_md_piece_77 : decode b_md_piece 77 = .ok (.getfield 13, 3) := by decide +kernel
theorem d_md_piece_80 : decode b_md_piece 80 = .ok (.aload_n 0, 1) := by decide +kernel
theorem d_md_piece_81 : decode b_md_piece 81 = .ok (.getfield 69, 3) := by decide +kernel
theorem d_md_piece_84 : decode b_md_piece 84 = .ok (.iload_n 2, 1) := by decide +kernel
theorem d_md_piece_85 : decode b_md_piece 85 = .ok (.iastore, 1) := by decide +kernel
theorem d_md_piece_86 : decode b_md_piece 86 = .ok (.aload_n 0, 1) := by decide +kernel
theorem d_md_piece_87 : decode b_md_piece 87 = .ok (.getfield 16, 3) := by decide +kernel
theorem d_md_piece_90 : decode b_md_piece 90 = .ok (.aload_n 0, 1) := by decide +kernel
theorem d_md_piece_91 : decode b_md_piece 91 = .ok (.getfield 69, 3) := by decide +kernel
theorem d_md_piece_94 : decode b_md_piece 94 = .ok (.iload_n 3, 1) := by decide +kernel
theorem d_md_piece_95 : decode b_md_piece 95 = .ok (.iastore, 1) := by decide +kernel
theorem d_md_piece_96 : decode b_md_piece 96 = .ok (.aload_n 0, 1) := by decide +kernel
theorem d_md_piece_97 : decode b_md_piece 97 = .ok (.getfield 19, 3) := by decide +kernel
theorem d_md_piece_100 : decode b_md_piece 100 = .ok (.aload_n 0, 1) := by decide +kernel
theorem d_md_piece_101 : decode b_md_piece 101 = .ok (.getfield 69, 3) := by decide +kernel
theorem d_md_piece_104 : decode b_md_piece 104 = .ok (.iload 4, 2) := by decide +kernel
theorem d_md_piece_106 : decode b_md_piece 106 = .ok (.iastore, 1) := by decide +kernel
theorem d_md_piece_107 : decode b_md_piece 107 = .ok (.aload_n 0, 1) := by decide +kernel
theorem d_md_piece_108 : decode b_md_piece 108 = .ok (.getfield 22, 3) := by decide +kernel
theorem d_md_piece_111 : decode b_md_piece 111 = .ok (.iconst 5, 1) := by decide +kernel
theorem d_md_piece_112 : decode b_md_piece 112 = .ok (.aload_n 0, 1) := by decide +kernel
theorem d_md_piece_113 : decode b_md_piece 113 = .ok (.getfield 69, 3) := by decide +kernel
theorem d_md_piece_116 : decode b_md_piece 116 = .ok (.imul, 1) := by decide +kernel
theorem d_md_piece_117 : decode b_md_piece 117 = .ok (.iconst 2, 1) := by decide +kernel
theorem d_md_piece_118 : decode b_md_piece 118 = .ok (.iadd, 1) := by decide +kernel
theorem d_md_piece_119 : decode b_md_piece 119 = .ok (.bipush 100, 2) := by decide +kernel
theorem d_md_piece_121 : decode b_md_piece 121 = .ok (.iastore, 1) := by decide +kernel
theorem d_md_piece_122 : decode b_md_piece 122 = .ok (.aload_n 0, 1) := by decide +kernel
theorem d_md_piece_123 : decode b_md_piece 123 = .ok (.dup, 1) := by decide +kernel
theorem d_md_piece_124 : decode b_md_piece 124 = .ok (.getfield 69, 3) := by decide +kernel
theorem d_md_piece_127 : decode b_md_piece 127 = .ok (.iconst 1, 1) := by decide +kernel
theorem d_md_piece_128 : decode b_md_piece 128 = .ok (.iadd, 1) := by decide +kernel
theorem d_md_piece_129 : decode b_md_piece 129 = .ok (.putfield 69, 3) := by decide +kernel
theorem d_md_piece_132 : decode b_md_piece 132 = .ok (.aload_n 0, 1) := by decide +kernel
theorem d_md_piece_133 : decode b_md_piece 133 = .ok (.getfield 69, 3) := by decide +kernel
theorem d_md_piece_136 : decode b_md_piece 136 = .ok (.iconst 1, 1) := by decide +kernel
theorem d_md_piece_137 : decode b_md_piece 137 = .ok (.isub, 1) := by decide +kernel
theorem d_md_piece_138 : decode b_md_piece 138 = .ok (.ireturn, 1) := by decide +kernel
theorem d_md_isPoint_0 : decode b_md_isPoint 0 = .ok (.iload_n 0, 1) := by decide +kernel
theorem d_md_isPoint_1 : decode b_md_isPoint 1 = .ok (.ifCond .lt 13, 3) := by decide +kernel
theorem d_md_isPoint_4 : decode b_md_isPoint 4 = .ok (.iload_n 0, 1) := by decide +kernel
theorem d_md_isPoint_5 : decode b_md_isPoint 5 = .ok (.bipush 8, 2) := by decide +kernel
theorem d_md_isPoint_7 : decode b_md_isPoint 7 = .ok (.if_icmp .ge 7, 3) := by decide +kernel
theorem d_md_isPoint_10 : decode b_md_isPoint 10 = .ok (.iconst 1, 1) := by decide +kernel
theorem d_md_isPoint_11 : decode b_md_isPoint 11 = .ok (.goto 4, 3) := by decide +kernel
theorem d_md_isPoint_14 : decode b_md_isPoint 14 = .ok (.iconst 0, 1) := by decide +kernel
theorem d_md_isPoint_15 : decode b_md_isPoint 15 = .ok (.ireturn, 1) := by decide +kernel
theorem d_md_in_0 : decode b_md_in 0 = .ok (.iload_n 0, 1) := by decide +kernel
theorem d_md_in_1 : decode b_md_in 1 = .ok (.iload_n 1, 1) := by decide +kernel
theorem d_md_in_2 : decode b_md_in 2 = .ok (.if_icmp .lt 12, 3) := by decide +kernel
theorem d_md_in_5 : decode b_md_in 5 = .ok (.iload_n 0, 1) := by decide +kernel
theorem d_md_in_6 : decode b_md_in 6 = .ok (.iload_n 2, 1) := by decide +kernel
theorem d_md_in_7 : decode b_md_in 7 = .ok (.if_icmp .gt 7, 3) := by decide +kernel
theorem d_md_in_10 : decode b_md_in 10 = .ok (.iconst 1, 1) := by decide +kernel
theorem d_md_in_11 : decode b_md_in 11 = .ok (.goto 4, 3) := by decide +kernel
theorem d_md_in_14 : decode b_md_in 14 = .ok (.iconst 0, 1) := by decide +kernel
theorem d_md_in_15 : decode b_md_in 15 = .ok (.ireturn, 1) := by decide +kernel
theorem d_md_fails_0 : decode b_md_fails 0 = .ok (.aload_n 0, 1) := by decide +kernel
theorem d_md_fails_1 : decode b_md_fails 1 = .ok (.iload_n 1, 1) := by decide +kernel
theorem d_md_fails_2 : decode b_md_fails 2 = .ok (.putfield 65, 3) := by decide +kernel
theorem d_md_fails_5 : decode b_md_fails 5 = .ok (.iconst 0, 1) := by decide +kernel
theorem d_md_fails_6 : decode b_md_fails 6 = .ok (.ireturn, 1) := by decide +kernel
theorem d_md_rule_0 : decode b_md_rule 0 = .ok (.aload_n 0, 1) := by decide +kernel
theorem d_md_rule_1 : decode b_md_rule 1 = .ok (.iconst 0, 1) := by decide +kernel
theorem d_md_rule_2 : decode b_md_rule 2 = .ok (.putfield 65, 3) := by decide +kernel
theorem d_md_rule_5 : decode b_md_rule 5 = .ok (.iload_n 2, 1) := by decide +kernel
theorem d_md_rule_6 : decode b_md_rule 6 = .ok (.iconst 2, 1) := by decide +kernel
theorem d_md_rule_7 : decode b_md_rule 7 = .ok (.if_icmp .ge 7, 3) := by decide +kernel
theorem d_md_rule_10 : decode b_md_rule 10 = .ok (.iconst 2, 1) := by decide +kernel
theorem d_md_rule_11 : decode b_md_rule 11 = .ok (.goto 14, 3) := by decide +kernel
theorem d_md_rule_14 : decode b_md_rule 14 = .ok (.iload_n 2, 1) := by decide +kernel
theorem d_md_rule_15 : decode b_md_rule 15 = .ok (.iconst 2, 1) := by decide +kernel
theorem d_md_rule_16 : decode b_md_rule 16 = .ok (.if_icmp .ne 8, 3) := by decide +kernel
theorem d_md_rule_19 : decode b_md_rule 19 = .ok (.bipush 100, 2) := by decide +kernel
theorem d_md_rule_21 : decode b_md_rule 21 = .ok (.goto 4, 3) := by decide +kernel
theorem d_md_rule_24 : decode b_md_rule 24 = .ok (.iconst 1, 1) := by decide +kernel
theorem d_md_rule_25 : decode b_md_rule 25 = .ok (.istore 4, 2) := by decide +kernel
theorem d_md_rule_27 : decode b_md_rule 27 = .ok (.aload_n 0, 1) := by decide +kernel
theorem d_md_rule_28 : decode b_md_rule 28 = .ok (.iload_n 1, 1) := by decide +kernel
theorem d_md_rule_29 : decode b_md_rule 29 = .ok (.invokevirtual 94, 3) := by decide +kernel
theorem d_md_rule_32 : decode b_md_rule 32 = .ok (.ifCond .eq 22, 3) := by decide +kernel
theorem d_md_rule_35 : decode b_md_rule 35 = .ok (.iload_n 2, 1) := by decide +kernel
theorem d_md_rule_36 : decode b_md_rule 36 = .ok (.iconst 0, 1) := by decide +kernel
theorem d_md_rule_37 : decode b_md_rule 37 = .ok (.iconst 4, 1) := by decide +kernel
theorem d_md_rule_38 : decode b_md_rule 38 = .ok (.invokestatic 86, 3) := by decide +kernel
theorem d_md_rule_41 : decode b_md_rule 41 = .ok (.ifCond .eq 13, 3) := by decide +kernel
theorem d_md_rule_44 : decode b_md_rule 44 = .ok (.iload_n 3, 1) := by decide +kernel
theorem d_md_rule_45 : decode b_md_rule 45 = .ok (.iconst 0, 1) := by decide +kernel
theorem d_md_rule_46 : decode b_md_rule 46 = .ok (.iload 4, 2) := by decide +kernel
theorem d_md_rule_48 : decode b_md_rule 48 = .ok (.invokestatic 86, 3) := by decide +kernel
theorem d_md_rule_51 : decode b_md_rule 51 = .ok (.ifCond .ne 5, 3) := by decide +kernel
theorem d_md_rule_54 : decode b_md_rule 54 = .ok (.iconst 0, 1) := by decide +kernel
theorem d_md_rule_55 : decode b_md_rule 55 = .ok (.ireturn, 1) := by decide +kernel
theorem d_md_rule_56 : decode b_md_rule 56 = .ok (.aload_n 0, 1) := by decide +kernel
theorem d_md_rule_57 : decode b_md_rule 57 = .ok (.getfield 22, 3) := by decide +kernel
theorem d_md_rule_60 : decode b_md_rule 60 = .ok (.iconst 5, 1) := by decide +kernel
theorem d_md_rule_61 : decode b_md_rule 61 = .ok (.iload_n 1, 1) := by decide +kernel
theorem d_md_rule_62 : decode b_md_rule 62 = .ok (.imul, 1) := by decide +kernel
theorem d_md_rule_63 : decode b_md_rule 63 = .ok (.iload_n 2, 1) := by decide +kernel
theorem d_md_rule_64 : decode b_md_rule 64 = .ok (.iadd, 1) := by decide +kernel
theorem d_md_rule_65 : decode b_md_rule 65 = .ok (.iload_n 3, 1) := by decide +kernel
theorem d_md_rule_66 : decode b_md_rule 66 = .ok (.iastore, 1) := by decide +kernel
theorem d_md_rule_67 : decode b_md_rule 67 = .ok (.iconst 1, 1) := by decide +kernel
theorem d_md_rule_68 : decode b_md_rule 68 = .ok (.ireturn, 1) := by decide +kernel
theorem d_md_isPiece_0 : decode b_md_isPiece 0 = .ok (.iload_n 1, 1) := by decide +kernel
theorem d_md_isPiece_1 : decode b_md_isPiece 1 = .ok (.ifCond .lt 15, 3) := by decide +kernel
theorem d_md_isPiece_4 : decode b_md_isPiece 4 = .ok (.iload_n 1, 1) := by decide +kernel
theorem d_md_isPiece_5 : decode b_md_isPiece 5 = .ok (.aload_n 0, 1) := by decide +kernel
theorem d_md_isPiece_6 : decode b_md_isPiece 6 = .ok (.getfield 69, 3) := by decide +kernel
theorem d_md_isPiece_9 : decode b_md_isPiece 9 = .ok (.if_icmp .ge 7, 3) := by decide +kernel
theorem d_md_isPiece_12 : decode b_md_isPiece 12 = .ok (.iconst 1, 1) := by decide +kernel
theorem d_md_isPiece_13 : decode b_md_isPiece 13 = .ok (.goto 4, 3) := by decide +kernel
theorem d_md_isPiece_16 : decode b_md_isPiece 16 = .ok (.iconst 0, 1) := by decide +kernel
theorem d_md_isPiece_17 : decode b_md_isPiece 17 = .ok (.ireturn, 1) := by decide +kernel
theorem d_md_wind_0 : decode b_md_wind 0 = .ok (.aload_n 0, 1) := by decide +kernel
theorem d_md_wind_1 : decode b_md_wind 1 = .ok (.iconst 0, 1) := by decide +kernel
theorem d_md_wind_2 : decode b_md_wind 2 = .ok (.putfield 65, 3) := by decide +kernel
theorem d_md_wind_5 : decode b_md_wind 5 = .ok (.aload_n 0, 1) := by decide +kernel
theorem d_md_wind_6 : decode b_md_wind 6 = .ok (.getfield 97, 3) := by decide +kernel
theorem d_md_wind_9 : decode b_md_wind 9 = .ok (.iload_n 1, 1) := by decide +kernel
theorem d_md_wind_10 : decode b_md_wind 10 = .ok (.if_icmp .eq 7, 3) := by decide +kernel
theorem d_md_wind_13 : decode b_md_wind 13 = .ok (.iconst 1, 1) := by decide +kernel
theorem d_md_wind_14 : decode b_md_wind 14 = .ok (.goto 4, 3) := by decide +kernel
theorem d_md_wind_17 : decode b_md_wind 17 = .ok (.iconst 0, 1) := by decide +kernel
theorem d_md_wind_18 : decode b_md_wind 18 = .ok (.istore_n 2, 1) := by decide +kernel
theorem d_md_wind_19 : decode b_md_wind 19 = .ok (.aload_n 0, 1) := by decide +kernel
theorem d_md_wind_20 : decode b_md_wind 20 = .ok (.iload_n 1, 1) := by decide +kernel
theorem d_md_wind_21 : decode b_md_wind 21 = .ok (.putfield 97, 3) := by decide +kernel
theorem d_md_wind_24 : decode b_md_wind 24 = .ok (.iload_n 2, 1) := by decide +kernel
theorem d_md_wind_25 : decode b_md_wind 25 = .ok (.ireturn, 1) := by decide +kernel
theorem d_md_ship_0 : decode b_md_ship 0 = .ok (.iload_n 1, 1) := by decide +kernel
theorem d_md_ship_1 : decode b_md_ship 1 = .ok (.iconst 1, 1) := by decide +kernel
theorem d_md_ship_2 : decode b_md_ship 2 = .ok (.bipush 100, 2) := by decide +kernel
theorem d_md_ship_4 : decode b_md_ship 4 = .ok (.invokestatic 86, 3) := by decide +kernel
theorem d_md_ship_7 : decode b_md_ship 7 = .ok (.ifCond .eq 22, 3) := by decide +kernel
theorem d_md_ship_10 : decode b_md_ship 10 = .ok (.iload_n 2, 1) := by decide +kernel
theorem d_md_ship_11 : decode b_md_ship 11 = .ok (.iconst 1, 1) := by decide +kernel
theorem d_md_ship_12 : decode b_md_ship 12 = .ok (.bipush 20, 2) := by decide +kernel
theorem d_md_ship_14 : decode b_md_ship 14 = .ok (.invokestatic 86, 3) := by decide +kernel
theorem d_md_ship_17 : decode b_md_ship 17 = .ok (.ifCond .eq 12, 3) := by decide +kernel
theorem d_md_ship_20 : decode b_md_ship 20 = .ok (.iload_n 3, 1) := by decide +kernel
theorem d_md_ship_21 : decode b_md_ship 21 = .ok (.iconst 0, 1) := by decide +kernel
theorem d_md_ship_22 : decode b_md_ship 22 = .ok (.iconst 2, 1) := by decide +kernel
theorem d_md_ship_23 : decode b_md_ship 23 = .ok (.invokestatic 86, 3) := by decide +kernel
theorem d_md_ship_26 : decode b_md_ship 26 = .ok (.ifCond .ne 9, 3) := by decide +kernel
theorem d_md_ship_29 : decode b_md_ship 29 = .ok (.aload_n 0, 1) := by decide +kernel
theorem d_md_ship_30 : decode b_md_ship 30 = .ok (.iconst 1, 1) := by decide +kernel
theorem d_md_ship_31 : decode b_md_ship 31 = .ok (.invokevirtual 90, 3) := by decide +kernel
theorem d_md_ship_34 : decode b_md_ship 34 = .ok (.ireturn, 1) := by decide +kernel
theorem d_md_ship_35 : decode b_md_ship 35 = .ok (.aload_n 0, 1) := by decide +kernel
theorem d_md_ship_36 : decode b_md_ship 36 = .ok (.getfield 72, 3) := by decide +kernel
theorem d_md_ship_39 : decode b_md_ship 39 = .ok (.bipush 12, 2) := by decide +kernel
theorem d_md_ship_41 : decode b_md_ship 41 = .ok (.if_icmp .ne 9, 3) := by decide +kernel
theorem d_md_ship_44 : decode b_md_ship 44 = .ok (.aload_n 0, 1) := by decide +kernel
theorem d_md_ship_45 : decode b_md_ship 45 = .ok (.iconst 2, 1) := by decide +kernel
theorem d_md_ship_46 : decode b_md_ship 46 = .ok (.invokevirtual 90, 3) := by decide +kernel
theorem d_md_ship_49 : decode b_md_ship 49 = .ok (.ireturn, 1) := by decide +kernel
theorem d_md_ship_50 : decode b_md_ship 50 = .ok (.aload_n 0, 1) := by decide +kernel
theorem d_md_ship_51 : decode b_md_ship 51 = .ok (.iconst 0, 1) := by decide +kernel
theorem d_md_ship_52 : decode b_md_ship 52 = .ok (.putfield 65, 3) := by decide +kernel
theorem d_md_ship_55 : decode b_md_ship 55 = .ok (.aload_n 0, 1) := by decide +kernel
theorem d_md_ship_56 : decode b_md_ship 56 = .ok (.getfield 34, 3) := by decide +kernel
theorem d_md_ship_59 : decode b_md_ship 59 = .ok (.aload_n 0, 1) := by decide +kernel
theorem d_md_ship_60 : decode b_md_ship 60 = .ok (.getfield 72, 3) := by decide +kernel
theorem d_md_ship_63 : decode b_md_ship 63 = .ok (.iload_n 1, 1) := by decide +kernel
theorem d_md_ship_64 : decode b_md_ship 64 = .ok (.iastore, 1) := by decide +kernel
theorem d_md_ship_65 : decode b_md_ship 65 = .ok (.aload_n 0, 1) := by decide +kernel
theorem d_md_ship_66 : decode b_md_ship 66 = .ok (.getfield 37, 3) := by decide +kernel
theorem d_md_ship_69 : decode b_md_ship 69 = .ok (.aload_n 0, 1) := by decide +kernel
theorem d_md_ship_70 : decode b_md_ship 70 = .ok (.getfield 72, 3) := by decide +kernel
theorem d_md_ship_73 : decode b_md_ship 73 = .ok (.iload_n 2, 1) := by decide +kernel
theorem d_md_ship_74 : decode b_md_ship 74 = .ok (.iastore, 1) := by decide +kernel
theorem d_md_ship_75 : decode b_md_ship 75 = .ok (.aload_n 0, 1) := by decide +kernel
theorem d_md_ship_76 : decode b_md_ship 76 = .ok (.getfield 40, 3) := by decide +kernel
theorem d_md_ship_79 : decode b_md_ship 79 = .ok (.aload_n 0, 1) := by decide +kernel
theorem d_md_ship_80 : decode b_md_ship 80 = .ok (.getfield 72, 3) := by decide +kernel
theorem d_md_ship_83 : decode b_md_ship 83 = .ok (.iload_n 3, 1) := by decide +kernel
theorem d_md_ship_84 : decode b_md_ship 84 = .ok (.iastore, 1) := by decide +kernel
theorem d_md_ship_85 : decode b_md_ship 85 = .ok (.aload_n 0, 1) := by decide +kernel
theorem d_md_ship_86 : decode b_md_ship 86 = .ok (.dup, 1) := by decide +kernel
theorem d_md_ship_87 : decode b_md_ship 87 = .ok (.getfield 72, 3) := by decide +kernel
theorem d_md_ship_90 : decode b_md_ship 90 = .ok (.iconst 1, 1) := by decide +kernel
theorem d_md_ship_91 : decode b_md_ship 91 = .ok (.iadd, 1) := by decide +kernel
theorem d_md_ship_92 : decode b_md_ship 92 = .ok (.putfield 72, 3) := by decide +kernel
theorem d_md_ship_95 : decode b_md_ship 95 = .ok (.aload_n 0, 1) := by decide +kernel
theorem d_md_ship_96 : decode b_md_ship 96 = .ok (.getfield 72, 3) := by decide +kernel
theorem d_md_ship_99 : decode b_md_ship 99 = .ok (.iconst 1, 1) := by decide +kernel
theorem d_md_ship_100 : decode b_md_ship 100 = .ok (.isub, 1) := by decide +kernel
theorem d_md_ship_101 : decode b_md_ship 101 = .ok (.ireturn, 1) := by decide +kernel
theorem d_md_route_0 : decode b_md_route 0 = .ok (.aload_n 0, 1) := by decide +kernel
theorem d_md_route_1 : decode b_md_route 1 = .ok (.iload_n 1, 1) := by decide +kernel
theorem d_md_route_2 : decode b_md_route 2 = .ok (.invokevirtual 113, 3) := by decide +kernel
theorem d_md_route_5 : decode b_md_route 5 = .ok (.ifCond .eq 27, 3) := by decide +kernel
theorem d_md_route_8 : decode b_md_route 8 = .ok (.iload_n 2, 1) := by decide +kernel
theorem d_md_route_9 : decode b_md_route 9 = .ok (.invokestatic 82, 3) := by decide +kernel
theorem d_md_route_12 : decode b_md_route 12 = .ok (.ifCond .eq 20, 3) := by decide +kernel
theorem d_md_route_15 : decode b_md_route 15 = .ok (.iload_n 3, 1) := by decide +kernel
theorem d_md_route_16 : decode b_md_route 16 = .ok (.invokestatic 82, 3) := by decide +kernel
theorem d_md_route_19 : decode b_md_route 19 = .ok (.ifCond .eq 13, 3) := by decide +kernel
theorem d_md_route_22 : decode b_md_route 22 = .ok (.iload 4, 2) := by decide +kernel
theorem d_md_route_24 : decode b_md_route 24 = .ok (.iconst 0, 1) := by decide +kernel
theorem d_md_route_25 : decode b_md_route 25 = .ok (.iconst 2, 1) := by decide +kernel
theorem d_md_route_26 : decode b_md_route 26 = .ok (.invokestatic 86, 3) := by decide +kernel
theorem d_md_route_29 : decode b_md_route 29 = .ok (.ifCond .ne 9, 3) := by decide +kernel
theorem d_md_route_32 : decode b_md_route 32 = .ok (.aload_n 0, 1) := by decide +kernel
theorem d_md_route_33 : decode b_md_route 33 = .ok (.iconst 1, 1) := by decide +kernel
theorem d_md_route_34 : decode b_md_route 34 = .ok (.invokevirtual 90, 3) := by decide +kernel
theorem d_md_route_37 : decode b_md_route 37 = .ok (.ireturn, 1) := by decide +kernel
theorem d_md_route_38 : decode b_md_route 38 = .ok (.aload_n 0, 1) := by decide +kernel
theorem d_md_route_39 : decode b_md_route 39 = .ok (.iconst 0, 1) := by decide +kernel
theorem d_md_route_40 : decode b_md_route 40 = .ok (.putfield 65, 3) := by decide +kernel
theorem d_md_route_43 : decode b_md_route 43 = .ok (.aload_n 0, 1) := by decide +kernel
theorem d_md_route_44 : decode b_md_route 44 = .ok (.iload_n 1, 1) := by decide +kernel
theorem d_md_route_45 : decode b_md_route 45 = .ok (.iload_n 2, 1) := by decide +kernel
theorem d_md_route_46 : decode b_md_route 46 = .ok (.iload_n 3, 1) := by decide +kernel
theorem d_md_route_47 : decode b_md_route 47 = .ok (.invokevirtual 116, 3) := by decide +kernel
theorem d_md_route_50 : decode b_md_route 50 = .ok (.ifCond .ne 5, 3) := by decide +kernel
theorem d_md_route_53 : decode b_md_route 53 = .ok (.iconst (-1), 1) := by decide +kernel
theorem d_md_route_54 : decode b_md_route 54 = .ok (.ireturn, 1) := by decide +kernel
theorem d_md_route_55 : decode b_md_route 55 = .ok (.iload 4, 2) := by decide +kernel
theorem d_md_route_57 : decode b_md_route 57 = .ok (.ifCond .ne 12, 3) := by decide +kernel
theorem d_md_route_60 : decode b_md_route 60 = .ok (.aload_n 0, 1) := by decide +kernel
theorem d_md_route_61 : decode b_md_route 61 = .ok (.getfield 62, 3) := by decide +kernel
theorem d_md_route_64 : decode b_md_route 64 = .ok (.iload_n 2, 1) := by decide +kernel
theorem d_md_route_65 : decode b_md_route 65 = .ok (.iaload, 1) := by decide +kernel
theorem d_md_route_66 : decode b_md_route 66 = .ok (.goto 24, 3) := by decide +kernel
theorem d_md_route_69 : decode b_md_route 69 = .ok (.iload 4, 2) := by decide +kernel
theorem d_md_route_71 : decode b_md_route 71 = .ok (.iconst 1, 1) := by decide +kernel
theorem d_md_route_72 : decode b_md_route 72 = .ok (.if_icmp .ne 12, 3) := by decide +kernel
theorem d_md_route_75 : decode b_md_route 75 = .ok (.aload_n 0, 1) := by decide +kernel
theorem d_md_route_76 : decode b_md_route 76 = .ok (.getfield 56, 3) := by decide +kernel
theorem d_md_route_79 : decode b_md_route 79 = .ok (.iconst 0, 1) := by decide +kernel
theorem d_md_route_80 : decode b_md_route 80 = .ok (.iaload, 1) := by decide +kernel
theorem d_md_route_81 : decode b_md_route 81 = .ok (.goto 9, 3) := by decide +kernel
theorem d_md_route_84 : decode b_md_route 84 = .ok (.aload_n 0, 1) := by decide +kernel
theorem d_md_route_85 : decode b_md_route 85 = .ok (.getfield 53, 3) := by decide +kernel
theorem d_md_route_88 : decode b_md_route 88 = .ok (.iconst 0, 1) := by decide +kernel
theorem d_md_route_89 : decode b_md_route 89 = .ok (.iaload, 1) := by decide +kernel
theorem d_md_route_90 : decode b_md_route 90 = .ok (.ireturn, 1) := by decide +kernel
theorem d_md_isShip_0 : decode b_md_isShip 0 = .ok (.iload_n 1, 1) := by decide +kernel
theorem d_md_isShip_1 : decode b_md_isShip 1 = .ok (.ifCond .lt 15, 3) := by decide +kernel
theorem d_md_isShip_4 : decode b_md_isShip 4 = .ok (.iload_n 1, 1) := by decide +kernel
theorem d_md_isShip_5 : decode b_md_isShip 5 = .ok (.aload_n 0, 1) := by decide +kernel
theorem d_md_isShip_6 : decode b_md_isShip 6 = .ok (.getfield 72, 3) := by decide +kernel
theorem d_md_isShip_9 : decode b_md_isShip 9 = .ok (.if_icmp .ge 7, 3) := by decide +kernel
theorem d_md_isShip_12 : decode b_md_isShip 12 = .ok (.iconst 1, 1) := by decide +kernel
theorem d_md_isShip_13 : decode b_md_isShip 13 = .ok (.goto 4, 3) := by decide +kernel
theorem d_md_isShip_16 : decode b_md_isShip 16 = .ok (.iconst 0, 1) := by decide +kernel
theorem d_md_isShip_17 : decode b_md_isShip 17 = .ok (.ireturn, 1) := by decide +kernel
theorem d_md_lays_0 : decode b_md_lays 0 = .ok (.aload_n 0, 1) := by decide +kernel
theorem d_md_lays_1 : decode b_md_lays 1 = .ok (.iload_n 1, 1) := by decide +kernel
theorem d_md_lays_2 : decode b_md_lays 2 = .ok (.iload_n 3, 1) := by decide +kernel
theorem d_md_lays_3 : decode b_md_lays 3 = .ok (.invokevirtual 106, 3) := by decide +kernel
theorem d_md_lays_6 : decode b_md_lays 6 = .ok (.aload_n 0, 1) := by decide +kernel
theorem d_md_lays_7 : decode b_md_lays 7 = .ok (.getfield 43, 3) := by decide +kernel
theorem d_md_lays_10 : decode b_md_lays 10 = .ok (.iconst 0, 1) := by decide +kernel
theorem d_md_lays_11 : decode b_md_lays 11 = .ok (.iload_n 1, 1) := by decide +kernel
theorem d_md_lays_12 : decode b_md_lays 12 = .ok (.iastore, 1) := by decide +kernel
theorem d_md_lays_13 : decode b_md_lays 13 = .ok (.aload_n 0, 1) := by decide +kernel
theorem d_md_lays_14 : decode b_md_lays 14 = .ok (.getfield 53, 3) := by decide +kernel
theorem d_md_lays_17 : decode b_md_lays 17 = .ok (.iconst 0, 1) := by decide +kernel
theorem d_md_lays_18 : decode b_md_lays 18 = .ok (.iconst 0, 1) := by decide +kernel
theorem d_md_lays_19 : decode b_md_lays 19 = .ok (.iastore, 1) := by decide +kernel
theorem d_md_lays_20 : decode b_md_lays 20 = .ok (.iload_n 2, 1) := by decide +kernel
theorem d_md_lays_21 : decode b_md_lays 21 = .ok (.iload_n 3, 1) := by decide +kernel
theorem d_md_lays_22 : decode b_md_lays 22 = .ok (.if_icmp .eq 14, 3) := by decide +kernel
theorem d_md_lays_25 : decode b_md_lays 25 = .ok (.aload_n 0, 1) := by decide +kernel
theorem d_md_lays_26 : decode b_md_lays 26 = .ok (.getfield 62, 3) := by decide +kernel
theorem d_md_lays_29 : decode b_md_lays 29 = .ok (.iload_n 2, 1) := by decide +kernel
theorem d_md_lays_30 : decode b_md_lays 30 = .ok (.iaload, 1) := by decide +kernel
theorem d_md_lays_31 : decode b_md_lays 31 = .ok (.ldc 101, 2) := by decide +kernel
theorem d_md_lays_33 : decode b_md_lays 33 = .ok (.if_icmp .lt 5, 3) := by decide +kernel
theorem d_md_lays_36 : decode b_md_lays 36 = .ok (.iconst 0, 1) := by decide +kernel
theorem d_md_lays_37 : decode b_md_lays 37 = .ok (.ireturn, 1) := by decide +kernel
theorem d_md_lays_38 : decode b_md_lays 38 = .ok (.iload_n 2, 1) := by decide +kernel
theorem d_md_lays_39 : decode b_md_lays 39 = .ok (.istore 4, 2) := by decide +kernel
theorem d_md_lays_41 : decode b_md_lays 41 = .ok (.iload 4, 2) := by decide +kernel
theorem d_md_lays_43 : decode b_md_lays 43 = .ok (.iload_n 3, 1) := by decide +kernel
theorem d_md_lays_44 : decode b_md_lays 44 = .ok (.if_icmp .eq 97, 3) := by decide +kernel
theorem d_md_lays_47 : decode b_md_lays 47 = .ok (.aload_n 0, 1) := by decide +kernel
theorem d_md_lays_48 : decode b_md_lays 48 = .ok (.iload_n 1, 1) := by decide +kernel
theorem d_md_lays_49 : decode b_md_lays 49 = .ok (.iload 4, 2) := by decide +kernel
theorem d_md_lays_51 : decode b_md_lays 51 = .ok (.invokevirtual 110, 3) := by decide +kernel
theorem d_md_lays_54 : decode b_md_lays 54 = .ok (.istore 5, 2) := by decide +kernel
theorem d_md_lays_56 : decode b_md_lays 56 = .ok (.aload_n 0, 1) := by decide +kernel
theorem d_md_lays_57 : decode b_md_lays 57 = .ok (.getfield 56, 3) := by decide +kernel
theorem d_md_lays_60 : decode b_md_lays 60 = .ok (.aload_n 0, 1) := by decide +kernel
theorem d_md_lays_61 : decode b_md_lays 61 = .ok (.getfield 53, 3) := by decide +kernel
theorem d_md_lays_64 : decode b_md_lays 64 = .ok (.iconst 0, 1) := by decide +kernel
theorem d_md_lays_65 : decode b_md_lays 65 = .ok (.iaload, 1) := by decide +kernel
theorem d_md_lays_66 : decode b_md_lays 66 = .ok (.iload 5, 2) := by decide +kernel
theorem d_md_lays_68 : decode b_md_lays 68 = .ok (.iastore, 1) := by decide +kernel
theorem d_md_lays_69 : decode b_md_lays 69 = .ok (.aload_n 0, 1) := by decide +kernel
theorem d_md_lays_70 : decode b_md_lays 70 = .ok (.getfield 59, 3) := by decide +kernel
theorem d_md_lays_73 : decode b_md_lays 73 = .ok (.aload_n 0, 1) := by decide +kernel
theorem d_md_lays_74 : decode b_md_lays 74 = .ok (.getfield 53, 3) := by decide +kernel
theorem d_md_lays_77 : decode b_md_lays 77 = .ok (.iconst 0, 1) := by decide +kernel
theorem d_md_lays_78 : decode b_md_lays 78 = .ok (.iaload, 1) := by decide +kernel
theorem d_md_lays_79 : decode b_md_lays 79 = .ok (.aload_n 0, 1) := by decide +kernel
theorem d_md_lays_80 : decode b_md_lays 80 = .ok (.getfield 7, 3) := by decide +kernel
theorem d_md_lays_83 : decode b_md_lays 83 = .ok (.iload 5, 2) := by decide +kernel
theorem d_md_lays_85 : decode b_md_lays 85 = .ok (.iaload, 1) := by decide +kernel
theorem d_md_lays_86 : decode b_md_lays 86 = .ok (.iload 4, 2) := by decide +kernel
theorem d_md_lays_88 : decode b_md_lays 88 = .ok (.if_icmp .ne 7, 3) := by decide +kernel
theorem d_md_lays_91 : decode b_md_lays 91 = .ok (.iconst 1, 1) := by decide +kernel
theorem d_md_lays_92 : decode b_md_lays 92 = .ok (.goto 4, 3) := by decide +kernel
theorem d_md_lays_95 : decode b_md_lays 95 = .ok (.iconst 0, 1) := by decide +kernel
theorem d_md_lays_96 : decode b_md_lays 96 = .ok (.iastore, 1) := by decide +kernel
theorem d_md_lays_97 : decode b_md_lays 97 = .ok (.aload_n 0, 1) := by decide +kernel
theorem d_md_lays_98 : decode b_md_lays 98 = .ok (.getfield 53, 3) := by decide +kernel
theorem d_md_lays_101 : decode b_md_lays 101 = .ok (.iconst 0, 1) := by decide +kernel
theorem d_md_lays_102 : decode b_md_lays 102 = .ok (.dup2, 1) := by decide +kernel
theorem d_md_lays_103 : decode b_md_lays 103 = .ok (.iaload, 1) := by decide +kernel
theorem d_md_lays_104 : decode b_md_lays 104 = .ok (.iconst 1, 1) := by decide +kernel
theorem d_md_lays_105 : decode b_md_lays 105 = .ok (.iadd, 1) := by decide +kernel
theorem d_md_lays_106 : decode b_md_lays 106 = .ok (.iastore, 1) := by decide +kernel
theorem d_md_lays_107 : decode b_md_lays 107 = .ok (.aload_n 0, 1) := by decide +kernel
theorem d_md_lays_108 : decode b_md_lays 108 = .ok (.getfield 7, 3) := by decide +kernel
theorem d_md_lays_111 : decode b_md_lays 111 = .ok (.iload 5, 2) := by decide +kernel
theorem d_md_lays_113 : decode b_md_lays 113 = .ok (.iaload, 1) := by decide +kernel
theorem d_md_lays_114 : decode b_md_lays 114 = .ok (.iload 4, 2) := by decide +kernel
theorem d_md_lays_116 : decode b_md_lays 116 = .ok (.if_icmp .ne 13, 3) := by decide +kernel
theorem d_md_lays_119 : decode b_md_lays 119 = .ok (.aload_n 0, 1) := by decide +kernel
theorem d_md_lays_120 : decode b_md_lays 120 = .ok (.getfield 13, 3) := by decide +kernel
theorem d_md_lays_123 : decode b_md_lays 123 = .ok (.iload 5, 2) := by decide +kernel
theorem d_md_lays_125 : decode b_md_lays 125 = .ok (.iaload, 1) := by decide +kernel
theorem d_md_lays_126 : decode b_md_lays 126 = .ok (.goto 10, 3) := by decide +kernel
theorem d_md_lays_129 : decode b_md_lays 129 = .ok (.aload_n 0, 1) := by decide +kernel
theorem d_md_lays_130 : decode b_md_lays 130 = .ok (.getfield 7, 3) := by decide +kernel
theorem d_md_lays_133 : decode b_md_lays 133 = .ok (.iload 5, 2) := by decide +kernel
theorem d_md_lays_135 : decode b_md_lays 135 = .ok (.iaload, 1) := by decide +kernel
theorem d_md_lays_136 : decode b_md_lays 136 = .ok (.istore 4, 2) := by decide +kernel
theorem d_md_lays_138 : decode b_md_lays 138 = .ok (.goto (-97), 3) := by decide +kernel
theorem d_md_lays_141 : decode b_md_lays 141 = .ok (.iconst 1, 1) := by decide +kernel
theorem d_md_lays_142 : decode b_md_lays 142 = .ok (.ireturn, 1) := by decide +kernel
theorem d_md_timesTo_0 : decode b_md_timesTo 0 = .ok (.iconst 0, 1) := by decide +kernel
theorem d_md_timesTo_1 : decode b_md_timesTo 1 = .ok (.istore_n 3, 1) := by decide +kernel
theorem d_md_timesTo_2 : decode b_md_timesTo 2 = .ok (.iload_n 3, 1) := by decide +kernel
theorem d_md_timesTo_3 : decode b_md_timesTo 3 = .ok (.bipush 8, 2) := by decide +kernel
theorem d_md_timesTo_5 : decode b_md_timesTo 5 = .ok (.if_icmp .ge 26, 3) := by decide +kernel
theorem d_md_timesTo_8 : decode b_md_timesTo 8 = .ok (.aload_n 0, 1) := by decide +kernel
theorem d_md_timesTo_9 : decode b_md_timesTo 9 = .ok (.getfield 62, 3) := by decide +kernel
theorem d_md_timesTo_12 : decode b_md_timesTo 12 = .ok (.iload_n 3, 1) := by decide +kernel
theorem d_md_timesTo_13 : decode b_md_timesTo 13 = .ok (.iload_n 3, 1) := by decide +kernel
theorem d_md_timesTo_14 : decode b_md_timesTo 14 = .ok (.iload_n 2, 1) := by decide +kernel
theorem d_md_timesTo_15 : decode b_md_timesTo 15 = .ok (.if_icmp .ne 7, 3) := by decide +kernel
theorem d_md_timesTo_18 : decode b_md_timesTo 18 = .ok (.iconst 0, 1) := by decide +kernel
theorem d_md_timesTo_19 : decode b_md_timesTo 19 = .ok (.goto 5, 3) := by decide +kernel
theorem d_md_timesTo_22 : decode b_md_timesTo 22 = .ok (.ldc 101, 2) := by decide +kernel
theorem d_md_timesTo_24 : decode b_md_timesTo 24 = .ok (.iastore, 1) := by decide +kernel
theorem d_md_timesTo_25 : decode b_md_timesTo 25 = .ok (.iinc 3 1, 3) := by decide +kernel
theorem d_md_timesTo_28 : decode b_md_timesTo 28 = .ok (.goto (-26), 3) := by decide +kernel
theorem d_md_timesTo_31 : decode b_md_timesTo 31 = .ok (.iconst 0, 1) := by decide +kernel
theorem d_md_timesTo_32 : decode b_md_timesTo 32 = .ok (.istore_n 3, 1) := by decide +kernel
theorem d_md_timesTo_33 : decode b_md_timesTo 33 = .ok (.iload_n 3, 1) := by decide +kernel
theorem d_md_timesTo_34 : decode b_md_timesTo 34 = .ok (.bipush 8, 2) := by decide +kernel
theorem d_md_timesTo_36 : decode b_md_timesTo 36 = .ok (.if_icmp .ge 164, 3) := by decide +kernel
theorem d_md_timesTo_39 : decode b_md_timesTo 39 = .ok (.iconst 0, 1) := by decide +kernel
theorem d_md_timesTo_40 : decode b_md_timesTo 40 = .ok (.istore 4, 2) := by decide +kernel
theorem d_md_timesTo_42 : decode b_md_timesTo 42 = .ok (.iload 4, 2) := by decide +kernel
theorem d_md_timesTo_44 : decode b_md_timesTo 44 = .ok (.aload_n 0, 1) := by decide +kernel
theorem d_md_timesTo_45 : decode b_md_timesTo 45 = .ok (.getfield 69, 3) := by decide +kernel
theorem d_md_timesTo_48 : decode b_md_timesTo 48 = .ok (.if_icmp .ge 146, 3) := by decide +kernel
theorem d_md_timesTo_51 : decode b_md_timesTo 51 = .ok (.aload_n 0, 1) := by decide +kernel
theorem d_md_timesTo_52 : decode b_md_timesTo 52 = .ok (.iload_n 1, 1) := by decide +kernel
theorem d_md_timesTo_53 : decode b_md_timesTo 53 = .ok (.iload 4, 2) := by decide +kernel
theorem d_md_timesTo_55 : decode b_md_timesTo 55 = .ok (.invokevirtual 102, 3) := by decide +kernel
theorem d_md_timesTo_58 : decode b_md_timesTo 58 = .ok (.istore 5, 2) := by decide +kernel
theorem d_md_timesTo_60 : decode b_md_timesTo 60 = .ok (.aload_n 0, 1) := by decide +kernel
theorem d_md_timesTo_61 : decode b_md_timesTo 61 = .ok (.getfield 7, 3) := by decide +kernel
theorem d_md_timesTo_64 : decode b_md_timesTo 64 = .ok (.iload 4, 2) := by decide +kernel
theorem d_md_timesTo_66 : decode b_md_timesTo 66 = .ok (.iaload, 1) := by decide +kernel
theorem d_md_timesTo_67 : decode b_md_timesTo 67 = .ok (.istore 6, 2) := by decide +kernel
theorem d_md_timesTo_69 : decode b_md_timesTo 69 = .ok (.aload_n 0, 1) := by decide +kernel
theorem d_md_timesTo_70 : decode b_md_timesTo 70 = .ok (.getfield 13, 3) := by decide +kernel
theorem d_md_timesTo_73 : decode b_md_timesTo 73 = .ok (.iload 4, 2) := by decide +kernel
theorem d_md_timesTo_75 : decode b_md_timesTo 75 = .ok (.iaload, 1) := by decide +kernel
theorem d_md_timesTo_76 : decode b_md_timesTo 76 = .ok (.istore 7, 2) := by decide +kernel
theorem d_md_timesTo_78 : decode b_md_timesTo 78 = .ok (.aload_n 0, 1) := by decide +kernel
theorem d_md_timesTo_79 : decode b_md_timesTo 79 = .ok (.getfield 34, 3) := by decide +kernel
theorem d_md_timesTo_82 : decode b_md_timesTo 82 = .ok (.iload_n 1, 1) := by decide +kernel
theorem d_md_timesTo_83 : decode b_md_timesTo 83 = .ok (.iaload, 1) := by decide +kernel
theorem d_md_timesTo_84 : decode b_md_timesTo 84 = .ok (.aload_n 0, 1) := by decide +kernel
theorem d_md_timesTo_85 : decode b_md_timesTo 85 = .ok (.getfield 19, 3) := by decide +kernel
theorem d_md_timesTo_88 : decode b_md_timesTo 88 = .ok (.iload 4, 2) := by decide +kernel
theorem d_md_timesTo_90 : decode b_md_timesTo 90 = .ok (.iaload, 1) := by decide +kernel
theorem d_md_timesTo_91 : decode b_md_timesTo 91 = .ok (.if_icmp .gt 97, 3) := by decide +kernel
theorem d_md_timesTo_94 : decode b_md_timesTo 94 = .ok (.aload_n 0, 1) := by decide +kernel
theorem d_md_timesTo_95 : decode b_md_timesTo 95 = .ok (.getfield 62, 3) := by decide +kernel
theorem d_md_timesTo_98 : decode b_md_timesTo 98 = .ok (.iload 6, 2) := by decide +kernel
theorem d_md_timesTo_100 : decode b_md_timesTo 100 = .ok (.aload_n 0, 1) := by decide +kernel
theorem d_md_timesTo_101 : decode b_md_timesTo 101 = .ok (.getfield 62, 3) := by decide +kernel
theorem d_md_timesTo_104 : decode b_md_timesTo 104 = .ok (.iload 7, 2) := by decide +kernel
theorem d_md_timesTo_106 : decode b_md_timesTo 106 = .ok (.iaload, 1) := by decide +kernel
theorem d_md_timesTo_107 : decode b_md_timesTo 107 = .ok (.iload 5, 2) := by decide +kernel
theorem d_md_timesTo_109 : decode b_md_timesTo 109 = .ok (.iadd, 1) := by decide +kernel
theorem d_md_timesTo_110 : decode b_md_timesTo 110 = .ok (.aload_n 0, 1) := by decide +kernel
theorem d_md_timesTo_111 : decode b_md_timesTo 111 = .ok (.getfield 62, 3) := by decide +kernel
theorem d_md_timesTo_114 : decode b_md_timesTo 114 = .ok (.iload 6, 2) := by decide +kernel
theorem d_md_timesTo_116 : decode b_md_timesTo 116 = .ok (.iaload, 1) := by decide +kernel
theorem d_md_timesTo_117 : decode b_md_timesTo 117 = .ok (.if_icmp .ge 16, 3) := by decide +kernel
theorem d_md_timesTo_120 : decode b_md_timesTo 120 = .ok (.aload_n 0, 1) := by decide +kernel
theorem d_md_timesTo_121 : decode b_md_timesTo 121 = .ok (.getfield 62, 3) := by decide +kernel
theorem d_md_timesTo_124 : decode b_md_timesTo 124 = .ok (.iload 7, 2) := by decide +kernel
theorem d_md_timesTo_126 : decode b_md_timesTo 126 = .ok (.iaload, 1) := by decide +kernel
theorem d_md_timesTo_127 : decode b_md_timesTo 127 = .ok (.iload 5, 2) := by decide +kernel
theorem d_md_timesTo_129 : decode b_md_timesTo 129 = .ok (.iadd, 1) := by decide +kernel
theorem d_md_timesTo_130 : decode b_md_timesTo 130 = .ok (.goto 10, 3) := by decide +kernel
theorem d_md_timesTo_133 : decode b_md_timesTo 133 = .ok (.aload_n 0, 1) := by decide +kernel
theorem d_md_timesTo_134 : decode b_md_timesTo 134 = .ok (.getfield 62, 3) := by decide +kernel
theorem d_md_timesTo_137 : decode b_md_timesTo 137 = .ok (.iload 6, 2) := by decide +kernel
theorem d_md_timesTo_139 : decode b_md_timesTo 139 = .ok (.iaload, 1) := by decide +kernel
theorem d_md_timesTo_140 : decode b_md_timesTo 140 = .ok (.iastore, 1) := by decide +kernel
theorem d_md_timesTo_141 : decode b_md_timesTo 141 = .ok (.aload_n 0, 1) := by decide +kernel
theorem d_md_timesTo_142 : decode b_md_timesTo 142 = .ok (.getfield 62, 3) := by decide +kernel
theorem d_md_timesTo_145 : decode b_md_timesTo 145 = .ok (.iload 7, 2) := by decide +kernel
theorem d_md_timesTo_147 : decode b_md_timesTo 147 = .ok (.aload_n 0, 1) := by decide +kernel
theorem d_md_timesTo_148 : decode b_md_timesTo 148 = .ok (.getfield 62, 3) := by decide +kernel
theorem d_md_timesTo_151 : decode b_md_timesTo 151 = .ok (.iload 6, 2) := by decide +kernel
theorem d_md_timesTo_153 : decode b_md_timesTo 153 = .ok (.iaload, 1) := by decide +kernel
theorem d_md_timesTo_154 : decode b_md_timesTo 154 = .ok (.iload 5, 2) := by decide +kernel
theorem d_md_timesTo_156 : decode b_md_timesTo 156 = .ok (.iadd, 1) := by decide +kernel
theorem d_md_timesTo_157 : decode b_md_timesTo 157 = .ok (.aload_n 0, 1) := by decide +kernel
theorem d_md_timesTo_158 : decode b_md_timesTo 158 = .ok (.getfield 62, 3) := by decide +kernel
theorem d_md_timesTo_161 : decode b_md_timesTo 161 = .ok (.iload 7, 2) := by decide +kernel
theorem d_md_timesTo_163 : decode b_md_timesTo 163 = .ok (.iaload, 1) := by decide +kernel
theorem d_md_timesTo_164 : decode b_md_timesTo 164 = .ok (.if_icmp .ge 16, 3) := by decide +kernel
theorem d_md_timesTo_167 : decode b_md_timesTo 167 = .ok (.aload_n 0, 1) := by decide +kernel
theorem d_md_timesTo_168 : decode b_md_timesTo 168 = .ok (.getfield 62, 3) := by decide +kernel
theorem d_md_timesTo_171 : decode b_md_timesTo 171 = .ok (.iload 6, 2) := by decide +kernel
theorem d_md_timesTo_173 : decode b_md_timesTo 173 = .ok (.iaload, 1) := by decide +kernel
theorem d_md_timesTo_174 : decode b_md_timesTo 174 = .ok (.iload 5, 2) := by decide +kernel
theorem d_md_timesTo_176 : decode b_md_timesTo 176 = .ok (.iadd, 1) := by decide +kernel
theorem d_md_timesTo_177 : decode b_md_timesTo 177 = .ok (.goto 10, 3) := by decide +kernel
theorem d_md_timesTo_180 : decode b_md_timesTo 180 = .ok (.aload_n 0, 1) := by decide +kernel
theorem d_md_timesTo_181 : decode b_md_timesTo 181 = .ok (.getfield 62, 3) := by decide +kernel
theorem d_md_timesTo_184 : decode b_md_timesTo 184 = .ok (.iload 7, 2) := by decide +kernel
theorem d_md_timesTo_186 : decode b_md_timesTo 186 = .ok (.iaload, 1) := by decide +kernel
theorem d_md_timesTo_187 : decode b_md_timesTo 187 = .ok (.iastore, 1) := by decide +kernel
theorem d_md_timesTo_188 : decode b_md_timesTo 188 = .ok (.iinc 4 1, 3) := by decide +kernel
theorem d_md_timesTo_191 : decode b_md_timesTo 191 = .ok (.goto (-149), 3) := by decide +kernel
theorem d_md_timesTo_194 : decode b_md_timesTo 194 = .ok (.iinc 3 1, 3) := by decide +kernel
theorem d_md_timesTo_197 : decode b_md_timesTo 197 = .ok (.goto (-164), 3) := by decide +kernel
theorem d_md_timesTo_200 : decode b_md_timesTo 200 = .ok (.return_, 1) := by decide +kernel
theorem d_md_takes_0 : decode b_md_takes 0 = .ok (.aload_n 0, 1) := by decide +kernel
theorem d_md_takes_1 : decode b_md_takes 1 = .ok (.getfield 16, 3) := by decide +kernel
theorem d_md_takes_4 : decode b_md_takes 4 = .ok (.iload_n 2, 1) := by decide +kernel
theorem d_md_takes_5 : decode b_md_takes 5 = .ok (.iaload, 1) := by decide +kernel
theorem d_md_takes_6 : decode b_md_takes 6 = .ok (.aload_n 0, 1) := by decide +kernel
theorem d_md_takes_7 : decode b_md_takes 7 = .ok (.getfield 37, 3) := by decide +kernel
theorem d_md_takes_10 : decode b_md_takes 10 = .ok (.iload_n 1, 1) := by decide +kernel
theorem d_md_takes_11 : decode b_md_takes 11 = .ok (.iaload, 1) := by decide +kernel
theorem d_md_takes_12 : decode b_md_takes 12 = .ok (.idiv, 1) := by decide +kernel
theorem d_md_takes_13 : decode b_md_takes 13 = .ok (.aload_n 0, 1) := by decide +kernel
theorem d_md_takes_14 : decode b_md_takes 14 = .ok (.getfield 16, 3) := by decide +kernel
theorem d_md_takes_17 : decode b_md_takes 17 = .ok (.iload_n 2, 1) := by decide +kernel
theorem d_md_takes_18 : decode b_md_takes 18 = .ok (.iaload, 1) := by decide +kernel
theorem d_md_takes_19 : decode b_md_takes 19 = .ok (.aload_n 0, 1) := by decide +kernel
theorem d_md_takes_20 : decode b_md_takes 20 = .ok (.getfield 37, 3) := by decide +kernel
theorem d_md_takes_23 : decode b_md_takes 23 = .ok (.iload_n 1, 1) := by decide +kernel
theorem d_md_takes_24 : decode b_md_takes 24 = .ok (.iaload, 1) := by decide +kernel
theorem d_md_takes_25 : decode b_md_takes 25 = .ok (.irem, 1) := by decide +kernel
theorem d_md_takes_26 : decode b_md_takes 26 = .ok (.ifCond .le 7, 3) := by decide +kernel
theorem d_md_takes_29 : decode b_md_takes 29 = .ok (.iconst 1, 1) := by decide +kernel
theorem d_md_takes_30 : decode b_md_takes 30 = .ok (.goto 4, 3) := by decide +kernel
theorem d_md_takes_33 : decode b_md_takes 33 = .ok (.iconst 0, 1) := by decide +kernel
theorem d_md_takes_34 : decode b_md_takes 34 = .ok (.iadd, 1) := by decide +kernel
theorem d_md_takes_35 : decode b_md_takes 35 = .ok (.ireturn, 1) := by decide +kernel
theorem d_md_next_0 : decode b_md_next 0 = .ok (.iconst (-1), 1) := by decide +kernel
theorem d_md_next_1 : decode b_md_next 1 = .ok (.istore_n 3, 1) := by decide +kernel
theorem d_md_next_2 : decode b_md_next 2 = .ok (.aload_n 0, 1) := by decide +kernel
theorem d_md_next_3 : decode b_md_next 3 = .ok (.getfield 69, 3) := by decide +kernel
theorem d_md_next_6 : decode b_md_next 6 = .ok (.iconst 1, 1) := by decide +kernel
theorem d_md_next_7 : decode b_md_next 7 = .ok (.isub, 1) := by decide +kernel
theorem d_md_next_8 : decode b_md_next 8 = .ok (.istore 4, 2) := by decide +kernel
theorem d_md_next_10 : decode b_md_next 10 = .ok (.iload 4, 2) := by decide +kernel
theorem d_md_next_12 : decode b_md_next 12 = .ok (.ifCond .lt 136, 3) := by decide +kernel
theorem d_md_next_15 : decode b_md_next 15 = .ok (.aload_n 0, 1) := by decide +kernel
theorem d_md_next_16 : decode b_md_next 16 = .ok (.getfield 62, 3) := by decide +kernel
theorem d_md_next_19 : decode b_md_next 19 = .ok (.iload_n 2, 1) := by decide +kernel
theorem d_md_next_20 : decode b_md_next 20 = .ok (.iaload, 1) := by decide +kernel
theorem d_md_next_21 : decode b_md_next 21 = .ok (.ifCond .le 127, 3) := by decide +kernel
theorem d_md_next_24 : decode b_md_next 24 = .ok (.aload_n 0, 1) := by decide +kernel
theorem d_md_next_25 : decode b_md_next 25 = .ok (.getfield 7, 3) := by decide +kernel
theorem d_md_next_28 : decode b_md_next 28 = .ok (.iload 4, 2) := by decide +kernel
theorem d_md_next_30 : decode b_md_next 30 = .ok (.iaload, 1) := by decide +kernel
theorem d_md_next_31 : decode b_md_next 31 = .ok (.iload_n 2, 1) := by decide +kernel
theorem d_md_next_32 : decode b_md_next 32 = .ok (.if_icmp .ne 13, 3) := by decide +kernel
theorem d_md_next_35 : decode b_md_next 35 = .ok (.aload_n 0, 1) := by decide +kernel
theorem d_md_next_36 : decode b_md_next 36 = .ok (.getfield 13, 3) := by decide +kernel
theorem d_md_next_39 : decode b_md_next 39 = .ok (.iload 4, 2) := by decide +kernel
theorem d_md_next_41 : decode b_md_next 41 = .ok (.iaload, 1) := by decide +kernel
theorem d_md_next_42 : decode b_md_next 42 = .ok (.goto 25, 3) := by decide +kernel
theorem d_md_next_45 : decode b_md_next 45 = .ok (.aload_n 0, 1) := by decide +kernel
theorem d_md_next_46 : decode b_md_next 46 = .ok (.getfield 13, 3) := by decide +kernel
theorem d_md_next_49 : decode b_md_next 49 = .ok (.iload 4, 2) := by decide +kernel
theorem d_md_next_51 : decode b_md_next 51 = .ok (.iaload, 1) := by decide +kernel
theorem d_md_next_52 : decode b_md_next 52 = .ok (.iload_n 2, 1) := by decide +kernel
theorem d_md_next_53 : decode b_md_next 53 = .ok (.if_icmp .ne 13, 3) := by decide +kernel
theorem d_md_next_56 : decode b_md_next 56 = .ok (.aload_n 0, 1) := by decide +kernel
theorem d_md_next_57 : decode b_md_next 57 = .ok (.getfield 7, 3) := by decide +kernel
theorem d_md_next_60 : decode b_md_next 60 = .ok (.iload 4, 2) := by decide +kernel
theorem d_md_next_62 : decode b_md_next 62 = .ok (.iaload, 1) := by decide +kernel
theorem d_md_next_63 : decode b_md_next 63 = .ok (.goto 4, 3) := by decide +kernel
theorem d_md_next_66 : decode b_md_next 66 = .ok (.iconst (-1), 1) := by decide +kernel
theorem d_md_next_67 : decode b_md_next 67 = .ok (.istore 5, 2) := by decide +kernel
theorem d_md_next_69 : decode b_md_next 69 = .ok (.iload 5, 2) := by decide +kernel
theorem d_md_next_71 : decode b_md_next 71 = .ok (.ifCond .lt 56, 3) := by decide +kernel
theorem d_md_next_74 : decode b_md_next 74 = .ok (.aload_n 0, 1) := by decide +kernel
theorem d_md_next_75 : decode b_md_next 75 = .ok (.getfield 34, 3) := by decide +kernel
theorem d_md_next_78 : decode b_md_next 78 = .ok (.iload_n 1, 1) := by decide +kernel
theorem d_md_next_79 : decode b_md_next 79 = .ok (.iaload, 1) := by decide +kernel
theorem d_md_next_80 : decode b_md_next 80 = .ok (.aload_n 0, 1) := by decide +kernel
theorem d_md_next_81 : decode b_md_next 81 = .ok (.getfield 19, 3) := by decide +kernel
theorem d_md_next_84 : decode b_md_next 84 = .ok (.iload 4, 2) := by decide +kernel
theorem d_md_next_86 : decode b_md_next 86 = .ok (.iaload, 1) := by decide +kernel
theorem d_md_next_87 : decode b_md_next 87 = .ok (.if_icmp .gt 40, 3) := by decide +kernel
theorem d_md_next_90 : decode b_md_next 90 = .ok (.aload_n 0, 1) := by decide +kernel
theorem d_md_next_91 : decode b_md_next 91 = .ok (.getfield 62, 3) := by decide +kernel
theorem d_md_next_94 : decode b_md_next 94 = .ok (.iload_n 2, 1) := by decide +kernel
theorem d_md_next_95 : decode b_md_next 95 = .ok (.iaload, 1) := by decide +kernel
theorem d_md_next_96 : decode b_md_next 96 = .ok (.aload_n 0, 1) := by decide +kernel
theorem d_md_next_97 : decode b_md_next 97 = .ok (.iload_n 1, 1) := by decide +kernel
theorem d_md_next_98 : decode b_md_next 98 = .ok (.iload 4, 2) := by decide +kernel
theorem d_md_next_100 : decode b_md_next 100 = .ok (.invokevirtual 102, 3) := by decide +kernel
theorem d_md_next_103 : decode b_md_next 103 = .ok (.aload_n 0, 1) := by decide +kernel
theorem d_md_next_104 : decode b_md_next 104 = .ok (.getfield 62, 3) := by decide +kernel
theorem d_md_next_107 : decode b_md_next 107 = .ok (.iload 5, 2) := by decide +kernel
theorem d_md_next_109 : decode b_md_next 109 = .ok (.ifCond .lt 8, 3) := by decide +kernel
theorem d_md_next_112 : decode b_md_next 112 = .ok (.iload 5, 2) := by decide +kernel
theorem d_md_next_114 : decode b_md_next 114 = .ok (.goto 4, 3) := by decide +kernel
theorem d_md_next_117 : decode b_md_next 117 = .ok (.iconst 0, 1) := by decide +kernel
theorem d_md_next_118 : decode b_md_next 118 = .ok (.iaload, 1) := by decide +kernel
theorem d_md_next_119 : decode b_md_next 119 = .ok (.iadd, 1) := by decide +kernel
theorem d_md_next_120 : decode b_md_next 120 = .ok (.if_icmp .ne 7, 3) := by decide +kernel
theorem d_md_next_123 : decode b_md_next 123 = .ok (.iconst 1, 1) := by decide +kernel
theorem d_md_next_124 : decode b_md_next 124 = .ok (.goto 4, 3) := by decide +kernel
theorem d_md_next_127 : decode b_md_next 127 = .ok (.iconst 0, 1) := by decide +kernel
theorem d_md_next_128 : decode b_md_next 128 = .ok (.istore 6, 2) := by decide +kernel
theorem d_md_next_130 : decode b_md_next 130 = .ok (.iload 6, 2) := by decide +kernel
theorem d_md_next_132 : decode b_md_next 132 = .ok (.ifCond .eq 8, 3) := by decide +kernel
theorem d_md_next_135 : decode b_md_next 135 = .ok (.iload 4, 2) := by decide +kernel
theorem d_md_next_137 : decode b_md_next 137 = .ok (.goto 4, 3) := by decide +kernel
theorem d_md_next_140 : decode b_md_next 140 = .ok (.iload_n 3, 1) := by decide +kernel
theorem d_md_next_141 : decode b_md_next 141 = .ok (.istore_n 3, 1) := by decide +kernel
theorem d_md_next_142 : decode b_md_next 142 = .ok (.iinc 4 (-1), 3) := by decide +kernel
theorem d_md_next_145 : decode b_md_next 145 = .ok (.goto (-135), 3) := by decide +kernel
theorem d_md_next_148 : decode b_md_next 148 = .ok (.iload_n 3, 1) := by decide +kernel
theorem d_md_next_149 : decode b_md_next 149 = .ok (.ireturn, 1) := by decide +kernel
theorem d_md_ask_0 : decode b_md_ask 0 = .ok (.aload_n 0, 1) := by decide +kernel
theorem d_md_ask_1 : decode b_md_ask 1 = .ok (.iload_n 1, 1) := by decide +kernel
theorem d_md_ask_2 : decode b_md_ask 2 = .ok (.iload_n 2, 1) := by decide +kernel
theorem d_md_ask_3 : decode b_md_ask 3 = .ok (.iload_n 3, 1) := by decide +kernel
theorem d_md_ask_4 : decode b_md_ask 4 = .ok (.iload 4, 2) := by decide +kernel
theorem d_md_ask_6 : decode b_md_ask 6 = .ok (.invokevirtual 143, 3) := by decide +kernel
theorem d_md_ask_9 : decode b_md_ask 9 = .ok (.ifCond .ne 9, 3) := by decide +kernel
theorem d_md_ask_12 : decode b_md_ask 12 = .ok (.aload_n 0, 1) := by decide +kernel
theorem d_md_ask_13 : decode b_md_ask 13 = .ok (.iconst 1, 1) := by decide +kernel
theorem d_md_ask_14 : decode b_md_ask 14 = .ok (.invokevirtual 90, 3) := by decide +kernel
theorem d_md_ask_17 : decode b_md_ask 17 = .ok (.ireturn, 1) := by decide +kernel
theorem d_md_ask_18 : decode b_md_ask 18 = .ok (.aload_n 0, 1) := by decide +kernel
theorem d_md_ask_19 : decode b_md_ask 19 = .ok (.getfield 75, 3) := by decide +kernel
theorem d_md_ask_22 : decode b_md_ask 22 = .ok (.bipush 30, 2) := by decide +kernel
theorem d_md_ask_24 : decode b_md_ask 24 = .ok (.if_icmp .ne 9, 3) := by decide +kernel
theorem d_md_ask_27 : decode b_md_ask 27 = .ok (.aload_n 0, 1) := by decide +kernel
theorem d_md_ask_28 : decode b_md_ask 28 = .ok (.iconst 2, 1) := by decide +kernel
theorem d_md_ask_29 : decode b_md_ask 29 = .ok (.invokevirtual 90, 3) := by decide +kernel
theorem d_md_ask_32 : decode b_md_ask 32 = .ok (.ireturn, 1) := by decide +kernel
theorem d_md_ask_33 : decode b_md_ask 33 = .ok (.aload_n 0, 1) := by decide +kernel
theorem d_md_ask_34 : decode b_md_ask 34 = .ok (.iconst 0, 1) := by decide +kernel
theorem d_md_ask_35 : decode b_md_ask 35 = .ok (.putfield 65, 3) := by decide +kernel
theorem d_md_ask_38 : decode b_md_ask 38 = .ok (.aload_n 0, 1) := by decide +kernel
theorem d_md_ask_39 : decode b_md_ask 39 = .ok (.iload_n 1, 1) := by decide +kernel
theorem d_md_ask_40 : decode b_md_ask 40 = .ok (.iload_n 2, 1) := by decide +kernel
theorem d_md_ask_41 : decode b_md_ask 41 = .ok (.iload_n 3, 1) := by decide +kernel
theorem d_md_ask_42 : decode b_md_ask 42 = .ok (.invokevirtual 116, 3) := by decide +kernel
theorem d_md_ask_45 : decode b_md_ask 45 = .ok (.ifCond .ne 5, 3) := by decide +kernel
theorem d_md_ask_48 : decode b_md_ask 48 = .ok (.iconst 0, 1) := by decide +kernel
theorem d_md_ask_49 : decode b_md_ask 49 = .ok (.ireturn, 1) := by decide +kernel
theorem d_md_ask_50 : decode b_md_ask 50 = .ok (.aload_n 0, 1) := by decide +kernel
theorem d_md_ask_51 : decode b_md_ask 51 = .ok (.getfield 46, 3) := by decide +kernel
theorem d_md_ask_54 : decode b_md_ask 54 = .ok (.iconst 0, 1) := by decide +kernel
theorem d_md_ask_55 : decode b_md_ask 55 = .ok (.iload 4, 2) := by decide +kernel
theorem d_md_ask_57 : decode b_md_ask 57 = .ok (.iastore, 1) := by decide +kernel
theorem d_md_ask_58 : decode b_md_ask 58 = .ok (.aload_n 0, 1) := by decide +kernel
theorem d_md_ask_59 : decode b_md_ask 59 = .ok (.iconst 0, 1) := by decide +kernel
theorem d_md_ask_60 : decode b_md_ask 60 = .ok (.iconst 0, 1) := by decide +kernel
theorem d_md_ask_61 : decode b_md_ask 61 = .ok (.invokevirtual 147, 3) := by decide +kernel
theorem d_md_ask_64 : decode b_md_ask 64 = .ok (.istore 5, 2) := by decide +kernel
theorem d_md_ask_66 : decode b_md_ask 66 = .ok (.iload 5, 2) := by decide +kernel
theorem d_md_ask_68 : decode b_md_ask 68 = .ok (.ifCond .le 8, 3) := by decide +kernel
theorem d_md_ask_71 : decode b_md_ask 71 = .ok (.iconst (-1), 1) := by decide +kernel
theorem d_md_ask_72 : decode b_md_ask 72 = .ok (.iload 5, 2) := by decide +kernel
theorem d_md_ask_74 : decode b_md_ask 74 = .ok (.isub, 1) := by decide +kernel
theorem d_md_ask_75 : decode b_md_ask 75 = .ok (.ireturn, 1) := by decide +kernel
theorem d_md_ask_76 : decode b_md_ask 76 = .ok (.aload_n 0, 1) := by decide +kernel
theorem d_md_ask_77 : decode b_md_ask 77 = .ok (.dup, 1) := by decide +kernel
theorem d_md_ask_78 : decode b_md_ask 78 = .ok (.getfield 75, 3) := by decide +kernel
theorem d_md_ask_81 : decode b_md_ask 81 = .ok (.iconst 1, 1) := by decide +kernel
theorem d_md_ask_82 : decode b_md_ask 82 = .ok (.iadd, 1) := by decide +kernel
theorem d_md_ask_83 : decode b_md_ask 83 = .ok (.putfield 75, 3) := by decide +kernel
theorem d_md_ask_86 : decode b_md_ask 86 = .ok (.aload_n 0, 1) := by decide +kernel
theorem d_md_ask_87 : decode b_md_ask 87 = .ok (.getfield 43, 3) := by decide +kernel
theorem d_md_ask_90 : decode b_md_ask 90 = .ok (.aload_n 0, 1) := by decide +kernel
theorem d_md_ask_91 : decode b_md_ask 91 = .ok (.getfield 75, 3) := by decide +kernel
theorem d_md_ask_94 : decode b_md_ask 94 = .ok (.iload_n 1, 1) := by decide +kernel
theorem d_md_ask_95 : decode b_md_ask 95 = .ok (.iastore, 1) := by decide +kernel
theorem d_md_ask_96 : decode b_md_ask 96 = .ok (.aload_n 0, 1) := by decide +kernel
theorem d_md_ask_97 : decode b_md_ask 97 = .ok (.getfield 46, 3) := by decide +kernel
theorem d_md_ask_100 : decode b_md_ask 100 = .ok (.aload_n 0, 1) := by decide +kernel
theorem d_md_ask_101 : decode b_md_ask 101 = .ok (.getfield 75, 3) := by decide +kernel
theorem d_md_ask_104 : decode b_md_ask 104 = .ok (.iload 4, 2) := by decide +kernel
theorem d_md_ask_106 : decode b_md_ask 106 = .ok (.iastore, 1) := by decide +kernel
theorem d_md_ask_107 : decode b_md_ask 107 = .ok (.aload_n 0, 1) := by decide +kernel
theorem d_md_ask_108 : decode b_md_ask 108 = .ok (.getfield 49, 3) := by decide +kernel
theorem d_md_ask_111 : decode b_md_ask 111 = .ok (.aload_n 0, 1) := by decide +kernel
theorem d_md_ask_112 : decode b_md_ask 112 = .ok (.getfield 75, 3) := by decide +kernel
theorem d_md_ask_115 : decode b_md_ask 115 = .ok (.iconst 1, 1) := by decide +kernel
theorem d_md_ask_116 : decode b_md_ask 116 = .ok (.bastore, 1) := by decide +kernel
theorem d_md_ask_117 : decode b_md_ask 117 = .ok (.aload_n 0, 1) := by decide +kernel
theorem d_md_ask_118 : decode b_md_ask 118 = .ok (.getfield 53, 3) := by decide +kernel
theorem d_md_ask_121 : decode b_md_ask 121 = .ok (.aload_n 0, 1) := by decide +kernel
theorem d_md_ask_122 : decode b_md_ask 122 = .ok (.getfield 75, 3) := by decide +kernel
theorem d_md_ask_125 : decode b_md_ask 125 = .ok (.aload_n 0, 1) := by decide +kernel
theorem d_md_ask_126 : decode b_md_ask 126 = .ok (.getfield 53, 3) := by decide +kernel
theorem d_md_ask_129 : decode b_md_ask 129 = .ok (.iconst 0, 1) := by decide +kernel
theorem d_md_ask_130 : decode b_md_ask 130 = .ok (.iaload, 1) := by decide +kernel
theorem d_md_ask_131 : decode b_md_ask 131 = .ok (.iastore, 1) := by decide +kernel
theorem d_md_ask_132 : decode b_md_ask 132 = .ok (.iconst 0, 1) := by decide +kernel
theorem d_md_ask_133 : decode b_md_ask 133 = .ok (.istore 6, 2) := by decide +kernel
theorem d_md_ask_135 : decode b_md_ask 135 = .ok (.iload 6, 2) := by decide +kernel
theorem d_md_ask_137 : decode b_md_ask 137 = .ok (.aload_n 0, 1) := by decide +kernel
theorem d_md_ask_138 : decode b_md_ask 138 = .ok (.getfield 53, 3) := by decide +kernel
theorem d_md_ask_141 : decode b_md_ask 141 = .ok (.iconst 0, 1) := by decide +kernel
theorem d_md_ask_142 : decode b_md_ask 142 = .ok (.iaload, 1) := by decide +kernel
theorem d_md_ask_143 : decode b_md_ask 143 = .ok (.if_icmp .ge 53, 3) := by decide +kernel
theorem d_md_ask_146 : decode b_md_ask 146 = .ok (.aload_n 0, 1) := by decide +kernel
theorem d_md_ask_147 : decode b_md_ask 147 = .ok (.getfield 56, 3) := by decide +kernel
theorem d_md_ask_150 : decode b_md_ask 150 = .ok (.bipush 8, 2) := by decide +kernel
theorem d_md_ask_152 : decode b_md_ask 152 = .ok (.aload_n 0, 1) := by decide +kernel
theorem d_md_ask_153 : decode b_md_ask 153 = .ok (.getfield 75, 3) := by decide +kernel
theorem d_md_ask_156 : decode b_md_ask 156 = .ok (.imul, 1) := by decide +kernel
theorem d_md_ask_157 : decode b_md_ask 157 = .ok (.iload 6, 2) := by decide +kernel
theorem d_md_ask_159 : decode b_md_ask 159 = .ok (.iadd, 1) := by decide +kernel
theorem d_md_ask_160 : decode b_md_ask 160 = .ok (.aload_n 0, 1) := by decide +kernel
theorem d_md_ask_161 : decode b_md_ask 161 = .ok (.getfield 56, 3) := by decide +kernel
theorem d_md_ask_164 : decode b_md_ask 164 = .ok (.iload 6, 2) := by decide +kernel
theorem d_md_ask_166 : decode b_md_ask 166 = .ok (.iaload, 1) := by decide +kernel
theorem d_md_ask_167 : decode b_md_ask 167 = .ok (.iastore, 1) := by decide +kernel
theorem d_md_ask_168 : decode b_md_ask 168 = .ok (.aload_n 0, 1) := by decide +kernel
theorem d_md_ask_169 : decode b_md_ask 169 = .ok (.getfield 59, 3) := by decide +kernel
theorem d_md_ask_172 : decode b_md_ask 172 = .ok (.bipush 8, 2) := by decide +kernel
theorem d_md_ask_174 : decode b_md_ask 174 = .ok (.aload_n 0, 1) := by decide +kernel
theorem d_md_ask_175 : decode b_md_ask 175 = .ok (.getfield 75, 3) := by decide +kernel
theorem d_md_ask_178 : decode b_md_ask 178 = .ok (.imul, 1) := by decide +kernel
theorem d_md_ask_179 : decode b_md_ask 179 = .ok (.iload 6, 2) := by decide +kernel
theorem d_md_ask_181 : decode b_md_ask 181 = .ok (.iadd, 1) := by decide +kernel
theorem d_md_ask_182 : decode b_md_ask 182 = .ok (.aload_n 0, 1) := by decide +kernel
theorem d_md_ask_183 : decode b_md_ask 183 = .ok (.getfield 59, 3) := by decide +kernel
theorem d_md_ask_186 : decode b_md_ask 186 = .ok (.iload 6, 2) := by decide +kernel
theorem d_md_ask_188 : decode b_md_ask 188 = .ok (.iaload, 1) := by decide +kernel
theorem d_md_ask_189 : decode b_md_ask 189 = .ok (.iastore, 1) := by decide +kernel
theorem d_md_ask_190 : decode b_md_ask 190 = .ok (.iinc 6 1, 3) := by decide +kernel
theorem d_md_ask_193 : decode b_md_ask 193 = .ok (.goto (-58), 3) := by decide +kernel
theorem d_md_ask_196 : decode b_md_ask 196 = .ok (.aload_n 0, 1) := by decide +kernel
theorem d_md_ask_197 : decode b_md_ask 197 = .ok (.getfield 75, 3) := by decide +kernel
theorem d_md_ask_200 : decode b_md_ask 200 = .ok (.ireturn, 1) := by decide +kernel
theorem d_md_isPassage_0 : decode b_md_isPassage 0 = .ok (.aload_n 0, 1) := by decide +kernel
theorem d_md_isPassage_1 : decode b_md_isPassage 1 = .ok (.iload_n 1, 1) := by decide +kernel
theorem d_md_isPassage_2 : decode b_md_isPassage 2 = .ok (.invokevirtual 113, 3) := by decide +kernel
theorem d_md_isPassage_5 : decode b_md_isPassage 5 = .ok (.ifCond .eq 30, 3) := by decide +kernel
theorem d_md_isPassage_8 : decode b_md_isPassage 8 = .ok (.iload_n 2, 1) := by decide +kernel
theorem d_md_isPassage_9 : decode b_md_isPassage 9 = .ok (.invokestatic 82, 3) := by decide +kernel
theorem d_md_isPassage_12 : decode b_md_isPassage 12 = .ok (.ifCond .eq 23, 3) := by decide +kernel
theorem d_md_isPassage_15 : decode b_md_isPassage 15 = .ok (.iload_n 3, 1) := by decide +kernel
theorem d_md_isPassage_16 : decode b_md_isPassage 16 = .ok (.invokestatic 82, 3) := by decide +kernel
theorem d_md_isPassage_19 : decode b_md_isPassage 19 = .ok (.ifCond .eq 16, 3) := by decide +kernel
theorem d_md_isPassage_22 : decode b_md_isPassage 22 = .ok (.aload_n 0, 1) := by decide +kernel
theorem d_md_isPassage_23 : decode b_md_isPassage 23 = .ok (.iload 4, 2) := by decide +kernel
theorem d_md_isPassage_25 : decode b_md_isPassage 25 = .ok (.invokevirtual 140, 3) := by decide +kernel
theorem d_md_isPassage_28 : decode b_md_isPassage 28 = .ok (.ifCond .eq 7, 3) := by decide +kernel
theorem d_md_isPassage_31 : decode b_md_isPassage 31 = .ok (.iconst 1, 1) := by decide +kernel
theorem d_md_isPassage_32 : decode b_md_isPassage 32 = .ok (.goto 4, 3) := by decide +kernel
theorem d_md_isPassage_35 : decode b_md_isPassage 35 = .ok (.iconst 0, 1) := by decide +kernel
theorem d_md_isPassage_36 : decode b_md_isPassage 36 = .ok (.ireturn, 1) := by decide +kernel
theorem d_md_isTime_0 : decode b_md_isTime 0 = .ok (.iload_n 1, 1) := by decide +kernel
theorem d_md_isTime_1 : decode b_md_isTime 1 = .ok (.aload_n 0, 1) := by decide +kernel
theorem d_md_isTime_2 : decode b_md_isTime 2 = .ok (.getfield 78, 3) := by decide +kernel
theorem d_md_isTime_5 : decode b_md_isTime 5 = .ok (.if_icmp .lt 13, 3) := by decide +kernel
theorem d_md_isTime_8 : decode b_md_isTime 8 = .ok (.iload_n 1, 1) := by decide +kernel
theorem d_md_isTime_9 : decode b_md_isTime 9 = .ok (.ldc 81, 2) := by decide +kernel
theorem d_md_isTime_11 : decode b_md_isTime 11 = .ok (.if_icmp .gt 7, 3) := by decide +kernel
theorem d_md_isTime_14 : decode b_md_isTime 14 = .ok (.iconst 1, 1) := by decide +kernel
theorem d_md_isTime_15 : decode b_md_isTime 15 = .ok (.goto 4, 3) := by decide +kernel
theorem d_md_isTime_18 : decode b_md_isTime 18 = .ok (.iconst 0, 1) := by decide +kernel
theorem d_md_isTime_19 : decode b_md_isTime 19 = .ok (.ireturn, 1) := by decide +kernel
theorem d_md_against_0 : decode b_md_against 0 = .ok (.iconst 0, 1) := by decide +kernel
theorem d_md_against_1 : decode b_md_against 1 = .ok (.istore_n 3, 1) := by decide +kernel
theorem d_md_against_2 : decode b_md_against 2 = .ok (.iload_n 3, 1) := by decide +kernel
theorem d_md_against_3 : decode b_md_against 3 = .ok (.aload_n 0, 1) := by decide +kernel
theorem d_md_against_4 : decode b_md_against 4 = .ok (.getfield 53, 3) := by decide +kernel
theorem d_md_against_7 : decode b_md_against 7 = .ok (.iload_n 1, 1) := by decide +kernel
theorem d_md_against_8 : decode b_md_against 8 = .ok (.iaload, 1) := by decide +kernel
theorem d_md_against_9 : decode b_md_against 9 = .ok (.if_icmp .ge 110, 3) := by decide +kernel
theorem d_md_against_12 : decode b_md_against 12 = .ok (.aload_n 0, 1) := by decide +kernel
theorem d_md_against_13 : decode b_md_against 13 = .ok (.iload_n 1, 1) := by decide +kernel
theorem d_md_against_14 : decode b_md_against 14 = .ok (.iload_n 3, 1) := by decide +kernel
theorem d_md_against_15 : decode b_md_against 15 = .ok (.invokevirtual 133, 3) := by decide +kernel
theorem d_md_against_18 : decode b_md_against 18 = .ok (.istore 4, 2) := by decide +kernel
theorem d_md_against_20 : decode b_md_against 20 = .ok (.iconst 1, 1) := by decide +kernel
theorem d_md_against_21 : decode b_md_against 21 = .ok (.istore 5, 2) := by decide +kernel
theorem d_md_against_23 : decode b_md_against 23 = .ok (.iload 5, 2) := by decide +kernel
theorem d_md_against_25 : decode b_md_against 25 = .ok (.aload_n 0, 1) := by decide +kernel
theorem d_md_against_26 : decode b_md_against 26 = .ok (.getfield 75, 3) := by decide +kernel
theorem d_md_against_29 : decode b_md_against 29 = .ok (.if_icmp .gt 76, 3) := by decide +kernel
theorem d_md_against_32 : decode b_md_against 32 = .ok (.iload 4, 2) := by decide +kernel
theorem d_md_against_34 : decode b_md_against 34 = .ok (.ifCond .eq 9, 3) := by decide +kernel
theorem d_md_against_37 : decode b_md_against 37 = .ok (.iload 4, 2) := by decide +kernel
theorem d_md_against_39 : decode b_md_against 39 = .ok (.iconst 5, 1) := by decide +kernel
theorem d_md_against_40 : decode b_md_against 40 = .ok (.if_icmp .le 65, 3) := by decide +kernel
theorem d_md_against_43 : decode b_md_against 43 = .ok (.aload_n 0, 1) := by decide +kernel
theorem d_md_against_44 : decode b_md_against 44 = .ok (.getfield 49, 3) := by decide +kernel
theorem d_md_against_47 : decode b_md_against 47 = .ok (.iload 5, 2) := by decide +kernel
theorem d_md_against_49 : decode b_md_against 49 = .ok (.baload, 1) := by decide +kernel
theorem d_md_against_50 : decode b_md_against 50 = .ok (.ifCond .eq 20, 3) := by decide +kernel
theorem d_md_against_53 : decode b_md_against 53 = .ok (.iload 5, 2) := by decide +kernel
theorem d_md_against_55 : decode b_md_against 55 = .ok (.iload_n 2, 1) := by decide +kernel
theorem d_md_against_56 : decode b_md_against 56 = .ok (.if_icmp .eq 14, 3) := by decide +kernel
theorem d_md_against_59 : decode b_md_against 59 = .ok (.aload_n 0, 1) := by decide +kernel
theorem d_md_against_60 : decode b_md_against 60 = .ok (.iload_n 1, 1) := by decide +kernel
theorem d_md_against_61 : decode b_md_against 61 = .ok (.iload_n 3, 1) := by decide +kernel
theorem d_md_against_62 : decode b_md_against 62 = .ok (.iload 5, 2) := by decide +kernel
theorem d_md_against_64 : decode b_md_against 64 = .ok (.invokevirtual 136, 3) := by decide +kernel
theorem d_md_against_67 : decode b_md_against 67 = .ok (.goto 4, 3) := by decide +kernel
theorem d_md_against_70 : decode b_md_against 70 = .ok (.iconst 0, 1) := by decide +kernel
theorem d_md_against_71 : decode b_md_against 71 = .ok (.istore 6, 2) := by decide +kernel
theorem d_md_against_73 : decode b_md_against 73 = .ok (.iload 6, 2) := by decide +kernel
theorem d_md_against_75 : decode b_md_against 75 = .ok (.ifCond .le 20, 3) := by decide +kernel
theorem d_md_against_78 : decode b_md_against 78 = .ok (.iload 4, 2) := by decide +kernel
theorem d_md_against_80 : decode b_md_against 80 = .ok (.ifCond .eq 10, 3) := by decide +kernel
theorem d_md_against_83 : decode b_md_against 83 = .ok (.iload 6, 2) := by decide +kernel
theorem d_md_against_85 : decode b_md_against 85 = .ok (.iload 4, 2) := by decide +kernel
theorem d_md_against_87 : decode b_md_against 87 = .ok (.if_icmp .ge 8, 3) := by decide +kernel
theorem d_md_against_90 : decode b_md_against 90 = .ok (.iload 6, 2) := by decide +kernel
theorem d_md_against_92 : decode b_md_against 92 = .ok (.goto 5, 3) := by decide +kernel
theorem d_md_against_95 : decode b_md_against 95 = .ok (.iload 4, 2) := by decide +kernel
theorem d_md_against_97 : decode b_md_against 97 = .ok (.istore 4, 2) := by decide +kernel
theorem d_md_against_99 : decode b_md_against 99 = .ok (.iinc 5 1, 3) := by decide +kernel
theorem d_md_against_102 : decode b_md_against 102 = .ok (.goto (-79), 3) := by decide +kernel
theorem d_md_against_105 : decode b_md_against 105 = .ok (.iload 4, 2) := by decide +kernel
theorem d_md_against_107 : decode b_md_against 107 = .ok (.ifCond .le 6, 3) := by decide +kernel
theorem d_md_against_110 : decode b_md_against 110 = .ok (.iload 4, 2) := by decide +kernel
theorem d_md_against_112 : decode b_md_against 112 = .ok (.ireturn, 1) := by decide +kernel
theorem d_md_against_113 : decode b_md_against 113 = .ok (.iinc 3 1, 3) := by decide +kernel
theorem d_md_against_116 : decode b_md_against 116 = .ok (.goto (-114), 3) := by decide +kernel
theorem d_md_against_119 : decode b_md_against 119 = .ok (.iconst 0, 1) := by decide +kernel
theorem d_md_against_120 : decode b_md_against 120 = .ok (.ireturn, 1) := by decide +kernel
theorem d_md_barred_0 : decode b_md_barred 0 = .ok (.aload_n 0, 1) := by decide +kernel
theorem d_md_barred_1 : decode b_md_barred 1 = .ok (.getfield 56, 3) := by decide +kernel
theorem d_md_barred_4 : decode b_md_barred 4 = .ok (.bipush 8, 2) := by decide +kernel
theorem d_md_barred_6 : decode b_md_barred 6 = .ok (.iload_n 1, 1) := by decide +kernel
theorem d_md_barred_7 : decode b_md_barred 7 = .ok (.imul, 1) := by decide +kernel
theorem d_md_barred_8 : decode b_md_barred 8 = .ok (.iload_n 2, 1) := by decide +kernel
theorem d_md_barred_9 : decode b_md_barred 9 = .ok (.iadd, 1) := by decide +kernel
theorem d_md_barred_10 : decode b_md_barred 10 = .ok (.iaload, 1) := by decide +kernel
theorem d_md_barred_11 : decode b_md_barred 11 = .ok (.istore_n 3, 1) := by decide +kernel
theorem d_md_barred_12 : decode b_md_barred 12 = .ok (.aload_n 0, 1) := by decide +kernel
theorem d_md_barred_13 : decode b_md_barred 13 = .ok (.getfield 43, 3) := by decide +kernel
theorem d_md_barred_16 : decode b_md_barred 16 = .ok (.iload_n 1, 1) := by decide +kernel
theorem d_md_barred_17 : decode b_md_barred 17 = .ok (.iaload, 1) := by decide +kernel
theorem d_md_barred_18 : decode b_md_barred 18 = .ok (.istore 4, 2) := by decide +kernel
theorem d_md_barred_20 : decode b_md_barred 20 = .ok (.aload_n 0, 1) := by decide +kernel
theorem d_md_barred_21 : decode b_md_barred 21 = .ok (.iload_n 1, 1) := by decide +kernel
theorem d_md_barred_22 : decode b_md_barred 22 = .ok (.iload_n 2, 1) := by decide +kernel
theorem d_md_barred_23 : decode b_md_barred 23 = .ok (.invokevirtual 119, 3) := by decide +kernel
theorem d_md_barred_26 : decode b_md_barred 26 = .ok (.istore 5, 2) := by decide +kernel
theorem d_md_barred_28 : decode b_md_barred 28 = .ok (.aload_n 0, 1) := by decide +kernel
theorem d_md_barred_29 : decode b_md_barred 29 = .ok (.iload_n 1, 1) := by decide +kernel
theorem d_md_barred_30 : decode b_md_barred 30 = .ok (.iload_n 2, 1) := by decide +kernel
theorem d_md_barred_31 : decode b_md_barred 31 = .ok (.invokevirtual 122, 3) := by decide +kernel
theorem d_md_barred_34 : decode b_md_barred 34 = .ok (.istore 6, 2) := by decide +kernel
theorem d_md_barred_36 : decode b_md_barred 36 = .ok (.aload_n 0, 1) := by decide +kernel
theorem d_md_barred_37 : decode b_md_barred 37 = .ok (.getfield 22, 3) := by decide +kernel
theorem d_md_barred_40 : decode b_md_barred 40 = .ok (.iconst 5, 1) := by decide +kernel
theorem d_md_barred_41 : decode b_md_barred 41 = .ok (.iload_n 3, 1) := by decide +kernel
theorem d_md_barred_42 : decode b_md_barred 42 = .ok (.imul, 1) := by decide +kernel
theorem d_md_barred_43 : decode b_md_barred 43 = .ok (.iaload, 1) := by decide +kernel
theorem d_md_barred_44 : decode b_md_barred 44 = .ok (.istore 7, 2) := by decide +kernel
theorem d_md_barred_46 : decode b_md_barred 46 = .ok (.iload 7, 2) := by decide +kernel
theorem d_md_barred_48 : decode b_md_barred 48 = .ok (.ifCond .le 30, 3) := by decide +kernel
theorem d_md_barred_51 : decode b_md_barred 51 = .ok (.iload 7, 2) := by decide +kernel
theorem d_md_barred_53 : decode b_md_barred 53 = .ok (.aload_n 0, 1) := by decide +kernel
theorem d_md_barred_54 : decode b_md_barred 54 = .ok (.getfield 59, 3) := by decide +kernel
theorem d_md_barred_57 : decode b_md_barred 57 = .ok (.bipush 8, 2) := by decide +kernel
theorem d_md_barred_59 : decode b_md_barred 59 = .ok (.iload_n 1, 1) := by decide +kernel
theorem d_md_barred_60 : decode b_md_barred 60 = .ok (.imul, 1) := by decide +kernel
theorem d_md_barred_61 : decode b_md_barred 61 = .ok (.iload_n 2, 1) := by decide +kernel
theorem d_md_barred_62 : decode b_md_barred 62 = .ok (.iadd, 1) := by decide +kernel
theorem d_md_barred_63 : decode b_md_barred 63 = .ok (.iaload, 1) := by decide +kernel
theorem d_md_barred_64 : decode b_md_barred 64 = .ok (.iconst 1, 1) := by decide +kernel
theorem d_md_barred_65 : decode b_md_barred 65 = .ok (.if_icmp .ne 7, 3) := by decide +kernel
theorem d_md_barred_68 : decode b_md_barred 68 = .ok (.iconst 1, 1) := by decide +kernel
theorem d_md_barred_69 : decode b_md_barred 69 = .ok (.goto 4, 3) := by decide +kernel
theorem d_md_barred_72 : decode b_md_barred 72 = .ok (.iconst 2, 1) := by decide +kernel
theorem d_md_barred_73 : decode b_md_barred 73 = .ok (.if_icmp .eq 5, 3) := by decide +kernel
theorem d_md_barred_76 : decode b_md_barred 76 = .ok (.iconst 1, 1) := by decide +kernel
theorem d_md_barred_77 : decode b_md_barred 77 = .ok (.ireturn, 1) := by decide +kernel
theorem d_md_barred_78 : decode b_md_barred 78 = .ok (.aload_n 0, 1) := by decide +kernel
theorem d_md_barred_79 : decode b_md_barred 79 = .ok (.getfield 22, 3) := by decide +kernel
theorem d_md_barred_82 : decode b_md_barred 82 = .ok (.iconst 5, 1) := by decide +kernel
theorem d_md_barred_83 : decode b_md_barred 83 = .ok (.iload_n 3, 1) := by decide +kernel
theorem d_md_barred_84 : decode b_md_barred 84 = .ok (.imul, 1) := by decide +kernel
theorem d_md_barred_85 : decode b_md_barred 85 = .ok (.iconst 1, 1) := by decide +kernel
theorem d_md_barred_86 : decode b_md_barred 86 = .ok (.iadd, 1) := by decide +kernel
theorem d_md_barred_87 : decode b_md_barred 87 = .ok (.iaload, 1) := by decide +kernel
theorem d_md_barred_88 : decode b_md_barred 88 = .ok (.ifCond .le 35, 3) := by decide +kernel
theorem d_md_barred_91 : decode b_md_barred 91 = .ok (.aload_n 0, 1) := by decide +kernel
theorem d_md_barred_92 : decode b_md_barred 92 = .ok (.getfield 40, 3) := by decide +kernel
theorem d_md_barred_95 : decode b_md_barred 95 = .ok (.iload 4, 2) := by decide +kernel
theorem d_md_barred_97 : decode b_md_barred 97 = .ok (.iaload, 1) := by decide +kernel
theorem d_md_barred_98 : decode b_md_barred 98 = .ok (.aload_n 0, 1) := by decide +kernel
theorem d_md_barred_99 : decode b_md_barred 99 = .ok (.getfield 22, 3) := by decide +kernel
theorem d_md_barred_102 : decode b_md_barred 102 = .ok (.iconst 5, 1) := by decide +kernel
theorem d_md_barred_103 : decode b_md_barred 103 = .ok (.iload_n 3, 1) := by decide +kernel
theorem d_md_barred_104 : decode b_md_barred 104 = .ok (.imul, 1) := by decide +kernel
theorem d_md_barred_105 : decode b_md_barred 105 = .ok (.iconst 1, 1) := by decide +kernel
theorem d_md_barred_106 : decode b_md_barred 106 = .ok (.iadd, 1) := by decide +kernel
theorem d_md_barred_107 : decode b_md_barred 107 = .ok (.iaload, 1) := by decide +kernel
theorem d_md_barred_108 : decode b_md_barred 108 = .ok (.if_icmp .lt 15, 3) := by decide +kernel
theorem d_md_barred_111 : decode b_md_barred 111 = .ok (.iload 5, 2) := by decide +kernel
theorem d_md_barred_113 : decode b_md_barred 113 = .ok (.iload 6, 2) := by decide +kernel
theorem d_md_barred_115 : decode b_md_barred 115 = .ok (.invokestatic 125, 3) := by decide +kernel
theorem d_md_barred_118 : decode b_md_barred 118 = .ok (.ifCond .eq 5, 3) := by decide +kernel
theorem d_md_barred_121 : decode b_md_barred 121 = .ok (.iconst 2, 1) := by decide +kernel
theorem d_md_barred_122 : decode b_md_barred 122 = .ok (.ireturn, 1) := by decide +kernel
theorem d_md_barred_123 : decode b_md_barred 123 = .ok (.aload_n 0, 1) := by decide +kernel
theorem d_md_barred_124 : decode b_md_barred 124 = .ok (.getfield 97, 3) := by decide +kernel
theorem d_md_barred_127 : decode b_md_barred 127 = .ok (.ifCond .eq 25, 3) := by decide +kernel
theorem d_md_barred_130 : decode b_md_barred 130 = .ok (.aload_n 0, 1) := by decide +kernel
theorem d_md_barred_131 : decode b_md_barred 131 = .ok (.getfield 34, 3) := by decide +kernel
theorem d_md_barred_134 : decode b_md_barred 134 = .ok (.iload 4, 2) := by decide +kernel
theorem d_md_barred_136 : decode b_md_barred 136 = .ok (.iaload, 1) := by decide +kernel
theorem d_md_barred_137 : decode b_md_barred 137 = .ok (.aload_n 0, 1) := by decide +kernel
theorem d_md_barred_138 : decode b_md_barred 138 = .ok (.getfield 22, 3) := by decide +kernel
theorem d_md_barred_141 : decode b_md_barred 141 = .ok (.iconst 5, 1) := by decide +kernel
theorem d_md_barred_142 : decode b_md_barred 142 = .ok (.iload_n 3, 1) := by decide +kernel
theorem d_md_barred_143 : decode b_md_barred 143 = .ok (.imul, 1) := by decide +kernel
theorem d_md_barred_144 : decode b_md_barred 144 = .ok (.iconst 2, 1) := by decide +kernel
theorem d_md_barred_145 : decode b_md_barred 145 = .ok (.iadd, 1) := by decide +kernel
theorem d_md_barred_146 : decode b_md_barred 146 = .ok (.iaload, 1) := by decide +kernel
theorem d_md_barred_147 : decode b_md_barred 147 = .ok (.if_icmp .le 5, 3) := by decide +kernel
theorem d_md_barred_150 : decode b_md_barred 150 = .ok (.iconst 3, 1) := by decide +kernel
theorem d_md_barred_151 : decode b_md_barred 151 = .ok (.ireturn, 1) := by decide +kernel
theorem d_md_barred_152 : decode b_md_barred 152 = .ok (.iconst 4, 1) := by decide +kernel
theorem d_md_barred_153 : decode b_md_barred 153 = .ok (.iload_n 3, 1) := by decide +kernel
theorem d_md_barred_154 : decode b_md_barred 154 = .ok (.imul, 1) := by decide +kernel
theorem d_md_barred_155 : decode b_md_barred 155 = .ok (.istore 8, 2) := by decide +kernel
theorem d_md_barred_157 : decode b_md_barred 157 = .ok (.iload 8, 2) := by decide +kernel
theorem d_md_barred_159 : decode b_md_barred 159 = .ok (.iconst 4, 1) := by decide +kernel
theorem d_md_barred_160 : decode b_md_barred 160 = .ok (.iload_n 3, 1) := by decide +kernel
theorem d_md_barred_161 : decode b_md_barred 161 = .ok (.imul, 1) := by decide +kernel
theorem d_md_barred_162 : decode b_md_barred 162 = .ok (.aload_n 0, 1) := by decide +kernel
theorem d_md_barred_163 : decode b_md_barred 163 = .ok (.getfield 25, 3) := by decide +kernel
theorem d_md_barred_166 : decode b_md_barred 166 = .ok (.iload_n 3, 1) := by decide +kernel
theorem d_md_barred_167 : decode b_md_barred 167 = .ok (.iaload, 1) := by decide +kernel
theorem d_md_barred_168 : decode b_md_barred 168 = .ok (.iadd, 1) := by decide +kernel
theorem d_md_barred_169 : decode b_md_barred 169 = .ok (.if_icmp .ge 35, 3) := by decide +kernel
theorem d_md_barred_172 : decode b_md_barred 172 = .ok (.aload_n 0, 1) := by decide +kernel
theorem d_md_barred_173 : decode b_md_barred 173 = .ok (.getfield 28, 3) := by decide +kernel
theorem d_md_barred_176 : decode b_md_barred 176 = .ok (.iload 8, 2) := by decide +kernel
theorem d_md_barred_178 : decode b_md_barred 178 = .ok (.iaload, 1) := by decide +kernel
theorem d_md_barred_179 : decode b_md_barred 179 = .ok (.iload 6, 2) := by decide +kernel
theorem d_md_barred_181 : decode b_md_barred 181 = .ok (.if_icmp .ge 17, 3) := by decide +kernel
theorem d_md_barred_184 : decode b_md_barred 184 = .ok (.iload 5, 2) := by decide +kernel
theorem d_md_barred_186 : decode b_md_barred 186 = .ok (.aload_n 0, 1) := by decide +kernel
theorem d_md_barred_187 : decode b_md_barred 187 = .ok (.getfield 31, 3) := by decide +kernel
theorem d_md_barred_190 : decode b_md_barred 190 = .ok (.iload 8, 2) := by decide +kernel
theorem d_md_barred_192 : decode b_md_barred 192 = .ok (.iaload, 1) := by decide +kernel
theorem d_md_barred_193 : decode b_md_barred 193 = .ok (.if_icmp .ge 5, 3) := by decide +kernel
theorem d_md_barred_196 : decode b_md_barred 196 = .ok (.iconst 4, 1) := by decide +kernel
theorem d_md_barred_197 : decode b_md_barred 197 = .ok (.ireturn, 1) := by decide +kernel
theorem d_md_barred_198 : decode b_md_barred 198 = .ok (.iinc 8 1, 3) := by decide +kernel
theorem d_md_barred_201 : decode b_md_barred 201 = .ok (.goto (-44), 3) := by decide +kernel
theorem d_md_barred_204 : decode b_md_barred 204 = .ok (.iconst 0, 1) := by decide +kernel
theorem d_md_barred_205 : decode b_md_barred 205 = .ok (.ireturn, 1) := by decide +kernel
theorem d_md_enters_0 : decode b_md_enters 0 = .ok (.aload_n 0, 1) := by decide +kernel
theorem d_md_enters_1 : decode b_md_enters 1 = .ok (.getfield 46, 3) := by decide +kernel
theorem d_md_enters_4 : decode b_md_enters 4 = .ok (.iload_n 1, 1) := by decide +kernel
theorem d_md_enters_5 : decode b_md_enters 5 = .ok (.iaload, 1) := by decide +kernel
theorem d_md_enters_6 : decode b_md_enters 6 = .ok (.istore_n 3, 1) := by decide +kernel
theorem d_md_enters_7 : decode b_md_enters 7 = .ok (.iconst 0, 1) := by decide +kernel
theorem d_md_enters_8 : decode b_md_enters 8 = .ok (.istore 4, 2) := by decide +kernel
theorem d_md_enters_10 : decode b_md_enters 10 = .ok (.iload 4, 2) := by decide +kernel
theorem d_md_enters_12 : decode b_md_enters 12 = .ok (.iload_n 2, 1) := by decide +kernel
theorem d_md_enters_13 : decode b_md_enters 13 = .ok (.if_icmp .ge 34, 3) := by decide +kernel
theorem d_md_enters_16 : decode b_md_enters 16 = .ok (.iload_n 3, 1) := by decide +kernel
theorem d_md_enters_17 : decode b_md_enters 17 = .ok (.aload_n 0, 1) := by decide +kernel
theorem d_md_enters_18 : decode b_md_enters 18 = .ok (.aload_n 0, 1) := by decide +kernel
theorem d_md_enters_19 : decode b_md_enters 19 = .ok (.getfield 43, 3) := by decide +kernel
theorem d_md_enters_22 : decode b_md_enters 22 = .ok (.iload_n 1, 1) := by decide +kernel
theorem d_md_enters_23 : decode b_md_enters 23 = .ok (.iaload, 1) := by decide +kernel
theorem d_md_enters_24 : decode b_md_enters 24 = .ok (.aload_n 0, 1) := by decide +kernel
theorem d_md_enters_25 : decode b_md_enters 25 = .ok (.getfield 56, 3) := by decide +kernel
theorem d_md_enters_28 : decode b_md_enters 28 = .ok (.bipush 8, 2) := by decide +kernel
theorem d_md_enters_30 : decode b_md_enters 30 = .ok (.iload_n 1, 1) := by decide +kernel
theorem d_md_enters_31 : decode b_md_enters 31 = .ok (.imul, 1) := by decide +kernel
theorem d_md_enters_32 : decode b_md_enters 32 = .ok (.iload 4, 2) := by decide +kernel
theorem d_md_enters_34 : decode b_md_enters 34 = .ok (.iadd, 1) := by decide +kernel
theorem d_md_enters_35 : decode b_md_enters 35 = .ok (.iaload, 1) := by decide +kernel
theorem d_md_enters_36 : decode b_md_enters 36 = .ok (.invokevirtual 102, 3) := by decide +kernel
theorem d_md_enters_39 : decode b_md_enters 39 = .ok (.iadd, 1) := by decide +kernel
theorem d_md_enters_40 : decode b_md_enters 40 = .ok (.istore_n 3, 1) := by decide +kernel
theorem d_md_enters_41 : decode b_md_enters 41 = .ok (.iinc 4 1, 3) := by decide +kernel
theorem d_md_enters_44 : decode b_md_enters 44 = .ok (.goto (-34), 3) := by decide +kernel
theorem d_md_enters_47 : decode b_md_enters 47 = .ok (.iload_n 3, 1) := by decide +kernel
theorem d_md_enters_48 : decode b_md_enters 48 = .ok (.ireturn, 1) := by decide +kernel
theorem d_md_leaves_0 : decode b_md_leaves 0 = .ok (.aload_n 0, 1) := by decide +kernel
theorem d_md_leaves_1 : decode b_md_leaves 1 = .ok (.iload_n 1, 1) := by decide +kernel
theorem d_md_leaves_2 : decode b_md_leaves 2 = .ok (.iload_n 2, 1) := by decide +kernel
theorem d_md_leaves_3 : decode b_md_leaves 3 = .ok (.invokevirtual 119, 3) := by decide +kernel
theorem d_md_leaves_6 : decode b_md_leaves 6 = .ok (.aload_n 0, 1) := by decide +kernel
theorem d_md_leaves_7 : decode b_md_leaves 7 = .ok (.aload_n 0, 1) := by decide +kernel
theorem d_md_leaves_8 : decode b_md_leaves 8 = .ok (.getfield 43, 3) := by decide +kernel
theorem d_md_leaves_11 : decode b_md_leaves 11 = .ok (.iload_n 1, 1) := by decide +kernel
theorem d_md_leaves_12 : decode b_md_leaves 12 = .ok (.iaload, 1) := by decide +kernel
theorem d_md_leaves_13 : decode b_md_leaves 13 = .ok (.aload_n 0, 1) := by decide +kernel
theorem d_md_leaves_14 : decode b_md_leaves 14 = .ok (.getfield 56, 3) := by decide +kernel
theorem d_md_leaves_17 : decode b_md_leaves 17 = .ok (.bipush 8, 2) := by decide +kernel
theorem d_md_leaves_19 : decode b_md_leaves 19 = .ok (.iload_n 1, 1) := by decide +kernel
theorem d_md_leaves_20 : decode b_md_leaves 20 = .ok (.imul, 1) := by decide +kernel
theorem d_md_leaves_21 : decode b_md_leaves 21 = .ok (.iload_n 2, 1) := by decide +kernel
theorem d_md_leaves_22 : decode b_md_leaves 22 = .ok (.iadd, 1) := by decide +kernel
theorem d_md_leaves_23 : decode b_md_leaves 23 = .ok (.iaload, 1) := by decide +kernel
theorem d_md_leaves_24 : decode b_md_leaves 24 = .ok (.invokevirtual 102, 3) := by decide +kernel
theorem d_md_leaves_27 : decode b_md_leaves 27 = .ok (.iadd, 1) := by decide +kernel
theorem d_md_leaves_28 : decode b_md_leaves 28 = .ok (.ireturn, 1) := by decide +kernel
theorem d_md_isNight_0 : decode b_md_isNight 0 = .ok (.iconst 0, 1) := by decide +kernel
theorem d_md_isNight_1 : decode b_md_isNight 1 = .ok (.istore_n 2, 1) := by decide +kernel
theorem d_md_isNight_2 : decode b_md_isNight 2 = .ok (.iload_n 0, 1) := by decide +kernel
theorem d_md_isNight_3 : decode b_md_isNight 3 = .ok (.istore_n 3, 1) := by decide +kernel
theorem d_md_isNight_4 : decode b_md_isNight 4 = .ok (.iload_n 3, 1) := by decide +kernel
theorem d_md_isNight_5 : decode b_md_isNight 5 = .ok (.iload_n 1, 1) := by decide +kernel
theorem d_md_isNight_6 : decode b_md_isNight 6 = .ok (.if_icmp .ge 41, 3) := by decide +kernel
theorem d_md_isNight_9 : decode b_md_isNight 9 = .ok (.iload_n 2, 1) := by decide +kernel
theorem d_md_isNight_10 : decode b_md_isNight 10 = .ok (.ifCond .ne 25, 3) := by decide +kernel
theorem d_md_isNight_13 : decode b_md_isNight 13 = .ok (.iload_n 3, 1) := by decide +kernel
theorem d_md_isNight_14 : decode b_md_isNight 14 = .ok (.sipush 1440, 3) := by decide +kernel
theorem d_md_isNight_17 : decode b_md_isNight 17 = .ok (.irem, 1) := by decide +kernel
theorem d_md_isNight_18 : decode b_md_isNight 18 = .ok (.sipush 300, 3) := by decide +kernel
theorem d_md_isNight_21 : decode b_md_isNight 21 = .ok (.if_icmp .lt 14, 3) := by decide +kernel
theorem d_md_isNight_24 : decode b_md_isNight 24 = .ok (.iload_n 3, 1) := by decide +kernel
theorem d_md_isNight_25 : decode b_md_isNight 25 = .ok (.sipush 1440, 3) := by decide +kernel
theorem d_md_isNight_28 : decode b_md_isNight 28 = .ok (.irem, 1) := by decide +kernel
theorem d_md_isNight_29 : decode b_md_isNight 29 = .ok (.sipush 1200, 3) := by decide +kernel
theorem d_md_isNight_32 : decode b_md_isNight 32 = .ok (.if_icmp .lt 7, 3) := by decide +kernel
theorem d_md_isNight_35 : decode b_md_isNight 35 = .ok (.iconst 1, 1) := by decide +kernel
theorem d_md_isNight_36 : decode b_md_isNight 36 = .ok (.goto 4, 3) := by decide +kernel
theorem d_md_isNight_39 : decode b_md_isNight 39 = .ok (.iconst 0, 1) := by decide +kernel
theorem d_md_isNight_40 : decode b_md_isNight 40 = .ok (.istore_n 2, 1) := by decide +kernel
theorem d_md_isNight_41 : decode b_md_isNight 41 = .ok (.iinc 3 1, 3) := by decide +kernel
theorem d_md_isNight_44 : decode b_md_isNight 44 = .ok (.goto (-40), 3) := by decide +kernel
theorem d_md_isNight_47 : decode b_md_isNight 47 = .ok (.iload_n 2, 1) := by decide +kernel
theorem d_md_isNight_48 : decode b_md_isNight 48 = .ok (.ireturn, 1) := by decide +kernel
theorem d_md_with_0 : decode b_md_with 0 = .ok (.iconst 0, 1) := by decide +kernel
theorem d_md_with_1 : decode b_md_with 1 = .ok (.istore 4, 2) := by decide +kernel
theorem d_md_with_3 : decode b_md_with 3 = .ok (.iconst 0, 1) := by decide +kernel
theorem d_md_with_4 : decode b_md_with 4 = .ok (.istore 5, 2) := by decide +kernel
theorem d_md_with_6 : decode b_md_with 6 = .ok (.iload 5, 2) := by decide +kernel
theorem d_md_with_8 : decode b_md_with 8 = .ok (.aload_n 0, 1) := by decide +kernel
theorem d_md_with_9 : decode b_md_with 9 = .ok (.getfield 53, 3) := by decide +kernel
theorem d_md_with_12 : decode b_md_with 12 = .ok (.iload_n 3, 1) := by decide +kernel
theorem d_md_with_13 : decode b_md_with 13 = .ok (.iaload, 1) := by decide +kernel
theorem d_md_with_14 : decode b_md_with 14 = .ok (.if_icmp .ge 30, 3) := by decide +kernel
theorem d_md_with_17 : decode b_md_with 17 = .ok (.iload 4, 2) := by decide +kernel
theorem d_md_with_19 : decode b_md_with 19 = .ok (.ifCond .le 8, 3) := by decide +kernel
theorem d_md_with_22 : decode b_md_with 22 = .ok (.iload 4, 2) := by decide +kernel
theorem d_md_with_24 : decode b_md_with 24 = .ok (.goto 12, 3) := by decide +kernel
theorem d_md_with_27 : decode b_md_with 27 = .ok (.aload_n 0, 1) := by decide +kernel
theorem d_md_with_28 : decode b_md_with 28 = .ok (.iload_n 1, 1) := by decide +kernel
theorem d_md_with_29 : decode b_md_with 29 = .ok (.iload_n 2, 1) := by decide +kernel
theorem d_md_with_30 : decode b_md_with 30 = .ok (.iload_n 3, 1) := by decide +kernel
theorem d_md_with_31 : decode b_md_with 31 = .ok (.iload 5, 2) := by decide +kernel
theorem d_md_with_33 : decode b_md_with 33 = .ok (.invokevirtual 129, 3) := by decide +kernel
theorem d_md_with_36 : decode b_md_with 36 = .ok (.istore 4, 2) := by decide +kernel
theorem d_md_with_38 : decode b_md_with 38 = .ok (.iinc 5 1, 3) := by decide +kernel
theorem d_md_with_41 : decode b_md_with 41 = .ok (.goto (-35), 3) := by decide +kernel
theorem d_md_with_44 : decode b_md_with 44 = .ok (.iload 4, 2) := by decide +kernel
theorem d_md_with_46 : decode b_md_with 46 = .ok (.ireturn, 1) := by decide +kernel
theorem d_md_between_0 : decode b_md_between 0 = .ok (.aload_n 0, 1) := by decide +kernel
theorem d_md_between_1 : decode b_md_between 1 = .ok (.getfield 56, 3) := by decide +kernel
theorem d_md_between_4 : decode b_md_between 4 = .ok (.bipush 8, 2) := by decide +kernel
theorem d_md_between_6 : decode b_md_between 6 = .ok (.iload_n 1, 1) := by decide +kernel
theorem d_md_between_7 : decode b_md_between 7 = .ok (.imul, 1) := by decide +kernel
theorem d_md_between_8 : decode b_md_between 8 = .ok (.iload_n 2, 1) := by decide +kernel
theorem d_md_between_9 : decode b_md_between 9 = .ok (.iadd, 1) := by decide +kernel
theorem d_md_between_10 : decode b_md_between 10 = .ok (.iaload, 1) := by decide +kernel
theorem d_md_between_11 : decode b_md_between 11 = .ok (.istore 5, 2) := by decide +kernel
theorem d_md_between_13 : decode b_md_between 13 = .ok (.aload_n 0, 1) := by decide +kernel
theorem d_md_between_14 : decode b_md_between 14 = .ok (.iload_n 1, 1) := by decide +kernel
theorem d_md_between_15 : decode b_md_between 15 = .ok (.iload_n 2, 1) := by decide +kernel
theorem d_md_between_16 : decode b_md_between 16 = .ok (.invokevirtual 119, 3) := by decide +kernel
theorem d_md_between_19 : decode b_md_between 19 = .ok (.istore 6, 2) := by decide +kernel
theorem d_md_between_21 : decode b_md_between 21 = .ok (.aload_n 0, 1) := by decide +kernel
theorem d_md_between_22 : decode b_md_between 22 = .ok (.iload_n 1, 1) := by decide +kernel
theorem d_md_between_23 : decode b_md_between 23 = .ok (.iload_n 2, 1) := by decide +kernel
theorem d_md_between_24 : decode b_md_between 24 = .ok (.invokevirtual 122, 3) := by decide +kernel
theorem d_md_between_27 : decode b_md_between 27 = .ok (.istore 7, 2) := by decide +kernel
theorem d_md_between_29 : decode b_md_between 29 = .ok (.aload_n 0, 1) := by decide +kernel
theorem d_md_between_30 : decode b_md_between 30 = .ok (.iload_n 3, 1) := by decide +kernel
theorem d_md_between_31 : decode b_md_between 31 = .ok (.iload 4, 2) := by decide +kernel
theorem d_md_between_33 : decode b_md_between 33 = .ok (.invokevirtual 119, 3) := by decide +kernel
theorem d_md_between_36 : decode b_md_between 36 = .ok (.istore 8, 2) := by decide +kernel
theorem d_md_between_38 : decode b_md_between 38 = .ok (.aload_n 0, 1) := by decide +kernel
theorem d_md_between_39 : decode b_md_between 39 = .ok (.iload_n 3, 1) := by decide +kernel
theorem d_md_between_40 : decode b_md_between 40 = .ok (.iload 4, 2) := by decide +kernel
theorem d_md_between_42 : decode b_md_between 42 = .ok (.invokevirtual 122, 3) := by decide +kernel
theorem d_md_between_45 : decode b_md_between 45 = .ok (.istore 9, 2) := by decide +kernel
theorem d_md_between_47 : decode b_md_between 47 = .ok (.aload_n 0, 1) := by decide +kernel
theorem d_md_between_48 : decode b_md_between 48 = .ok (.getfield 56, 3) := by decide +kernel
theorem d_md_between_51 : decode b_md_between 51 = .ok (.bipush 8, 2) := by decide +kernel
theorem d_md_between_53 : decode b_md_between 53 = .ok (.iload_n 3, 1) := by decide +kernel
theorem d_md_between_54 : decode b_md_between 54 = .ok (.imul, 1) := by decide +kernel
theorem d_md_between_55 : decode b_md_between 55 = .ok (.iload 4, 2) := by decide +kernel
theorem d_md_between_57 : decode b_md_between 57 = .ok (.iadd, 1) := by decide +kernel
theorem d_md_between_58 : decode b_md_between 58 = .ok (.iaload, 1) := by decide +kernel
theorem d_md_between_59 : decode b_md_between 59 = .ok (.iload 5, 2) := by decide +kernel
theorem d_md_between_61 : decode b_md_between 61 = .ok (.if_icmp .ne 17, 3) := by decide +kernel
theorem d_md_between_64 : decode b_md_between 64 = .ok (.iload 6, 2) := by decide +kernel
theorem d_md_between_66 : decode b_md_between 66 = .ok (.iload 9, 2) := by decide +kernel
theorem d_md_between_68 : decode b_md_between 68 = .ok (.if_icmp .ge 10, 3) := by decide +kernel
theorem d_md_between_71 : decode b_md_between 71 = .ok (.iload 8, 2) := by decide +kernel
theorem d_md_between_73 : decode b_md_between 73 = .ok (.iload 7, 2) := by decide +kernel
theorem d_md_between_75 : decode b_md_between 75 = .ok (.if_icmp .lt 5, 3) := by decide +kernel
theorem d_md_between_78 : decode b_md_between 78 = .ok (.iconst 0, 1) := by decide +kernel
theorem d_md_between_79 : decode b_md_between 79 = .ok (.ireturn, 1) := by decide +kernel
theorem d_md_between_80 : decode b_md_between 80 = .ok (.aload_n 0, 1) := by decide +kernel
theorem d_md_between_81 : decode b_md_between 81 = .ok (.getfield 40, 3) := by decide +kernel
theorem d_md_between_84 : decode b_md_between 84 = .ok (.aload_n 0, 1) := by decide +kernel
theorem d_md_between_85 : decode b_md_between 85 = .ok (.getfield 43, 3) := by decide +kernel
theorem d_md_between_88 : decode b_md_between 88 = .ok (.iload_n 1, 1) := by decide +kernel
theorem d_md_between_89 : decode b_md_between 89 = .ok (.iaload, 1) := by decide +kernel
theorem d_md_between_90 : decode b_md_between 90 = .ok (.iaload, 1) := by decide +kernel
theorem d_md_between_91 : decode b_md_between 91 = .ok (.iconst 2, 1) := by decide +kernel
theorem d_md_between_92 : decode b_md_between 92 = .ok (.if_icmp .eq 18, 3) := by decide +kernel
theorem d_md_between_95 : decode b_md_between 95 = .ok (.aload_n 0, 1) := by decide +kernel
theorem d_md_between_96 : decode b_md_between 96 = .ok (.getfield 40, 3) := by decide +kernel
theorem d_md_between_99 : decode b_md_between 99 = .ok (.aload_n 0, 1) := by decide +kernel
theorem d_md_between_100 : decode b_md_between 100 = .ok (.getfield 43, 3) := by decide +kernel
theorem d_md_between_103 : decode b_md_between 103 = .ok (.iload_n 3, 1) := by decide +kernel
theorem d_md_between_104 : decode b_md_between 104 = .ok (.iaload, 1) := by decide +kernel
theorem d_md_between_105 : decode b_md_between 105 = .ok (.iaload, 1) := by decide +kernel
theorem d_md_between_106 : decode b_md_between 106 = .ok (.iconst 2, 1) := by decide +kernel
theorem d_md_between_107 : decode b_md_between 107 = .ok (.if_icmp .ne 5, 3) := by decide +kernel
theorem d_md_between_110 : decode b_md_between 110 = .ok (.iconst 5, 1) := by decide +kernel
theorem d_md_between_111 : decode b_md_between 111 = .ok (.ireturn, 1) := by decide +kernel
theorem d_md_between_112 : decode b_md_between 112 = .ok (.aload_n 0, 1) := by decide +kernel
theorem d_md_between_113 : decode b_md_between 113 = .ok (.getfield 34, 3) := by decide +kernel
theorem d_md_between_116 : decode b_md_between 116 = .ok (.aload_n 0, 1) := by decide +kernel
theorem d_md_between_117 : decode b_md_between 117 = .ok (.getfield 43, 3) := by decide +kernel
theorem d_md_between_120 : decode b_md_between 120 = .ok (.iload_n 1, 1) := by decide +kernel
theorem d_md_between_121 : decode b_md_between 121 = .ok (.iaload, 1) := by decide +kernel
theorem d_md_between_122 : decode b_md_between 122 = .ok (.iaload, 1) := by decide +kernel
theorem d_md_between_123 : decode b_md_between 123 = .ok (.aload_n 0, 1) := by decide +kernel
theorem d_md_between_124 : decode b_md_between 124 = .ok (.getfield 34, 3) := by decide +kernel
theorem d_md_between_127 : decode b_md_between 127 = .ok (.aload_n 0, 1) := by decide +kernel
theorem d_md_between_128 : decode b_md_between 128 = .ok (.getfield 43, 3) := by decide +kernel
theorem d_md_between_131 : decode b_md_between 131 = .ok (.iload_n 3, 1) := by decide +kernel
theorem d_md_between_132 : decode b_md_between 132 = .ok (.iaload, 1) := by decide +kernel
theorem d_md_between_133 : decode b_md_between 133 = .ok (.iaload, 1) := by decide +kernel
theorem d_md_between_134 : decode b_md_between 134 = .ok (.iadd, 1) := by decide +kernel
theorem d_md_between_135 : decode b_md_between 135 = .ok (.aload_n 0, 1) := by decide +kernel
theorem d_md_between_136 : decode b_md_between 136 = .ok (.getfield 19, 3) := by decide +kernel
theorem d_md_between_139 : decode b_md_between 139 = .ok (.iload 5, 2) := by decide +kernel
theorem d_md_between_141 : decode b_md_between 141 = .ok (.iaload, 1) := by decide +kernel
theorem d_md_between_142 : decode b_md_between 142 = .ok (.if_icmp .le 7, 3) := by decide +kernel
theorem d_md_between_145 : decode b_md_between 145 = .ok (.iconst 1, 1) := by decide +kernel
theorem d_md_between_146 : decode b_md_between 146 = .ok (.goto 4, 3) := by decide +kernel
theorem d_md_between_149 : decode b_md_between 149 = .ok (.iconst 0, 1) := by decide +kernel
theorem d_md_between_150 : decode b_md_between 150 = .ok (.istore 10, 2) := by decide +kernel
theorem d_md_between_152 : decode b_md_between 152 = .ok (.aload_n 0, 1) := by decide +kernel
theorem d_md_between_153 : decode b_md_between 153 = .ok (.getfield 59, 3) := by decide +kernel
theorem d_md_between_156 : decode b_md_between 156 = .ok (.bipush 8, 2) := by decide +kernel
theorem d_md_between_158 : decode b_md_between 158 = .ok (.iload_n 1, 1) := by decide +kernel
theorem d_md_between_159 : decode b_md_between 159 = .ok (.imul, 1) := by decide +kernel
theorem d_md_between_160 : decode b_md_between 160 = .ok (.iload_n 2, 1) := by decide +kernel
theorem d_md_between_161 : decode b_md_between 161 = .ok (.iadd, 1) := by decide +kernel
theorem d_md_between_162 : decode b_md_between 162 = .ok (.iaload, 1) := by decide +kernel
theorem d_md_between_163 : decode b_md_between 163 = .ok (.aload_n 0, 1) := by decide +kernel
theorem d_md_between_164 : decode b_md_between 164 = .ok (.getfield 59, 3) := by decide +kernel
theorem d_md_between_167 : decode b_md_between 167 = .ok (.bipush 8, 2) := by decide +kernel
theorem d_md_between_169 : decode b_md_between 169 = .ok (.iload_n 3, 1) := by decide +kernel
theorem d_md_between_170 : decode b_md_between 170 = .ok (.imul, 1) := by decide +kernel
theorem d_md_between_171 : decode b_md_between 171 = .ok (.iload 4, 2) := by decide +kernel
theorem d_md_between_173 : decode b_md_between 173 = .ok (.iadd, 1) := by decide +kernel
theorem d_md_between_174 : decode b_md_between 174 = .ok (.iaload, 1) := by decide +kernel
theorem d_md_between_175 : decode b_md_between 175 = .ok (.if_icmp .eq 30, 3) := by decide +kernel
theorem d_md_between_178 : decode b_md_between 178 = .ok (.aload_n 0, 1) := by decide +kernel
theorem d_md_between_179 : decode b_md_between 179 = .ok (.getfield 22, 3) := by decide +kernel
theorem d_md_between_182 : decode b_md_between 182 = .ok (.iconst 5, 1) := by decide +kernel
theorem d_md_between_183 : decode b_md_between 183 = .ok (.iload 5, 2) := by decide +kernel
theorem d_md_between_185 : decode b_md_between 185 = .ok (.imul, 1) := by decide +kernel
theorem d_md_between_186 : decode b_md_between 186 = .ok (.iconst 3, 1) := by decide +kernel
theorem d_md_between_187 : decode b_md_between 187 = .ok (.iadd, 1) := by decide +kernel
theorem d_md_between_188 : decode b_md_between 188 = .ok (.iaload, 1) := by decide +kernel
theorem d_md_between_189 : decode b_md_between 189 = .ok (.iconst 1, 1) := by decide +kernel
theorem d_md_between_190 : decode b_md_between 190 = .ok (.if_icmp .eq 8, 3) := by decide +kernel
theorem d_md_between_193 : decode b_md_between 193 = .ok (.iload 10, 2) := by decide +kernel
theorem d_md_between_195 : decode b_md_between 195 = .ok (.ifCond .eq 8, 3) := by decide +kernel
theorem d_md_between_198 : decode b_md_between 198 = .ok (.bipush 6, 2) := by decide +kernel
theorem d_md_between_200 : decode b_md_between 200 = .ok (.goto 4, 3) := by decide +kernel
theorem d_md_between_203 : decode b_md_between 203 = .ok (.iconst 0, 1) := by decide +kernel
theorem d_md_between_204 : decode b_md_between 204 = .ok (.ireturn, 1) := by decide +kernel
theorem d_md_between_205 : decode b_md_between 205 = .ok (.iload 6, 2) := by decide +kernel
theorem d_md_between_207 : decode b_md_between 207 = .ok (.iload 8, 2) := by decide +kernel
theorem d_md_between_209 : decode b_md_between 209 = .ok (.if_icmp .ge 10, 3) := by decide +kernel
theorem d_md_between_212 : decode b_md_between 212 = .ok (.iload 7, 2) := by decide +kernel
theorem d_md_between_214 : decode b_md_between 214 = .ok (.iload 9, 2) := by decide +kernel
theorem d_md_between_216 : decode b_md_between 216 = .ok (.if_icmp .lt 17, 3) := by decide +kernel
theorem d_md_between_219 : decode b_md_between 219 = .ok (.iload 8, 2) := by decide +kernel
theorem d_md_between_221 : decode b_md_between 221 = .ok (.iload 6, 2) := by decide +kernel
theorem d_md_between_223 : decode b_md_between 223 = .ok (.if_icmp .ge 14, 3) := by decide +kernel
theorem d_md_between_226 : decode b_md_between 226 = .ok (.iload 9, 2) := by decide +kernel
theorem d_md_between_228 : decode b_md_between 228 = .ok (.iload 7, 2) := by decide +kernel
theorem d_md_between_230 : decode b_md_between 230 = .ok (.if_icmp .ge 7, 3) := by decide +kernel
theorem d_md_between_233 : decode b_md_between 233 = .ok (.iconst 1, 1) := by decide +kernel
theorem d_md_between_234 : decode b_md_between 234 = .ok (.goto 4, 3) := by decide +kernel
theorem d_md_between_237 : decode b_md_between 237 = .ok (.iconst 0, 1) := by decide +kernel
theorem d_md_between_238 : decode b_md_between 238 = .ok (.istore 11, 2) := by decide +kernel
theorem d_md_between_240 : decode b_md_between 240 = .ok (.iload 11, 2) := by decide +kernel
theorem d_md_between_242 : decode b_md_between 242 = .ok (.ifCond .ne 27, 3) := by decide +kernel
theorem d_md_between_245 : decode b_md_between 245 = .ok (.aload_n 0, 1) := by decide +kernel
theorem d_md_between_246 : decode b_md_between 246 = .ok (.getfield 22, 3) := by decide +kernel
theorem d_md_between_249 : decode b_md_between 249 = .ok (.iconst 5, 1) := by decide +kernel
theorem d_md_between_250 : decode b_md_between 250 = .ok (.iload 5, 2) := by decide +kernel
theorem d_md_between_252 : decode b_md_between 252 = .ok (.imul, 1) := by decide +kernel
theorem d_md_between_253 : decode b_md_between 253 = .ok (.iconst 4, 1) := by decide +kernel
theorem d_md_between_254 : decode b_md_between 254 = .ok (.iadd, 1) := by decide +kernel
theorem d_md_between_255 : decode b_md_between 255 = .ok (.iaload, 1) := by decide +kernel
theorem d_md_between_256 : decode b_md_between 256 = .ok (.ifCond .eq 8, 3) := by decide +kernel
theorem d_md_between_259 : decode b_md_between 259 = .ok (.iload 10, 2) := by decide +kernel
theorem d_md_between_261 : decode b_md_between 261 = .ok (.ifCond .eq 8, 3) := by decide +kernel
theorem d_md_between_264 : decode b_md_between 264 = .ok (.bipush 7, 2) := by decide +kernel
theorem d_md_between_266 : decode b_md_between 266 = .ok (.goto 4, 3) := by decide +kernel
theorem d_md_between_269 : decode b_md_between 269 = .ok (.iconst 0, 1) := by decide +kernel
theorem d_md_between_270 : decode b_md_between 270 = .ok (.ireturn, 1) := by decide +kernel
theorem d_md_earliest_0 : decode b_md_earliest 0 = .ok (.aload_n 0, 1) := by decide +kernel
theorem d_md_earliest_1 : decode b_md_earliest 1 = .ok (.iload_n 1, 1) := by decide +kernel
theorem d_md_earliest_2 : decode b_md_earliest 2 = .ok (.iload_n 2, 1) := by decide +kernel
theorem d_md_earliest_3 : decode b_md_earliest 3 = .ok (.iload_n 3, 1) := by decide +kernel
theorem d_md_earliest_4 : decode b_md_earliest 4 = .ok (.iload 4, 2) := by decide +kernel
theorem d_md_earliest_6 : decode b_md_earliest 6 = .ok (.invokevirtual 143, 3) := by decide +kernel
theorem d_md_earliest_9 : decode b_md_earliest 9 = .ok (.ifCond .ne 9, 3) := by decide +kernel
theorem d_md_earliest_12 : decode b_md_earliest 12 = .ok (.aload_n 0, 1) := by decide +kernel
theorem d_md_earliest_13 : decode b_md_earliest 13 = .ok (.iconst 1, 1) := by decide +kernel
theorem d_md_earliest_14 : decode b_md_earliest 14 = .ok (.invokevirtual 90, 3) := by decide +kernel
theorem d_md_earliest_17 : decode b_md_earliest 17 = .ok (.ireturn, 1) := by decide +kernel
theorem d_md_earliest_18 : decode b_md_earliest 18 = .ok (.aload_n 0, 1) := by decide +kernel
theorem d_md_earliest_19 : decode b_md_earliest 19 = .ok (.iconst 0, 1) := by decide +kernel
theorem d_md_earliest_20 : decode b_md_earliest 20 = .ok (.putfield 65, 3) := by decide +kernel
theorem d_md_earliest_23 : decode b_md_earliest 23 = .ok (.aload_n 0, 1) := by decide +kernel
theorem d_md_earliest_24 : decode b_md_earliest 24 = .ok (.iload_n 1, 1) := by decide +kernel
theorem d_md_earliest_25 : decode b_md_earliest 25 = .ok (.iload_n 2, 1) := by decide +kernel
theorem d_md_earliest_26 : decode b_md_earliest 26 = .ok (.iload_n 3, 1) := by decide +kernel
theorem d_md_earliest_27 : decode b_md_earliest 27 = .ok (.invokevirtual 116, 3) := by decide +kernel
theorem d_md_earliest_30 : decode b_md_earliest 30 = .ok (.ifCond .ne 5, 3) := by decide +kernel
theorem d_md_earliest_33 : decode b_md_earliest 33 = .ok (.iconst (-1), 1) := by decide +kernel
theorem d_md_earliest_34 : decode b_md_earliest 34 = .ok (.ireturn, 1) := by decide +kernel
theorem d_md_earliest_35 : decode b_md_earliest 35 = .ok (.iload 4, 2) := by decide +kernel
theorem d_md_earliest_37 : decode b_md_earliest 37 = .ok (.istore 5, 2) := by decide +kernel
theorem d_md_earliest_39 : decode b_md_earliest 39 = .ok (.iload 5, 2) := by decide +kernel
theorem d_md_earliest_41 : decode b_md_earliest 41 = .ok (.iload 4, 2) := by decide +kernel
theorem d_md_earliest_43 : decode b_md_earliest 43 = .ok (.sipush 2880, 3) := by decide +kernel
theorem d_md_earliest_46 : decode b_md_earliest 46 = .ok (.iadd, 1) := by decide +kernel
theorem d_md_earliest_47 : decode b_md_earliest 47 = .ok (.if_icmp .gt 36, 3) := by decide +kernel
theorem d_md_earliest_50 : decode b_md_earliest 50 = .ok (.iload 5, 2) := by decide +kernel
theorem d_md_earliest_52 : decode b_md_earliest 52 = .ok (.ldc 81, 2) := by decide +kernel
theorem d_md_earliest_54 : decode b_md_earliest 54 = .ok (.if_icmp .gt 29, 3) := by decide +kernel
theorem d_md_earliest_57 : decode b_md_earliest 57 = .ok (.aload_n 0, 1) := by decide +kernel
theorem d_md_earliest_58 : decode b_md_earliest 58 = .ok (.getfield 46, 3) := by decide +kernel
theorem d_md_earliest_61 : decode b_md_earliest 61 = .ok (.iconst 0, 1) := by decide +kernel
theorem d_md_earliest_62 : decode b_md_earliest 62 = .ok (.iload 5, 2) := by decide +kernel
theorem d_md_earliest_64 : decode b_md_earliest 64 = .ok (.iastore, 1) := by decide +kernel
theorem d_md_earliest_65 : decode b_md_earliest 65 = .ok (.aload_n 0, 1) := by decide +kernel
theorem d_md_earliest_66 : decode b_md_earliest 66 = .ok (.iconst 0, 1) := by decide +kernel
theorem d_md_earliest_67 : decode b_md_earliest 67 = .ok (.iconst 0, 1) := by decide +kernel
theorem d_md_earliest_68 : decode b_md_earliest 68 = .ok (.invokevirtual 147, 3) := by decide +kernel
theorem d_md_earliest_71 : decode b_md_earliest 71 = .ok (.ifCond .ne 6, 3) := by decide +kernel
theorem d_md_earliest_74 : decode b_md_earliest 74 = .ok (.iload 5, 2) := by decide +kernel
theorem d_md_earliest_76 : decode b_md_earliest 76 = .ok (.ireturn, 1) := by decide +kernel
theorem d_md_earliest_77 : decode b_md_earliest 77 = .ok (.iinc 5 1, 3) := by decide +kernel
theorem d_md_earliest_80 : decode b_md_earliest 80 = .ok (.goto (-41), 3) := by decide +kernel
theorem d_md_earliest_83 : decode b_md_earliest 83 = .ok (.iconst (-1), 1) := by decide +kernel
theorem d_md_earliest_84 : decode b_md_earliest 84 = .ok (.ireturn, 1) := by decide +kernel
theorem d_md_change_0 : decode b_md_change 0 = .ok (.aload_n 0, 1) := by decide +kernel
theorem d_md_change_1 : decode b_md_change 1 = .ok (.iload_n 1, 1) := by decide +kernel
theorem d_md_change_2 : decode b_md_change 2 = .ok (.invokevirtual 150, 3) := by decide +kernel
theorem d_md_change_5 : decode b_md_change 5 = .ok (.ifCond .eq 11, 3) := by decide +kernel
theorem d_md_change_8 : decode b_md_change 8 = .ok (.aload_n 0, 1) := by decide +kernel
theorem d_md_change_9 : decode b_md_change 9 = .ok (.iload_n 2, 1) := by decide +kernel
theorem d_md_change_10 : decode b_md_change 10 = .ok (.invokevirtual 140, 3) := by decide +kernel
theorem d_md_change_13 : decode b_md_change 13 = .ok (.ifCond .ne 9, 3) := by decide +kernel
theorem d_md_change_16 : decode b_md_change 16 = .ok (.aload_n 0, 1) := by decide +kernel
theorem d_md_change_17 : decode b_md_change 17 = .ok (.iconst 1, 1) := by decide +kernel
theorem d_md_change_18 : decode b_md_change 18 = .ok (.invokevirtual 90, 3) := by decide +kernel
theorem d_md_change_21 : decode b_md_change 21 = .ok (.ireturn, 1) := by decide +kernel
theorem d_md_change_22 : decode b_md_change 22 = .ok (.aload_n 0, 1) := by decide +kernel
theorem d_md_change_23 : decode b_md_change 23 = .ok (.iconst 0, 1) := by decide +kernel
theorem d_md_change_24 : decode b_md_change 24 = .ok (.putfield 65, 3) := by decide +kernel
theorem d_md_change_27 : decode b_md_change 27 = .ok (.aload_n 0, 1) := by decide +kernel
theorem d_md_change_28 : decode b_md_change 28 = .ok (.getfield 49, 3) := by decide +kernel
theorem d_md_change_31 : decode b_md_change 31 = .ok (.iload_n 1, 1) := by decide +kernel
theorem d_md_change_32 : decode b_md_change 32 = .ok (.baload, 1) := by decide +kernel
theorem d_md_change_33 : decode b_md_change 33 = .ok (.ifCond .eq 16, 3) := by decide +kernel
theorem d_md_change_36 : decode b_md_change 36 = .ok (.aload_n 0, 1) := by decide +kernel
theorem d_md_change_37 : decode b_md_change 37 = .ok (.getfield 46, 3) := by decide +kernel
theorem d_md_change_40 : decode b_md_change 40 = .ok (.iload_n 1, 1) := by decide +kernel
theorem d_md_change_41 : decode b_md_change 41 = .ok (.iaload, 1) := by decide +kernel
theorem d_md_change_42 : decode b_md_change 42 = .ok (.aload_n 0, 1) := by decide +kernel
theorem d_md_change_43 : decode b_md_change 43 = .ok (.getfield 78, 3) := by decide +kernel
theorem d_md_change_46 : decode b_md_change 46 = .ok (.if_icmp .gt 5, 3) := by decide +kernel
theorem d_md_change_49 : decode b_md_change 49 = .ok (.iconst (-1), 1) := by decide +kernel
theorem d_md_change_50 : decode b_md_change 50 = .ok (.ireturn, 1) := by decide +kernel
theorem d_md_change_51 : decode b_md_change 51 = .ok (.aload_n 0, 1) := by decide +kernel
theorem d_md_change_52 : decode b_md_change 52 = .ok (.getfield 46, 3) := by decide +kernel
theorem d_md_change_55 : decode b_md_change 55 = .ok (.iload_n 1, 1) := by decide +kernel
theorem d_md_change_56 : decode b_md_change 56 = .ok (.iaload, 1) := by decide +kernel
theorem d_md_change_57 : decode b_md_change 57 = .ok (.istore_n 3, 1) := by decide +kernel
theorem d_md_change_58 : decode b_md_change 58 = .ok (.aload_n 0, 1) := by decide +kernel
theorem d_md_change_59 : decode b_md_change 59 = .ok (.getfield 46, 3) := by decide +kernel
theorem d_md_change_62 : decode b_md_change 62 = .ok (.iload_n 1, 1) := by decide +kernel
theorem d_md_change_63 : decode b_md_change 63 = .ok (.iload_n 2, 1) := by decide +kernel
theorem d_md_change_64 : decode b_md_change 64 = .ok (.iastore, 1) := by decide +kernel
theorem d_md_change_65 : decode b_md_change 65 = .ok (.aload_n 0, 1) := by decide +kernel
theorem d_md_change_66 : decode b_md_change 66 = .ok (.iload_n 1, 1) := by decide +kernel
theorem d_md_change_67 : decode b_md_change 67 = .ok (.iload_n 1, 1) := by decide +kernel
theorem d_md_change_68 : decode b_md_change 68 = .ok (.invokevirtual 147, 3) := by decide +kernel
theorem d_md_change_71 : decode b_md_change 71 = .ok (.ifCond .le 12, 3) := by decide +kernel
theorem d_md_change_74 : decode b_md_change 74 = .ok (.aload_n 0, 1) := by decide +kernel
theorem d_md_change_75 : decode b_md_change 75 = .ok (.getfield 46, 3) := by decide +kernel
theorem d_md_change_78 : decode b_md_change 78 = .ok (.iload_n 1, 1) := by decide +kernel
theorem d_md_change_79 : decode b_md_change 79 = .ok (.iload_n 3, 1) := by decide +kernel
theorem d_md_change_80 : decode b_md_change 80 = .ok (.iastore, 1) := by decide +kernel
theorem d_md_change_81 : decode b_md_change 81 = .ok (.iconst 0, 1) := by decide +kernel
theorem d_md_change_82 : decode b_md_change 82 = .ok (.ireturn, 1) := by decide +kernel
theorem d_md_change_83 : decode b_md_change 83 = .ok (.iconst 1, 1) := by decide +kernel
theorem d_md_change_84 : decode b_md_change 84 = .ok (.ireturn, 1) := by decide +kernel
theorem d_md_isSlot_0 : decode b_md_isSlot 0 = .ok (.iload_n 1, 1) := by decide +kernel
theorem d_md_isSlot_1 : decode b_md_isSlot 1 = .ok (.iconst 1, 1) := by decide +kernel
theorem d_md_isSlot_2 : decode b_md_isSlot 2 = .ok (.if_icmp .lt 15, 3) := by decide +kernel
theorem d_md_isSlot_5 : decode b_md_isSlot 5 = .ok (.iload_n 1, 1) := by decide +kernel
theorem d_md_isSlot_6 : decode b_md_isSlot 6 = .ok (.aload_n 0, 1) := by decide +kernel
theorem d_md_isSlot_7 : decode b_md_isSlot 7 = .ok (.getfield 75, 3) := by decide +kernel
theorem d_md_isSlot_10 : decode b_md_isSlot 10 = .ok (.if_icmp .gt 7, 3) := by decide +kernel
theorem d_md_isSlot_13 : decode b_md_isSlot 13 = .ok (.iconst 1, 1) := by decide +kernel
theorem d_md_isSlot_14 : decode b_md_isSlot 14 = .ok (.goto 4, 3) := by decide +kernel
theorem d_md_isSlot_17 : decode b_md_isSlot 17 = .ok (.iconst 0, 1) := by decide +kernel
theorem d_md_isSlot_18 : decode b_md_isSlot 18 = .ok (.ireturn, 1) := by decide +kernel
theorem d_md_back_0 : decode b_md_back 0 = .ok (.aload_n 0, 1) := by decide +kernel
theorem d_md_back_1 : decode b_md_back 1 = .ok (.iconst 0, 1) := by decide +kernel
theorem d_md_back_2 : decode b_md_back 2 = .ok (.putfield 65, 3) := by decide +kernel
theorem d_md_back_5 : decode b_md_back 5 = .ok (.aload_n 0, 1) := by decide +kernel
theorem d_md_back_6 : decode b_md_back 6 = .ok (.iload_n 1, 1) := by decide +kernel
theorem d_md_back_7 : decode b_md_back 7 = .ok (.invokevirtual 150, 3) := by decide +kernel
theorem d_md_back_10 : decode b_md_back 10 = .ok (.ifCond .eq 25, 3) := by decide +kernel
theorem d_md_back_13 : decode b_md_back 13 = .ok (.aload_n 0, 1) := by decide +kernel
theorem d_md_back_14 : decode b_md_back 14 = .ok (.getfield 49, 3) := by decide +kernel
theorem d_md_back_17 : decode b_md_back 17 = .ok (.iload_n 1, 1) := by decide +kernel
theorem d_md_back_18 : decode b_md_back 18 = .ok (.baload, 1) := by decide +kernel
theorem d_md_back_19 : decode b_md_back 19 = .ok (.ifCond .eq 16, 3) := by decide +kernel
theorem d_md_back_22 : decode b_md_back 22 = .ok (.aload_n 0, 1) := by decide +kernel
theorem d_md_back_23 : decode b_md_back 23 = .ok (.getfield 46, 3) := by decide +kernel
theorem d_md_back_26 : decode b_md_back 26 = .ok (.iload_n 1, 1) := by decide +kernel
theorem d_md_back_27 : decode b_md_back 27 = .ok (.iaload, 1) := by decide +kernel
theorem d_md_back_28 : decode b_md_back 28 = .ok (.aload_n 0, 1) := by decide +kernel
theorem d_md_back_29 : decode b_md_back 29 = .ok (.getfield 78, 3) := by decide +kernel
theorem d_md_back_32 : decode b_md_back 32 = .ok (.if_icmp .gt 5, 3) := by decide +kernel
theorem d_md_back_35 : decode b_md_back 35 = .ok (.iconst 0, 1) := by decide +kernel
theorem d_md_back_36 : decode b_md_back 36 = .ok (.ireturn, 1) := by decide +kernel
theorem d_md_back_37 : decode b_md_back 37 = .ok (.aload_n 0, 1) := by decide +kernel
theorem d_md_back_38 : decode b_md_back 38 = .ok (.getfield 49, 3) := by decide +kernel
theorem d_md_back_41 : decode b_md_back 41 = .ok (.iload_n 1, 1) := by decide +kernel
theorem d_md_back_42 : decode b_md_back 42 = .ok (.iconst 0, 1) := by decide +kernel
theorem d_md_back_43 : decode b_md_back 43 = .ok (.bastore, 1) := by decide +kernel
theorem d_md_back_44 : decode b_md_back 44 = .ok (.iconst 1, 1) := by decide +kernel
theorem d_md_back_45 : decode b_md_back 45 = .ok (.ireturn, 1) := by decide +kernel
theorem d_md_close_0 : decode b_md_close 0 = .ok (.aload_n 0, 1) := by decide +kernel
theorem d_md_close_1 : decode b_md_close 1 = .ok (.iload_n 1, 1) := by decide +kernel
theorem d_md_close_2 : decode b_md_close 2 = .ok (.invokevirtual 94, 3) := by decide +kernel
theorem d_md_close_5 : decode b_md_close 5 = .ok (.ifCond .eq 24, 3) := by decide +kernel
theorem d_md_close_8 : decode b_md_close 8 = .ok (.aload_n 0, 1) := by decide +kernel
theorem d_md_close_9 : decode b_md_close 9 = .ok (.iload_n 2, 1) := by decide +kernel
theorem d_md_close_10 : decode b_md_close 10 = .ok (.invokevirtual 140, 3) := by decide +kernel
theorem d_md_close_13 : decode b_md_close 13 = .ok (.ifCond .eq 16, 3) := by decide +kernel
theorem d_md_close_16 : decode b_md_close 16 = .ok (.aload_n 0, 1) := by decide +kernel
theorem d_md_close_17 : decode b_md_close 17 = .ok (.iload_n 3, 1) := by decide +kernel
theorem d_md_close_18 : decode b_md_close 18 = .ok (.invokevirtual 140, 3) := by decide +kernel
theorem d_md_close_21 : decode b_md_close 21 = .ok (.ifCond .eq 8, 3) := by decide +kernel
theorem d_md_close_24 : decode b_md_close 24 = .ok (.iload_n 2, 1) := by decide +kernel
theorem d_md_close_25 : decode b_md_close 25 = .ok (.iload_n 3, 1) := by decide +kernel
theorem d_md_close_26 : decode b_md_close 26 = .ok (.if_icmp .lt 9, 3) := by decide +kernel
theorem d_md_close_29 : decode b_md_close 29 = .ok (.aload_n 0, 1) := by decide +kernel
theorem d_md_close_30 : decode b_md_close 30 = .ok (.iconst 1, 1) := by decide +kernel
theorem d_md_close_31 : decode b_md_close 31 = .ok (.invokevirtual 90, 3) := by decide +kernel
theorem d_md_close_34 : decode b_md_close 34 = .ok (.ireturn, 1) := by decide +kernel
theorem d_md_close_35 : decode b_md_close 35 = .ok (.aload_n 0, 1) := by decide +kernel
theorem d_md_close_36 : decode b_md_close 36 = .ok (.getfield 25, 3) := by decide +kernel
theorem d_md_close_39 : decode b_md_close 39 = .ok (.iload_n 1, 1) := by decide +kernel
theorem d_md_close_40 : decode b_md_close 40 = .ok (.iaload, 1) := by decide +kernel
theorem d_md_close_41 : decode b_md_close 41 = .ok (.iconst 4, 1) := by decide +kernel
theorem d_md_close_42 : decode b_md_close 42 = .ok (.if_icmp .ne 9, 3) := by decide +kernel
theorem d_md_close_45 : decode b_md_close 45 = .ok (.aload_n 0, 1) := by decide +kernel
theorem d_md_close_46 : decode b_md_close 46 = .ok (.iconst 2, 1) := by decide +kernel
theorem d_md_close_47 : decode b_md_close 47 = .ok (.invokevirtual 90, 3) := by decide +kernel
theorem d_md_close_50 : decode b_md_close 50 = .ok (.ireturn, 1) := by decide +kernel
theorem d_md_close_51 : decode b_md_close 51 = .ok (.aload_n 0, 1) := by decide +kernel
theorem d_md_close_52 : decode b_md_close 52 = .ok (.iconst 0, 1) := by decide +kernel
theorem d_md_close_53 : decode b_md_close 53 = .ok (.putfield 65, 3) := by decide +kernel
theorem d_md_close_56 : decode b_md_close 56 = .ok (.aload_n 0, 1) := by decide +kernel
theorem d_md_close_57 : decode b_md_close 57 = .ok (.getfield 28, 3) := by decide +kernel
theorem d_md_close_60 : decode b_md_close 60 = .ok (.iconst 4, 1) := by decide +kernel
theorem d_md_close_61 : decode b_md_close 61 = .ok (.iload_n 1, 1) := by decide +kernel
theorem d_md_close_62 : decode b_md_close 62 = .ok (.imul, 1) := by decide +kernel
theorem d_md_close_63 : decode b_md_close 63 = .ok (.aload_n 0, 1) := by decide +kernel
theorem d_md_close_64 : decode b_md_close 64 = .ok (.getfield 25, 3) := by decide +kernel
theorem d_md_close_67 : decode b_md_close 67 = .ok (.iload_n 1, 1) := by decide +kernel
theorem d_md_close_68 : decode b_md_close 68 = .ok (.iaload, 1) := by decide +kernel
theorem d_md_close_69 : decode b_md_close 69 = .ok (.iadd, 1) := by decide +kernel
theorem d_md_close_70 : decode b_md_close 70 = .ok (.iload_n 2, 1) := by decide +kernel
theorem d_md_close_71 : decode b_md_close 71 = .ok (.iastore, 1) := by decide +kernel
theorem d_md_close_72 : decode b_md_close 72 = .ok (.aload_n 0, 1) := by decide +kernel
theorem d_md_close_73 : decode b_md_close 73 = .ok (.getfield 31, 3) := by decide +kernel
theorem d_md_close_76 : decode b_md_close 76 = .ok (.iconst 4, 1) := by decide +kernel
theorem d_md_close_77 : decode b_md_close 77 = .ok (.iload_n 1, 1) := by decide +kernel
theorem d_md_close_78 : decode b_md_close 78 = .ok (.imul, 1) := by decide +kernel
theorem d_md_close_79 : decode b_md_close 79 = .ok (.aload_n 0, 1) := by decide +kernel
theorem d_md_close_80 : decode b_md_close 80 = .ok (.getfield 25, 3) := by decide +kernel
theorem d_md_close_83 : decode b_md_close 83 = .ok (.iload_n 1, 1) := by decide +kernel
theorem d_md_close_84 : decode b_md_close 84 = .ok (.iaload, 1) := by decide +kernel
theorem d_md_close_85 : decode b_md_close 85 = .ok (.iadd, 1) := by decide +kernel
theorem d_md_close_86 : decode b_md_close 86 = .ok (.iload_n 3, 1) := by decide +kernel
theorem d_md_close_87 : decode b_md_close 87 = .ok (.iastore, 1) := by decide +kernel
theorem d_md_close_88 : decode b_md_close 88 = .ok (.aload_n 0, 1) := by decide +kernel
theorem d_md_close_89 : decode b_md_close 89 = .ok (.getfield 25, 3) := by decide +kernel
theorem d_md_close_92 : decode b_md_close 92 = .ok (.iload_n 1, 1) := by decide +kernel
theorem d_md_close_93 : decode b_md_close 93 = .ok (.dup2, 1) := by decide +kernel
theorem d_md_close_94 : decode b_md_close 94 = .ok (.iaload, 1) := by decide +kernel
theorem d_md_close_95 : decode b_md_close 95 = .ok (.iconst 1, 1) := by decide +kernel
theorem d_md_close_96 : decode b_md_close 96 = .ok (.iadd, 1) := by decide +kernel
theorem d_md_close_97 : decode b_md_close 97 = .ok (.iastore, 1) := by decide +kernel
theorem d_md_close_98 : decode b_md_close 98 = .ok (.iconst 0, 1) := by decide +kernel
theorem d_md_close_99 : decode b_md_close 99 = .ok (.istore 4, 2) := by decide +kernel
theorem d_md_close_101 : decode b_md_close 101 = .ok (.iconst 1, 1) := by decide +kernel
theorem d_md_close_102 : decode b_md_close 102 = .ok (.istore 5, 2) := by decide +kernel
theorem d_md_close_104 : decode b_md_close 104 = .ok (.iload 5, 2) := by decide +kernel
theorem d_md_close_106 : decode b_md_close 106 = .ok (.aload_n 0, 1) := by decide +kernel
theorem d_md_close_107 : decode b_md_close 107 = .ok (.getfield 75, 3) := by decide +kernel
theorem d_md_close_110 : decode b_md_close 110 = .ok (.if_icmp .gt 138, 3) := by decide +kernel
theorem d_md_close_113 : decode b_md_close 113 = .ok (.iconst 0, 1) := by decide +kernel
theorem d_md_close_114 : decode b_md_close 114 = .ok (.istore 6, 2) := by decide +kernel
theorem d_md_close_116 : decode b_md_close 116 = .ok (.iconst 0, 1) := by decide +kernel
theorem d_md_close_117 : decode b_md_close 117 = .ok (.istore 7, 2) := by decide +kernel
theorem d_md_close_119 : decode b_md_close 119 = .ok (.iload 7, 2) := by decide +kernel
theorem d_md_close_121 : decode b_md_close 121 = .ok (.aload_n 0, 1) := by decide +kernel
theorem d_md_close_122 : decode b_md_close 122 = .ok (.getfield 53, 3) := by decide +kernel
theorem d_md_close_125 : decode b_md_close 125 = .ok (.iload 5, 2) := by decide +kernel
theorem d_md_close_127 : decode b_md_close 127 = .ok (.iaload, 1) := by decide +kernel
theorem d_md_close_128 : decode b_md_close 128 = .ok (.if_icmp .ge 72, 3) := by decide +kernel
theorem d_md_close_131 : decode b_md_close 131 = .ok (.aload_n 0, 1) := by decide +kernel
theorem d_md_close_132 : decode b_md_close 132 = .ok (.getfield 49, 3) := by decide +kernel
theorem d_md_close_135 : decode b_md_close 135 = .ok (.iload 5, 2) := by decide +kernel
theorem d_md_close_137 : decode b_md_close 137 = .ok (.baload, 1) := by decide +kernel
theorem d_md_close_138 : decode b_md_close 138 = .ok (.ifCond .eq 62, 3) := by decide +kernel
theorem d_md_close_141 : decode b_md_close 141 = .ok (.iload 6, 2) := by decide +kernel
theorem d_md_close_143 : decode b_md_close 143 = .ok (.ifCond .ne 44, 3) := by decide +kernel
theorem d_md_close_146 : decode b_md_close 146 = .ok (.aload_n 0, 1) := by decide +kernel
theorem d_md_close_147 : decode b_md_close 147 = .ok (.getfield 56, 3) := by decide +kernel
theorem d_md_close_150 : decode b_md_close 150 = .ok (.bipush 8, 2) := by decide +kernel
theorem d_md_close_152 : decode b_md_close 152 = .ok (.iload 5, 2) := by decide +kernel
theorem d_md_close_154 : decode b_md_close 154 = .ok (.imul, 1) := by decide +kernel
theorem d_md_close_155 : decode b_md_close 155 = .ok (.iload 7, 2) := by decide +kernel
theorem d_md_close_157 : decode b_md_close 157 = .ok (.iadd, 1) := by decide +kernel
theorem d_md_close_158 : decode b_md_close 158 = .ok (.iaload, 1) := by decide +kernel
theorem d_md_close_159 : decode b_md_close 159 = .ok (.iload_n 1, 1) := by decide +kernel
theorem d_md_close_160 : decode b_md_close 160 = .ok (.if_icmp .ne 31, 3) := by decide +kernel
theorem d_md_close_163 : decode b_md_close 163 = .ok (.aload_n 0, 1) := by decide +kernel
theorem d_md_close_164 : decode b_md_close 164 = .ok (.iload 5, 2) := by decide +kernel
theorem d_md_close_166 : decode b_md_close 166 = .ok (.iload 7, 2) := by decide +kernel
theorem d_md_close_168 : decode b_md_close 168 = .ok (.invokevirtual 119, 3) := by decide +kernel
theorem d_md_close_171 : decode b_md_close 171 = .ok (.iload_n 3, 1) := by decide +kernel
theorem d_md_close_172 : decode b_md_close 172 = .ok (.if_icmp .ge 19, 3) := by decide +kernel
theorem d_md_close_175 : decode b_md_close 175 = .ok (.iload_n 2, 1) := by decide +kernel
theorem d_md_close_176 : decode b_md_close 176 = .ok (.aload_n 0, 1) := by decide +kernel
theorem d_md_close_177 : decode b_md_close 177 = .ok (.iload 5, 2) := by decide +kernel
theorem d_md_close_179 : decode b_md_close 179 = .ok (.iload 7, 2) := by decide +kernel
theorem d_md_close_181 : decode b_md_close 181 = .ok (.invokevirtual 122, 3) := by decide +kernel
theorem d_md_close_184 : decode b_md_close 184 = .ok (.if_icmp .ge 7, 3) := by decide +kernel
theorem d_md_close_187 : decode b_md_close 187 = .ok (.iconst 1, 1) := by decide +kernel
theorem d_md_close_188 : decode b_md_close 188 = .ok (.goto 4, 3) := by decide +kernel
theorem d_md_close_191 : decode b_md_close 191 = .ok (.iconst 0, 1) := by decide +kernel
theorem d_md_close_192 : decode b_md_close 192 = .ok (.istore 6, 2) := by decide +kernel
theorem d_md_close_194 : decode b_md_close 194 = .ok (.iinc 7 1, 3) := by decide +kernel
theorem d_md_close_197 : decode b_md_close 197 = .ok (.goto (-78), 3) := by decide +kernel
theorem d_md_close_200 : decode b_md_close 200 = .ok (.aload_n 0, 1) := by decide +kernel
theorem d_md_close_201 : decode b_md_close 201 = .ok (.getfield 49, 3) := by decide +kernel
theorem d_md_close_204 : decode b_md_close 204 = .ok (.iload 5, 2) := by decide +kernel
theorem d_md_close_206 : decode b_md_close 206 = .ok (.aload_n 0, 1) := by decide +kernel
theorem d_md_close_207 : decode b_md_close 207 = .ok (.getfield 49, 3) := by decide +kernel
theorem d_md_close_210 : decode b_md_close 210 = .ok (.iload 5, 2) := by decide +kernel
theorem d_md_close_212 : decode b_md_close 212 = .ok (.baload, 1) := by decide +kernel
theorem d_md_close_213 : decode b_md_close 213 = .ok (.ifCond .eq 12, 3) := by decide +kernel
theorem d_md_close_216 : decode b_md_close 216 = .ok (.iload 6, 2) := by decide +kernel
theorem d_md_close_218 : decode b_md_close 218 = .ok (.ifCond .ne 7, 3) := by decide +kernel
theorem d_md_close_221 : decode b_md_close 221 = .ok (.iconst 1, 1) := by decide +kernel
theorem d_md_close_222 : decode b_md_close 222 = .ok (.goto 4, 3) := by decide +kernel
theorem d_md_close_225 : decode b_md_close 225 = .ok (.iconst 0, 1) := by decide +kernel
theorem d_md_close_226 : decode b_md_close 226 = .ok (.bastore, 1) := by decide +kernel
theorem d_md_close_227 : decode b_md_close 227 = .ok (.iload 4, 2) := by decide +kernel
theorem d_md_close_229 : decode b_md_close 229 = .ok (.iload 6, 2) := by decide +kernel
theorem d_md_close_231 : decode b_md_close 231 = .ok (.ifCond .eq 7, 3) := by decide +kernel
theorem d_md_close_234 : decode b_md_close 234 = .ok (.iconst 1, 1) := by decide +kernel
theorem d_md_close_235 : decode b_md_close 235 = .ok (.goto 4, 3) := by decide +kernel
theorem d_md_close_238 : decode b_md_close 238 = .ok (.iconst 0, 1) := by decide +kernel
theorem d_md_close_239 : decode b_md_close 239 = .ok (.iadd, 1) := by decide +kernel
theorem d_md_close_240 : decode b_md_close 240 = .ok (.istore 4, 2) := by decide +kernel
theorem d_md_close_242 : decode b_md_close 242 = .ok (.iinc 5 1, 3) := by decide +kernel
theorem d_md_close_245 : decode b_md_close 245 = .ok (.goto (-141), 3) := by decide +kernel
theorem d_md_close_248 : decode b_md_close 248 = .ok (.iload 4, 2) := by decide +kernel
theorem d_md_close_250 : decode b_md_close 250 = .ok (.ireturn, 1) := by decide +kernel
theorem d_md_tick_0 : decode b_md_tick 0 = .ok (.aload_n 0, 1) := by decide +kernel
theorem d_md_tick_1 : decode b_md_tick 1 = .ok (.iconst 0, 1) := by decide +kernel
theorem d_md_tick_2 : decode b_md_tick 2 = .ok (.putfield 65, 3) := by decide +kernel
theorem d_md_tick_5 : decode b_md_tick 5 = .ok (.aload_n 0, 1) := by decide +kernel
theorem d_md_tick_6 : decode b_md_tick 6 = .ok (.iload_n 1, 1) := by decide +kernel
theorem d_md_tick_7 : decode b_md_tick 7 = .ok (.invokevirtual 140, 3) := by decide +kernel
theorem d_md_tick_10 : decode b_md_tick 10 = .ok (.ifCond .ne 5, 3) := by decide +kernel
theorem d_md_tick_13 : decode b_md_tick 13 = .ok (.iconst 0, 1) := by decide +kernel
theorem d_md_tick_14 : decode b_md_tick 14 = .ok (.ireturn, 1) := by decide +kernel
theorem d_md_tick_15 : decode b_md_tick 15 = .ok (.aload_n 0, 1) := by decide +kernel
theorem d_md_tick_16 : decode b_md_tick 16 = .ok (.iload_n 1, 1) := by decide +kernel
theorem d_md_tick_17 : decode b_md_tick 17 = .ok (.putfield 78, 3) := by decide +kernel
theorem d_md_tick_20 : decode b_md_tick 20 = .ok (.iconst 1, 1) := by decide +kernel
theorem d_md_tick_21 : decode b_md_tick 21 = .ok (.ireturn, 1) := by decide +kernel
theorem d_md_conflict_0 : decode b_md_conflict 0 = .ok (.iload_n 2, 1) := by decide +kernel
theorem d_md_conflict_1 : decode b_md_conflict 1 = .ok (.iconst 0, 1) := by decide +kernel
theorem d_md_conflict_2 : decode b_md_conflict 2 = .ok (.iconst 3, 1) := by decide +kernel
theorem d_md_conflict_3 : decode b_md_conflict 3 = .ok (.invokestatic 86, 3) := by decide +kernel
theorem d_md_conflict_6 : decode b_md_conflict 6 = .ok (.ifCond .ne 9, 3) := by decide +kernel
theorem d_md_conflict_9 : decode b_md_conflict 9 = .ok (.aload_n 0, 1) := by decide +kernel
theorem d_md_conflict_10 : decode b_md_conflict 10 = .ok (.iconst 1, 1) := by decide +kernel
theorem d_md_conflict_11 : decode b_md_conflict 11 = .ok (.invokevirtual 90, 3) := by decide +kernel
theorem d_md_conflict_14 : decode b_md_conflict 14 = .ok (.ireturn, 1) := by decide +kernel
theorem d_md_conflict_15 : decode b_md_conflict 15 = .ok (.aload_n 0, 1) := by decide +kernel
theorem d_md_conflict_16 : decode b_md_conflict 16 = .ok (.iconst 0, 1) := by decide +kernel
theorem d_md_conflict_17 : decode b_md_conflict 17 = .ok (.putfield 65, 3) := by decide +kernel
theorem d_md_conflict_20 : decode b_md_conflict 20 = .ok (.iload_n 1, 1) := by decide +kernel
theorem d_md_conflict_21 : decode b_md_conflict 21 = .ok (.ifCond .ge 7, 3) := by decide +kernel
theorem d_md_conflict_24 : decode b_md_conflict 24 = .ok (.iconst (-1), 1) := by decide +kernel
theorem d_md_conflict_25 : decode b_md_conflict 25 = .ok (.goto 9, 3) := by decide +kernel
theorem d_md_conflict_28 : decode b_md_conflict 28 = .ok (.aload_n 0, 1) := by decide +kernel
theorem d_md_conflict_29 : decode b_md_conflict 29 = .ok (.iload_n 1, 1) := by decide +kernel
theorem d_md_conflict_30 : decode b_md_conflict 30 = .ok (.iload_n 2, 1) := by decide +kernel
theorem d_md_conflict_31 : decode b_md_conflict 31 = .ok (.invokevirtual 153, 3) := by decide +kernel
theorem d_md_conflict_34 : decode b_md_conflict 34 = .ok (.ireturn, 1) := by decide +kernel
theorem d_md_conflicts_0 : decode b_md_conflicts 0 = .ok (.iload_n 1, 1) := by decide +kernel
theorem d_md_conflicts_1 : decode b_md_conflicts 1 = .ok (.istore_n 3, 1) := by decide +kernel
theorem d_md_conflicts_2 : decode b_md_conflicts 2 = .ok (.iconst 1, 1) := by decide +kernel
theorem d_md_conflicts_3 : decode b_md_conflicts 3 = .ok (.istore 4, 2) := by decide +kernel
theorem d_md_conflicts_5 : decode b_md_conflicts 5 = .ok (.iload 4, 2) := by decide +kernel
theorem d_md_conflicts_7 : decode b_md_conflicts 7 = .ok (.aload_n 0, 1) := by decide +kernel
theorem d_md_conflicts_8 : decode b_md_conflicts 8 = .ok (.getfield 75, 3) := by decide +kernel
theorem d_md_conflicts_11 : decode b_md_conflicts 11 = .ok (.if_icmp .gt 148, 3) := by decide +kernel
theorem d_md_conflicts_14 : decode b_md_conflicts 14 = .ok (.iload 4, 2) := by decide +kernel
theorem d_md_conflicts_16 : decode b_md_conflicts 16 = .ok (.iconst 1, 1) := by decide +kernel
theorem d_md_conflicts_17 : decode b_md_conflicts 17 = .ok (.iadd, 1) := by decide +kernel
theorem d_md_conflicts_18 : decode b_md_conflicts 18 = .ok (.istore 5, 2) := by decide +kernel
theorem d_md_conflicts_20 : decode b_md_conflicts 20 = .ok (.iload 5, 2) := by decide +kernel
theorem d_md_conflicts_22 : decode b_md_conflicts 22 = .ok (.aload_n 0, 1) := by decide +kernel
theorem d_md_conflicts_23 : decode b_md_conflicts 23 = .ok (.getfield 75, 3) := by decide +kernel
theorem d_md_conflicts_26 : decode b_md_conflicts 26 = .ok (.if_icmp .gt 127, 3) := by decide +kernel
theorem d_md_conflicts_29 : decode b_md_conflicts 29 = .ok (.iconst 0, 1) := by decide +kernel
theorem d_md_conflicts_30 : decode b_md_conflicts 30 = .ok (.istore 6, 2) := by decide +kernel
theorem d_md_conflicts_32 : decode b_md_conflicts 32 = .ok (.iload 6, 2) := by decide +kernel
theorem d_md_conflicts_34 : decode b_md_conflicts 34 = .ok (.aload_n 0, 1) := by decide +kernel
theorem d_md_conflicts_35 : decode b_md_conflicts 35 = .ok (.getfield 53, 3) := by decide +kernel
theorem d_md_conflicts_38 : decode b_md_conflicts 38 = .ok (.iload 4, 2) := by decide +kernel
theorem d_md_conflicts_40 : decode b_md_conflicts 40 = .ok (.iaload, 1) := by decide +kernel
theorem d_md_conflicts_41 : decode b_md_conflicts 41 = .ok (.if_icmp .ge 106, 3) := by decide +kernel
theorem d_md_conflicts_44 : decode b_md_conflicts 44 = .ok (.aload_n 0, 1) := by decide +kernel
theorem d_md_conflicts_45 : decode b_md_conflicts 45 = .ok (.getfield 49, 3) := by decide +kernel
theorem d_md_conflicts_48 : decode b_md_conflicts 48 = .ok (.iload 4, 2) := by decide +kernel
theorem d_md_conflicts_50 : decode b_md_conflicts 50 = .ok (.baload, 1) := by decide +kernel
theorem d_md_conflicts_51 : decode b_md_conflicts 51 = .ok (.ifCond .eq 96, 3) := by decide +kernel
theorem d_md_conflicts_54 : decode b_md_conflicts 54 = .ok (.aload_n 0, 1) := by decide +kernel
theorem d_md_conflicts_55 : decode b_md_conflicts 55 = .ok (.getfield 49, 3) := by decide +kernel
theorem d_md_conflicts_58 : decode b_md_conflicts 58 = .ok (.iload 5, 2) := by decide +kernel
theorem d_md_conflicts_60 : decode b_md_conflicts 60 = .ok (.baload, 1) := by decide +kernel
theorem d_md_conflicts_61 : decode b_md_conflicts 61 = .ok (.ifCond .eq 86, 3) := by decide +kernel
theorem d_md_conflicts_64 : decode b_md_conflicts 64 = .ok (.aload_n 0, 1) := by decide +kernel
theorem d_md_conflicts_65 : decode b_md_conflicts 65 = .ok (.iload 4, 2) := by decide +kernel
theorem d_md_conflicts_67 : decode b_md_conflicts 67 = .ok (.iload 6, 2) := by decide +kernel
theorem d_md_conflicts_69 : decode b_md_conflicts 69 = .ok (.iload 5, 2) := by decide +kernel
theorem d_md_conflicts_71 : decode b_md_conflicts 71 = .ok (.invokevirtual 136, 3) := by decide +kernel
theorem d_md_conflicts_74 : decode b_md_conflicts 74 = .ok (.istore 7, 2) := by decide +kernel
theorem d_md_conflicts_76 : decode b_md_conflicts 76 = .ok (.iload 7, 2) := by decide +kernel
theorem d_md_conflicts_78 : decode b_md_conflicts 78 = .ok (.ifCond .le 50, 3) := by decide +kernel
theorem d_md_conflicts_81 : decode b_md_conflicts 81 = .ok (.iload_n 3, 1) := by decide +kernel
theorem d_md_conflicts_82 : decode b_md_conflicts 82 = .ok (.ifCond .ne 46, 3) := by decide +kernel
theorem d_md_conflicts_85 : decode b_md_conflicts 85 = .ok (.iload_n 2, 1) := by decide +kernel
theorem d_md_conflicts_86 : decode b_md_conflicts 86 = .ok (.ifCond .ne 8, 3) := by decide +kernel
theorem d_md_conflicts_89 : decode b_md_conflicts 89 = .ok (.iload 4, 2) := by decide +kernel
theorem d_md_conflicts_91 : decode b_md_conflicts 91 = .ok (.goto 36, 3) := by decide +kernel
theorem d_md_conflicts_94 : decode b_md_conflicts 94 = .ok (.iload_n 2, 1) := by decide +kernel
theorem d_md_conflicts_95 : decode b_md_conflicts 95 = .ok (.iconst 1, 1) := by decide +kernel
theorem d_md_conflicts_96 : decode b_md_conflicts 96 = .ok (.if_icmp .ne 8, 3) := by decide +kernel
theorem d_md_conflicts_99 : decode b_md_conflicts 99 = .ok (.iload 5, 2) := by decide +kernel
theorem d_md_conflicts_101 : decode b_md_conflicts 101 = .ok (.goto 26, 3) := by decide +kernel
theorem d_md_conflicts_104 : decode b_md_conflicts 104 = .ok (.iload_n 2, 1) := by decide +kernel
theorem d_md_conflicts_105 : decode b_md_conflicts 105 = .ok (.iconst 2, 1) := by decide +kernel
theorem d_md_conflicts_106 : decode b_md_conflicts 106 = .ok (.if_icmp .ne 19, 3) := by decide +kernel
theorem d_md_conflicts_109 : decode b_md_conflicts 109 = .ok (.aload_n 0, 1) := by decide +kernel
theorem d_md_conflicts_110 : decode b_md_conflicts 110 = .ok (.getfield 56, 3) := by decide +kernel
theorem d_md_conflicts_113 : decode b_md_conflicts 113 = .ok (.bipush 8, 2) := by decide +kernel
theorem d_md_conflicts_115 : decode b_md_conflicts 115 = .ok (.iload 4, 2) := by decide +kernel
theorem d_md_conflicts_117 : decode b_md_conflicts 117 = .ok (.imul, 1) := by decide +kernel
theorem d_md_conflicts_118 : decode b_md_conflicts 118 = .ok (.iload 6, 2) := by decide +kernel
theorem d_md_conflicts_120 : decode b_md_conflicts 120 = .ok (.iadd, 1) := by decide +kernel
theorem d_md_conflicts_121 : decode b_md_conflicts 121 = .ok (.iaload, 1) := by decide +kernel
theorem d_md_conflicts_122 : decode b_md_conflicts 122 = .ok (.goto 5, 3) := by decide +kernel
theorem d_md_conflicts_125 : decode b_md_conflicts 125 = .ok (.iload 7, 2) := by decide +kernel
theorem d_md_conflicts_127 : decode b_md_conflicts 127 = .ok (.ireturn, 1) := by decide +kernel
theorem d_md_conflicts_128 : decode b_md_conflicts 128 = .ok (.iload_n 3, 1) := by decide +kernel
theorem d_md_conflicts_129 : decode b_md_conflicts 129 = .ok (.iload 7, 2) := by decide +kernel
theorem d_md_conflicts_131 : decode b_md_conflicts 131 = .ok (.ifCond .le 7, 3) := by decide +kernel
theorem d_md_conflicts_134 : decode b_md_conflicts 134 = .ok (.iconst 1, 1) := by decide +kernel
theorem d_md_conflicts_135 : decode b_md_conflicts 135 = .ok (.goto 4, 3) := by decide +kernel
theorem d_md_conflicts_138 : decode b_md_conflicts 138 = .ok (.iconst 0, 1) := by decide +kernel
theorem d_md_conflicts_139 : decode b_md_conflicts 139 = .ok (.isub, 1) := by decide +kernel
theorem d_md_conflicts_140 : decode b_md_conflicts 140 = .ok (.istore_n 3, 1) := by decide +kernel
theorem d_md_conflicts_141 : decode b_md_conflicts 141 = .ok (.iinc 6 1, 3) := by decide +kernel
theorem d_md_conflicts_144 : decode b_md_conflicts 144 = .ok (.goto (-112), 3) := by decide +kernel
theorem d_md_conflicts_147 : decode b_md_conflicts 147 = .ok (.iinc 5 1, 3) := by decide +kernel
theorem d_md_conflicts_150 : decode b_md_conflicts 150 = .ok (.goto (-130), 3) := by decide +kernel
theorem d_md_conflicts_153 : decode b_md_conflicts 153 = .ok (.iinc 4 1, 3) := by decide +kernel
theorem d_md_conflicts_156 : decode b_md_conflicts 156 = .ok (.goto (-151), 3) := by decide +kernel
theorem d_md_conflicts_159 : decode b_md_conflicts 159 = .ok (.iload_n 2, 1) := by decide +kernel
theorem d_md_conflicts_160 : decode b_md_conflicts 160 = .ok (.ifCond .ge 9, 3) := by decide +kernel
theorem d_md_conflicts_163 : decode b_md_conflicts 163 = .ok (.iload_n 1, 1) := by decide +kernel
theorem d_md_conflicts_164 : decode b_md_conflicts 164 = .ok (.iload_n 3, 1) := by decide +kernel
theorem d_md_conflicts_165 : decode b_md_conflicts 165 = .ok (.isub, 1) := by decide +kernel
theorem d_md_conflicts_166 : decode b_md_conflicts 166 = .ok (.goto 4, 3) := by decide +kernel
theorem d_md_conflicts_169 : decode b_md_conflicts 169 = .ok (.iconst (-1), 1) := by decide +kernel
theorem d_md_conflicts_170 : decode b_md_conflicts 170 = .ok (.ireturn, 1) := by decide +kernel
theorem d_md_at_0 : decode b_md_at 0 = .ok (.aload_n 0, 1) := by decide +kernel
theorem d_md_at_1 : decode b_md_at 1 = .ok (.iload_n 1, 1) := by decide +kernel
theorem d_md_at_2 : decode b_md_at 2 = .ok (.invokevirtual 150, 3) := by decide +kernel
theorem d_md_at_5 : decode b_md_at 5 = .ok (.ifCond .eq 38, 3) := by decide +kernel
theorem d_md_at_8 : decode b_md_at 8 = .ok (.iload_n 2, 1) := by decide +kernel
theorem d_md_at_9 : decode b_md_at 9 = .ok (.ifCond .lt 34, 3) := by decide +kernel
theorem d_md_at_12 : decode b_md_at 12 = .ok (.iload_n 2, 1) := by decide +kernel
theorem d_md_at_13 : decode b_md_at 13 = .ok (.aload_n 0, 1) := by decide +kernel
theorem d_md_at_14 : decode b_md_at 14 = .ok (.getfield 53, 3) := by decide +kernel
theorem d_md_at_17 : decode b_md_at 17 = .ok (.aload_n 0, 1) := by decide +kernel
theorem d_md_at_18 : decode b_md_at 18 = .ok (.iload_n 1, 1) := by decide +kernel
theorem d_md_at_19 : decode b_md_at 19 = .ok (.invokevirtual 150, 3) := by decide +kernel
theorem d_md_at_22 : decode b_md_at 22 = .ok (.ifCond .eq 7, 3) := by decide +kernel
theorem d_md_at_25 : decode b_md_at 25 = .ok (.iload_n 1, 1) := by decide +kernel
theorem d_md_at_26 : decode b_md_at 26 = .ok (.goto 4, 3) := by decide +kernel
theorem d_md_at_29 : decode b_md_at 29 = .ok (.iconst 0, 1) := by decide +kernel
theorem d_md_at_30 : decode b_md_at 30 = .ok (.iaload, 1) := by decide +kernel
theorem d_md_at_31 : decode b_md_at 31 = .ok (.if_icmp .ge 12, 3) := by decide +kernel
theorem d_md_at_34 : decode b_md_at 34 = .ok (.iload_n 3, 1) := by decide +kernel
theorem d_md_at_35 : decode b_md_at 35 = .ok (.iconst 0, 1) := by decide +kernel
theorem d_md_at_36 : decode b_md_at 36 = .ok (.iconst 3, 1) := by decide +kernel
theorem d_md_at_37 : decode b_md_at 37 = .ok (.invokestatic 86, 3) := by decide +kernel
theorem d_md_at_40 : decode b_md_at 40 = .ok (.ifCond .ne 9, 3) := by decide +kernel
theorem d_md_at_43 : decode b_md_at 43 = .ok (.aload_n 0, 1) := by decide +kernel
theorem d_md_at_44 : decode b_md_at 44 = .ok (.iconst 1, 1) := by decide +kernel
theorem d_md_at_45 : decode b_md_at 45 = .ok (.invokevirtual 90, 3) := by decide +kernel
theorem d_md_at_48 : decode b_md_at 48 = .ok (.ireturn, 1) := by decide +kernel
theorem d_md_at_49 : decode b_md_at 49 = .ok (.aload_n 0, 1) := by decide +kernel
theorem d_md_at_50 : decode b_md_at 50 = .ok (.iconst 0, 1) := by decide +kernel
theorem d_md_at_51 : decode b_md_at 51 = .ok (.putfield 65, 3) := by decide +kernel
theorem d_md_at_54 : decode b_md_at 54 = .ok (.iload_n 3, 1) := by decide +kernel
theorem d_md_at_55 : decode b_md_at 55 = .ok (.ifCond .ne 17, 3) := by decide +kernel
theorem d_md_at_58 : decode b_md_at 58 = .ok (.aload_n 0, 1) := by decide +kernel
theorem d_md_at_59 : decode b_md_at 59 = .ok (.getfield 56, 3) := by decide +kernel
theorem d_md_at_62 : decode b_md_at 62 = .ok (.bipush 8, 2) := by decide +kernel
theorem d_md_at_64 : decode b_md_at 64 = .ok (.iload_n 1, 1) := by decide +kernel
theorem d_md_at_65 : decode b_md_at 65 = .ok (.imul, 1) := by decide +kernel
theorem d_md_at_66 : decode b_md_at 66 = .ok (.iload_n 2, 1) := by decide +kernel
theorem d_md_at_67 : decode b_md_at 67 = .ok (.iadd, 1) := by decide +kernel
theorem d_md_at_68 : decode b_md_at 68 = .ok (.iaload, 1) := by decide +kernel
theorem d_md_at_69 : decode b_md_at 69 = .ok (.goto 42, 3) := by decide +kernel
theorem d_md_at_72 : decode b_md_at 72 = .ok (.iload_n 3, 1) := by decide +kernel
theorem d_md_at_73 : decode b_md_at 73 = .ok (.iconst 1, 1) := by decide +kernel
theorem d_md_at_74 : decode b_md_at 74 = .ok (.if_icmp .ne 12, 3) := by decide +kernel
theorem d_md_at_77 : decode b_md_at 77 = .ok (.aload_n 0, 1) := by decide +kernel
theorem d_md_at_78 : decode b_md_at 78 = .ok (.iload_n 1, 1) := by decide +kernel
theorem d_md_at_79 : decode b_md_at 79 = .ok (.iload_n 2, 1) := by decide +kernel
theorem d_md_at_80 : decode b_md_at 80 = .ok (.invokevirtual 119, 3) := by decide +kernel
theorem d_md_at_83 : decode b_md_at 83 = .ok (.goto 28, 3) := by decide +kernel
theorem d_md_at_86 : decode b_md_at 86 = .ok (.iload_n 3, 1) := by decide +kernel
theorem d_md_at_87 : decode b_md_at 87 = .ok (.iconst 2, 1) := by decide +kernel
theorem d_md_at_88 : decode b_md_at 88 = .ok (.if_icmp .ne 12, 3) := by decide +kernel
theorem d_md_at_91 : decode b_md_at 91 = .ok (.aload_n 0, 1) := by decide +kernel
theorem d_md_at_92 : decode b_md_at 92 = .ok (.iload_n 1, 1) := by decide +kernel
theorem d_md_at_93 : decode b_md_at 93 = .ok (.iload_n 2, 1) := by decide +kernel
theorem d_md_at_94 : decode b_md_at 94 = .ok (.invokevirtual 122, 3) := by decide +kernel
theorem d_md_at_97 : decode b_md_at 97 = .ok (.goto 14, 3) := by decide +kernel
theorem d_md_at_100 : decode b_md_at 100 = .ok (.aload_n 0, 1) := by decide +kernel
theorem d_md_at_101 : decode b_md_at 101 = .ok (.getfield 59, 3) := by decide +kernel
theorem d_md_at_104 : decode b_md_at 104 = .ok (.bipush 8, 2) := by decide +kernel
theorem d_md_at_106 : decode b_md_at 106 = .ok (.iload_n 1, 1) := by decide +kernel
theorem d_md_at_107 : decode b_md_at 107 = .ok (.imul, 1) := by decide +kernel
theorem d_md_at_108 : decode b_md_at 108 = .ok (.iload_n 2, 1) := by decide +kernel
theorem d_md_at_109 : decode b_md_at 109 = .ok (.iadd, 1) := by decide +kernel
theorem d_md_at_110 : decode b_md_at 110 = .ok (.iaload, 1) := by decide +kernel
theorem d_md_at_111 : decode b_md_at 111 = .ok (.ireturn, 1) := by decide +kernel
theorem d_md_count_0 : decode b_md_count 0 = .ok (.aload_n 0, 1) := by decide +kernel
theorem d_md_count_1 : decode b_md_count 1 = .ok (.iconst 0, 1) := by decide +kernel
theorem d_md_count_2 : decode b_md_count 2 = .ok (.putfield 65, 3) := by decide +kernel
theorem d_md_count_5 : decode b_md_count 5 = .ok (.iload_n 1, 1) := by decide +kernel
theorem d_md_count_6 : decode b_md_count 6 = .ok (.bipush 20, 2) := by decide +kernel
theorem d_md_count_8 : decode b_md_count 8 = .ok (.if_icmp .lt 36, 3) := by decide +kernel
theorem d_md_count_11 : decode b_md_count 11 = .ok (.aload_n 0, 1) := by decide +kernel
theorem d_md_count_12 : decode b_md_count 12 = .ok (.iload_n 1, 1) := by decide +kernel
theorem d_md_count_13 : decode b_md_count 13 = .ok (.bipush 20, 2) := by decide +kernel
theorem d_md_count_15 : decode b_md_count 15 = .ok (.isub, 1) := by decide +kernel
theorem d_md_count_16 : decode b_md_count 16 = .ok (.invokevirtual 150, 3) := by decide +kernel
theorem d_md_count_19 : decode b_md_count 19 = .ok (.ifCond .eq 23, 3) := by decide +kernel
theorem d_md_count_22 : decode b_md_count 22 = .ok (.aload_n 0, 1) := by decide +kernel
theorem d_md_count_23 : decode b_md_count 23 = .ok (.getfield 49, 3) := by decide +kernel
theorem d_md_count_26 : decode b_md_count 26 = .ok (.iload_n 1, 1) := by decide +kernel
theorem d_md_count_27 : decode b_md_count 27 = .ok (.bipush 20, 2) := by decide +kernel
theorem d_md_count_29 : decode b_md_count 29 = .ok (.isub, 1) := by decide +kernel
theorem d_md_count_30 : decode b_md_count 30 = .ok (.baload, 1) := by decide +kernel
theorem d_md_count_31 : decode b_md_count 31 = .ok (.ifCond .eq 7, 3) := by decide +kernel
theorem d_md_count_34 : decode b_md_count 34 = .ok (.iconst 1, 1) := by decide +kernel
theorem d_md_count_35 : decode b_md_count 35 = .ok (.goto 8, 3) := by decide +kernel
theorem d_md_count_38 : decode b_md_count 38 = .ok (.iconst 0, 1) := by decide +kernel
theorem d_md_count_39 : decode b_md_count 39 = .ok (.goto 4, 3) := by decide +kernel
theorem d_md_count_42 : decode b_md_count 42 = .ok (.iconst (-1), 1) := by decide +kernel
theorem d_md_count_43 : decode b_md_count 43 = .ok (.ireturn, 1) := by decide +kernel
theorem d_md_count_44 : decode b_md_count 44 = .ok (.iconst 0, 1) := by decide +kernel
theorem d_md_count_45 : decode b_md_count 45 = .ok (.istore_n 2, 1) := by decide +kernel
theorem d_md_count_46 : decode b_md_count 46 = .ok (.iconst 1, 1) := by decide +kernel
theorem d_md_count_47 : decode b_md_count 47 = .ok (.istore_n 3, 1) := by decide +kernel
theorem d_md_count_48 : decode b_md_count 48 = .ok (.iload_n 3, 1) := by decide +kernel
theorem d_md_count_49 : decode b_md_count 49 = .ok (.aload_n 0, 1) := by decide +kernel
theorem d_md_count_50 : decode b_md_count 50 = .ok (.getfield 75, 3) := by decide +kernel
theorem d_md_count_53 : decode b_md_count 53 = .ok (.if_icmp .gt 26, 3) := by decide +kernel
theorem d_md_count_56 : decode b_md_count 56 = .ok (.iload_n 2, 1) := by decide +kernel
theorem d_md_count_57 : decode b_md_count 57 = .ok (.aload_n 0, 1) := by decide +kernel
theorem d_md_count_58 : decode b_md_count 58 = .ok (.getfield 49, 3) := by decide +kernel
theorem d_md_count_61 : decode b_md_count 61 = .ok (.iload_n 3, 1) := by decide +kernel
theorem d_md_count_62 : decode b_md_count 62 = .ok (.baload, 1) := by decide +kernel
theorem d_md_count_63 : decode b_md_count 63 = .ok (.ifCond .eq 7, 3) := by decide +kernel
theorem d_md_count_66 : decode b_md_count 66 = .ok (.iconst 1, 1) := by decide +kernel
theorem d_md_count_67 : decode b_md_count 67 = .ok (.goto 4, 3) := by decide +kernel
theorem d_md_count_70 : decode b_md_count 70 = .ok (.iconst 0, 1) := by decide +kernel
theorem d_md_count_71 : decode b_md_count 71 = .ok (.iadd, 1) := by decide +kernel
theorem d_md_count_72 : decode b_md_count 72 = .ok (.istore_n 2, 1) := by decide +kernel
theorem d_md_count_73 : decode b_md_count 73 = .ok (.iinc 3 1, 3) := by decide +kernel
theorem d_md_count_76 : decode b_md_count 76 = .ok (.goto (-28), 3) := by decide +kernel
theorem d_md_count_79 : decode b_md_count 79 = .ok (.iload_n 1, 1) := by decide +kernel
theorem d_md_count_80 : decode b_md_count 80 = .ok (.tableswitch 87 0 6 #[44, 49, 54, 59, 61, 66, 74], 44) := by decide +kernel
theorem d_md_count_124 : decode b_md_count 124 = .ok (.aload_n 0, 1) := by decide +kernel
theorem d_md_count_125 : decode b_md_count 125 = .ok (.getfield 69, 3) := by decide +kernel
theorem d_md_count_128 : decode b_md_count 128 = .ok (.ireturn, 1) := by decide +kernel
theorem d_md_count_129 : decode b_md_count 129 = .ok (.aload_n 0, 1) := by decide +kernel
theorem d_md_count_130 : decode b_md_count 130 = .ok (.getfield 72, 3) := by decide +kernel
theorem d_md_count_133 : decode b_md_count 133 = .ok (.ireturn, 1) := by decide +kernel
theorem d_md_count_134 : decode b_md_count 134 = .ok (.aload_n 0, 1) := by decide +kernel
theorem d_md_count_135 : decode b_md_count 135 = .ok (.getfield 75, 3) := by decide +kernel
theorem d_md_count_138 : decode b_md_count 138 = .ok (.ireturn, 1) := by decide +kernel
theorem d_md_count_139 : decode b_md_count 139 = .ok (.iload_n 2, 1) := by decide +kernel
theorem d_md_count_140 : decode b_md_count 140 = .ok (.ireturn, 1) := by decide +kernel
theorem d_md_count_141 : decode b_md_count 141 = .ok (.aload_n 0, 1) := by decide +kernel
theorem d_md_count_142 : decode b_md_count 142 = .ok (.getfield 78, 3) := by decide +kernel
theorem d_md_count_145 : decode b_md_count 145 = .ok (.ireturn, 1) := by decide +kernel
theorem d_md_count_146 : decode b_md_count 146 = .ok (.aload_n 0, 1) := by decide +kernel
theorem d_md_count_147 : decode b_md_count 147 = .ok (.ldc 101, 2) := by decide +kernel
theorem d_md_count_149 : decode b_md_count 149 = .ok (.iconst (-1), 1) := by decide +kernel
theorem d_md_count_150 : decode b_md_count 150 = .ok (.invokevirtual 153, 3) := by decide +kernel
theorem d_md_count_153 : decode b_md_count 153 = .ok (.ireturn, 1) := by decide +kernel
theorem d_md_count_154 : decode b_md_count 154 = .ok (.aload_n 0, 1) := by decide +kernel
theorem d_md_count_155 : decode b_md_count 155 = .ok (.getfield 97, 3) := by decide +kernel
theorem d_md_count_158 : decode b_md_count 158 = .ok (.ifCond .eq 7, 3) := by decide +kernel
theorem d_md_count_161 : decode b_md_count 161 = .ok (.iconst 1, 1) := by decide +kernel
theorem d_md_count_162 : decode b_md_count 162 = .ok (.goto 4, 3) := by decide +kernel
theorem d_md_count_165 : decode b_md_count 165 = .ok (.iconst 0, 1) := by decide +kernel
theorem d_md_count_166 : decode b_md_count 166 = .ok (.ireturn, 1) := by decide +kernel
theorem d_md_count_167 : decode b_md_count 167 = .ok (.iconst (-1), 1) := by decide +kernel
theorem d_md_count_168 : decode b_md_count 168 = .ok (.ireturn, 1) := by decide +kernel
end
section
/-! ints by their mathematical value; rows of the kit said in these words -/
def iI (z : Int) : Int32 := Int32.ofInt z
abbrev i32 (z : Int) : Prop := -2147483648 ≤ z ∧ z ≤ 2147483647
theorem iI_add (a b : Int) : iI a + iI b = iI (a + b) := (Int32.ofInt_add a b).symm
theorem iI_sub (a b : Int) : iI a - iI b = iI (a - b) := (Int32.ofInt_sub a b).symm
theorem iI_mul (a b : Int) : iI a * iI b = iI (a * b) := (Int32.ofInt_mul a b).symm
theorem iI_neg (a : Int) : - iI a = iI (-a) := (Int32.ofInt_neg a).symm
theorem iI_toInt {z : Int} (h : i32 z) : (iI z).toInt = z := Int32.toInt_ofInt_of_le (by omega) (by omega)
theorem iI_of (x : Int32) : x = iI x.toInt := (Int32.ofInt_toInt x).symm
theorem iI_b (x : Int32) : i32 x.toInt := by
  have h1 := x.toInt_lt
  have h2 := x.le_toInt
  exact ⟨by omega, by omega⟩
theorem iI_ex (x : Int32) : ∃ z : Int, i32 z ∧ x = iI z := ⟨x.toInt, iI_b x, iI_of x⟩
theorem iI_le {a b : Int} (ha : i32 a) (hb : i32 b) : iI a ≤ iI b ↔ a ≤ b := by
  rw [Int32.le_iff_toInt_le, iI_toInt ha, iI_toInt hb]
theorem iI_lt {a b : Int} (ha : i32 a) (hb : i32 b) : iI a < iI b ↔ a < b := by
  rw [Int32.lt_iff_toInt_lt, iI_toInt ha, iI_toInt hb]
theorem iI_eq {a b : Int} (ha : i32 a) (hb : i32 b) : iI a = iI b ↔ a = b := by
  rw [← Int32.toInt_inj, iI_toInt ha, iI_toInt hb]
theorem iI_0 : iI 0 = 0 := by decide +kernel
theorem iI_1 : iI 1 = 1 := by decide +kernel
theorem iI_nat (n : Nat) : iI (n : Int) = Int32.ofNat n := by
  unfold iI
  exact Int32.ofInt_eq_ofNat
theorem iI_clamp {z : Int} (h0 : 0 ≤ z) (h1 : z ≤ 2147483647) : (iI z).toNatClampNeg = z.toNat := by
  rw [← Int32.toNat_toInt, iI_toInt ⟨by omega, h1⟩]
theorem iI_in {z : Int} {n : Nat} (h0 : 0 ≤ z) (h1 : z < n) (hn : n < 2147483648) : vp_in (iI z) n := by
  rw [vp_in_iff, iI_toInt ⟨by omega, by omega⟩]
  exact ⟨h0, h1⟩
theorem iI_div {a b : Int} (ha : 0 ≤ a) (ha2 : a ≤ 2147483647) (hb : 0 < b) (hb2 : b ≤ 2147483647) : iI a / iI b = iI (a / b) := by
  rw [← Int32.toInt_inj, Int32.toInt_div_of_ne_left, iI_toInt ⟨by omega, ha2⟩, iI_toInt ⟨by omega, hb2⟩, iI_toInt, Int.tdiv_eq_ediv_of_nonneg ha]
  · refine ⟨?_, ?_⟩
    · have := Int.ediv_nonneg ha (Int.le_of_lt hb); omega
    · have := Int.ediv_le_self b ha; omega
  · intro h
    have h2 : (iI a).toInt = Int32.minValue.toInt := by rw [h]
    rw [iI_toInt ⟨by omega, ha2⟩] at h2
    have h3 : Int32.minValue.toInt = -2147483648 := by decide +kernel
    omega
theorem iI_rem {a b : Int} (ha : 0 ≤ a) (ha2 : a ≤ 2147483647) (hb : 0 < b) (hb2 : b ≤ 2147483647) : iI a - iI a / iI b * iI b = iI (a % b) := by
  rw [iI_div ha ha2 hb hb2, iI_mul, iI_sub]
  congr 1
  have := Int.emod_add_mul_ediv a b
  rw [Int.mul_comm] at this
  omega
theorem iI_ne0 {b : Int} (h : i32 b) (hb : b ≠ 0) : ¬ iI b = 0 := by
  intro q
  rw [← iI_0, iI_eq h ⟨by omega, by omega⟩] at q
  exact hb q
section IR
variable {p : Program} {l : Launch} {e : Env} {R : Room} {s : State} {m : MethodId} {args : Array Value} {below : List Frame} {meth : Method} {c : Code} {H : Heap} {locs : List Loc} {cells slots : Nat} {Q : State → Prop}
variable {cc : ByteArray} {pc : Nat} {ls : Array Slot} {rest : List Value}
theorem ir_add (hx : p.tables.exec = Jvm.exec) (hb : c.code = cc) {a b : Int} (hdg : decode cc pc = .ok (.iadd, 1)) (k : W p l e R s m args below meth c H locs cells slots Q (F0 m (pc + 1) ls (.int (iI (a + b)) :: rest))) : W p l e R s m args below meth c H locs cells slots Q (F0 m pc ls (.int (iI b) :: .int (iI a) :: rest)) := lv_iadd hx hb hdg (by rw [iI_add]; exact k)
theorem ir_sub (hx : p.tables.exec = Jvm.exec) (hb : c.code = cc) {a b : Int} (hdg : decode cc pc = .ok (.isub, 1)) (k : W p l e R s m args below meth c H locs cells slots Q (F0 m (pc + 1) ls (.int (iI (a - b)) :: rest))) : W p l e R s m args below meth c H locs cells slots Q (F0 m pc ls (.int (iI b) :: .int (iI a) :: rest)) := lv_isub hx hb hdg (by rw [iI_sub]; exact k)
theorem ir_mul (hx : p.tables.exec = Jvm.exec) (hb : c.code = cc) {a b : Int} (hdg : decode cc pc = .ok (.imul, 1)) (k : W p l e R s m args below meth c H locs cells slots Q (F0 m (pc + 1) ls (.int (iI (a * b)) :: rest))) : W p l e R s m args below meth c H locs cells slots Q (F0 m pc ls (.int (iI b) :: .int (iI a) :: rest)) := lv_imul hx hb hdg (by rw [iI_mul]; exact k)
theorem ir_div (hx : p.tables.exec = Jvm.exec) (hb : c.code = cc) {a b : Int} (ha : 0 ≤ a) (ha2 : a ≤ 2147483647) (hb0 : 0 < b) (hb2 : b ≤ 2147483647) (hdg : decode cc pc = .ok (.idiv, 1)) (k : W p l e R s m args below meth c H locs cells slots Q (F0 m (pc + 1) ls (.int (iI (a / b)) :: rest))) : W p l e R s m args below meth c H locs cells slots Q (F0 m pc ls (.int (iI b) :: .int (iI a) :: rest)) := lv_idiv hx hb hdg (iI_ne0 ⟨by omega, hb2⟩ (by omega)) (by rw [iI_div ha ha2 hb0 hb2]; exact k)
theorem ir_rem (hx : p.tables.exec = Jvm.exec) (hb : c.code = cc) {a b : Int} (ha : 0 ≤ a) (ha2 : a ≤ 2147483647) (hb0 : 0 < b) (hb2 : b ≤ 2147483647) (hdg : decode cc pc = .ok (.irem, 1)) (k : W p l e R s m args below meth c H locs cells slots Q (F0 m (pc + 1) ls (.int (iI (a % b)) :: rest))) : W p l e R s m args below meth c H locs cells slots Q (F0 m pc ls (.int (iI b) :: .int (iI a) :: rest)) := lv_irem hx hb hdg (iI_ne0 ⟨by omega, hb2⟩ (by omega)) (by rw [iI_rem ha ha2 hb0 hb2]; exact k)
theorem ir_eq (hx : p.tables.exec = Jvm.exec) (hb : c.code = cc) {a b : Int} {off : Int} {tgt : Nat} (hdg : decode cc pc = .ok (.if_icmp .eq off, 3)) (ht : (pc : Int) + off = (tgt : Int)) (ha : i32 a) (hb2 : i32 b)
    (kt : a = b → W p l e R s m args below meth c H locs cells slots Q (F0 m tgt ls rest)) (kf : ¬ a = b → W p l e R s m args below meth c H locs cells slots Q (F0 m (pc + 3) ls rest)) : W p l e R s m args below meth c H locs cells slots Q (F0 m pc ls (.int (iI b) :: .int (iI a) :: rest)) := lv_icmp_eq hx hb hdg ht (fun q => kt ((iI_eq ha hb2).mp q)) (fun q => kf (fun z => q ((iI_eq ha hb2).mpr z)))
theorem ir_ne (hx : p.tables.exec = Jvm.exec) (hb : c.code = cc) {a b : Int} {off : Int} {tgt : Nat} (hdg : decode cc pc = .ok (.if_icmp .ne off, 3)) (ht : (pc : Int) + off = (tgt : Int)) (ha : i32 a) (hb2 : i32 b)
    (kt : ¬ a = b → W p l e R s m args below meth c H locs cells slots Q (F0 m tgt ls rest)) (kf : a = b → W p l e R s m args below meth c H locs cells slots Q (F0 m (pc + 3) ls rest)) : W p l e R s m args below meth c H locs cells slots Q (F0 m pc ls (.int (iI b) :: .int (iI a) :: rest)) := lv_icmp_ne hx hb hdg ht (fun q => kt (fun z => q ((iI_eq ha hb2).mpr z))) (fun q => kf ((iI_eq ha hb2).mp q))
theorem ir_lt (hx : p.tables.exec = Jvm.exec) (hb : c.code = cc) {a b : Int} {off : Int} {tgt : Nat} (hdg : decode cc pc = .ok (.if_icmp .lt off, 3)) (ht : (pc : Int) + off = (tgt : Int)) (ha : i32 a) (hb2 : i32 b)
    (kt : a < b → W p l e R s m args below meth c H locs cells slots Q (F0 m tgt ls rest)) (kf : b ≤ a → W p l e R s m args below meth c H locs cells slots Q (F0 m (pc + 3) ls rest)) : W p l e R s m args below meth c H locs cells slots Q (F0 m pc ls (.int (iI b) :: .int (iI a) :: rest)) := lv_icmp_lt hx hb hdg ht (fun q => kt ((iI_lt ha hb2).mp q)) (fun q => kf (Int.not_lt.mp (fun z => q ((iI_lt ha hb2).mpr z))))
theorem ir_ge (hx : p.tables.exec = Jvm.exec) (hb : c.code = cc) {a b : Int} {off : Int} {tgt : Nat} (hdg : decode cc pc = .ok (.if_icmp .ge off, 3)) (ht : (pc : Int) + off = (tgt : Int)) (ha : i32 a) (hb2 : i32 b)
    (kt : b ≤ a → W p l e R s m args below meth c H locs cells slots Q (F0 m tgt ls rest)) (kf : a < b → W p l e R s m args below meth c H locs cells slots Q (F0 m (pc + 3) ls rest)) : W p l e R s m args below meth c H locs cells slots Q (F0 m pc ls (.int (iI b) :: .int (iI a) :: rest)) := lv_icmp_ge hx hb hdg ht (fun q => kt ((iI_le hb2 ha).mp q)) (fun q => kf (Int.not_le.mp (fun z => q ((iI_le hb2 ha).mpr z))))
theorem ir_gt (hx : p.tables.exec = Jvm.exec) (hb : c.code = cc) {a b : Int} {off : Int} {tgt : Nat} (hdg : decode cc pc = .ok (.if_icmp .gt off, 3)) (ht : (pc : Int) + off = (tgt : Int)) (ha : i32 a) (hb2 : i32 b)
    (kt : b < a → W p l e R s m args below meth c H locs cells slots Q (F0 m tgt ls rest)) (kf : a ≤ b → W p l e R s m args below meth c H locs cells slots Q (F0 m (pc + 3) ls rest)) : W p l e R s m args below meth c H locs cells slots Q (F0 m pc ls (.int (iI b) :: .int (iI a) :: rest)) := lv_icmp_gt hx hb hdg ht (fun q => kt ((iI_lt hb2 ha).mp q)) (fun q => kf (Int.not_lt.mp (fun z => q ((iI_lt hb2 ha).mpr z))))
theorem ir_le (hx : p.tables.exec = Jvm.exec) (hb : c.code = cc) {a b : Int} {off : Int} {tgt : Nat} (hdg : decode cc pc = .ok (.if_icmp .le off, 3)) (ht : (pc : Int) + off = (tgt : Int)) (ha : i32 a) (hb2 : i32 b)
    (kt : a ≤ b → W p l e R s m args below meth c H locs cells slots Q (F0 m tgt ls rest)) (kf : b < a → W p l e R s m args below meth c H locs cells slots Q (F0 m (pc + 3) ls rest)) : W p l e R s m args below meth c H locs cells slots Q (F0 m pc ls (.int (iI b) :: .int (iI a) :: rest)) := lv_icmp_le hx hb hdg ht (fun q => kt ((iI_le ha hb2).mp q)) (fun q => kf (Int.not_le.mp (fun z => q ((iI_le ha hb2).mpr z))))
theorem ir_if_eq (hx : p.tables.exec = Jvm.exec) (hb : c.code = cc) {a : Int} {off : Int} {tgt : Nat} (hdg : decode cc pc = .ok (.ifCond .eq off, 3)) (ht : (pc : Int) + off = (tgt : Int)) (ha : i32 a)
    (kt : a = 0 → W p l e R s m args below meth c H locs cells slots Q (F0 m tgt ls rest)) (kf : ¬ a = 0 → W p l e R s m args below meth c H locs cells slots Q (F0 m (pc + 3) ls rest)) : W p l e R s m args below meth c H locs cells slots Q (F0 m pc ls (.int (iI a) :: rest)) := lv_if_eq hx hb hdg ht (fun q => kt ((iI_eq ha ⟨by omega, by omega⟩).mp (by rw [iI_0]; exact q))) (fun q => kf (fun z => q (by rw [z]; exact iI_0)))
theorem ir_if_ne (hx : p.tables.exec = Jvm.exec) (hb : c.code = cc) {a : Int} {off : Int} {tgt : Nat} (hdg : decode cc pc = .ok (.ifCond .ne off, 3)) (ht : (pc : Int) + off = (tgt : Int)) (ha : i32 a)
    (kt : ¬ a = 0 → W p l e R s m args below meth c H locs cells slots Q (F0 m tgt ls rest)) (kf : a = 0 → W p l e R s m args below meth c H locs cells slots Q (F0 m (pc + 3) ls rest)) : W p l e R s m args below meth c H locs cells slots Q (F0 m pc ls (.int (iI a) :: rest)) := lv_if_ne hx hb hdg ht (fun q => kt (fun z => q (by rw [z]; exact iI_0))) (fun q => kf ((iI_eq ha ⟨by omega, by omega⟩).mp (by rw [iI_0]; exact q)))
theorem ir_if_lt (hx : p.tables.exec = Jvm.exec) (hb : c.code = cc) {a : Int} {off : Int} {tgt : Nat} (hdg : decode cc pc = .ok (.ifCond .lt off, 3)) (ht : (pc : Int) + off = (tgt : Int)) (ha : i32 a)
    (kt : a < 0 → W p l e R s m args below meth c H locs cells slots Q (F0 m tgt ls rest)) (kf : 0 ≤ a → W p l e R s m args below meth c H locs cells slots Q (F0 m (pc + 3) ls rest)) : W p l e R s m args below meth c H locs cells slots Q (F0 m pc ls (.int (iI a) :: rest)) := lv_if_lt hx hb hdg ht (fun q => kt ((iI_lt ha ⟨by omega, by omega⟩).mp (by rw [iI_0]; exact q))) (fun q => kf (Int.not_lt.mp (fun z => q (by rw [← iI_0]; exact (iI_lt ha ⟨by omega, by omega⟩).mpr z))))
theorem ir_if_ge (hx : p.tables.exec = Jvm.exec) (hb : c.code = cc) {a : Int} {off : Int} {tgt : Nat} (hdg : decode cc pc = .ok (.ifCond .ge off, 3)) (ht : (pc : Int) + off = (tgt : Int)) (ha : i32 a)
    (kt : 0 ≤ a → W p l e R s m args below meth c H locs cells slots Q (F0 m tgt ls rest)) (kf : a < 0 → W p l e R s m args below meth c H locs cells slots Q (F0 m (pc + 3) ls rest)) : W p l e R s m args below meth c H locs cells slots Q (F0 m pc ls (.int (iI a) :: rest)) := lv_if_ge hx hb hdg ht (fun q => kt ((iI_le ⟨by omega, by omega⟩ ha).mp (by rw [iI_0]; exact q))) (fun q => kf (Int.not_le.mp (fun z => q (by rw [← iI_0]; exact (iI_le ⟨by omega, by omega⟩ ha).mpr z))))
theorem ir_if_gt (hx : p.tables.exec = Jvm.exec) (hb : c.code = cc) {a : Int} {off : Int} {tgt : Nat} (hdg : decode cc pc = .ok (.ifCond .gt off, 3)) (ht : (pc : Int) + off = (tgt : Int)) (ha : i32 a)
    (kt : 0 < a → W p l e R s m args below meth c H locs cells slots Q (F0 m tgt ls rest)) (kf : a ≤ 0 → W p l e R s m args below meth c H locs cells slots Q (F0 m (pc + 3) ls rest)) : W p l e R s m args below meth c H locs cells slots Q (F0 m pc ls (.int (iI a) :: rest)) := lv_if_gt hx hb hdg ht (fun q => kt ((iI_lt ⟨by omega, by omega⟩ ha).mp (by rw [iI_0]; exact q))) (fun q => kf (Int.not_lt.mp (fun z => q (by rw [← iI_0]; exact (iI_lt ⟨by omega, by omega⟩ ha).mpr z))))
theorem ir_if_le (hx : p.tables.exec = Jvm.exec) (hb : c.code = cc) {a : Int} {off : Int} {tgt : Nat} (hdg : decode cc pc = .ok (.ifCond .le off, 3)) (ht : (pc : Int) + off = (tgt : Int)) (ha : i32 a)
    (kt : a ≤ 0 → W p l e R s m args below meth c H locs cells slots Q (F0 m tgt ls rest)) (kf : 0 < a → W p l e R s m args below meth c H locs cells slots Q (F0 m (pc + 3) ls rest)) : W p l e R s m args below meth c H locs cells slots Q (F0 m pc ls (.int (iI a) :: rest)) := lv_if_le hx hb hdg ht (fun q => kt ((iI_le ha ⟨by omega, by omega⟩).mp (by rw [iI_0]; exact q))) (fun q => kf (Int.not_le.mp (fun z => q (by rw [← iI_0]; exact (iI_le ha ⟨by omega, by omega⟩).mpr z))))
end IR
end
section
/-! ONE WORLD: all cells of the class, of the reference and of the law, by their numbers; a state is what each cell holds, as integers -/
abbrev St : Type := Nat → Nat → Int
abbrev Gt : Type := va_G × (Nat → Nat) × (Nat → ClassId) × Nat
abbrev gA (G : Gt) : Nat → Prop := fun q => G.2.2.2 ≤ q
def s_up (S : St) (q i : Nat) (x : Int) : St := va_up S q (va_up (S q) i x)
theorem s_up_self (S : St) (q i : Nat) (x : Int) : s_up S q i x q i = x := by simp [s_up, va_up]
theorem s_up_cell {S : St} {q k i : Nat} {x : Int} (h : k ≠ q) : s_up S q i x k = S k := by simp [s_up, va_up, h]
theorem s_up_ne {S : St} {q i j : Nat} {x : Int} (h : j ≠ i) : s_up S q i x q j = S q j := by simp [s_up, va_up, h]
theorem s_up_at (S : St) (q i k j : Nat) (x : Int) : s_up S q i x k j = if k = q ∧ j = i then x else S k j := by
  unfold s_up va_up
  by_cases h1 : k = q
  · subst h1
    by_cases h2 : j = i <;> simp [h2]
  · simp [h1]
def lI (z : Int) : Int64 := Int64.ofInt z
def cellOf (G : Gt) (k : Nat) (c : Nat → Int) : va_E := match k with
  | 0 => .inr (3, [.ref (G.2.1 1), .ref (G.2.1 2), .ref (G.2.1 3), .ref (G.2.1 4), .ref (G.2.1 5), .int (iI (c 5)), .int (iI (c 6))])
  | 1 => .inr (1, [.int (iI (c 0)), .ref (G.2.1 6), .ref (G.2.1 7), .ref (G.2.1 8), .ref (G.2.1 9), .ref (G.2.1 10), .ref (G.2.1 11), .ref (G.2.1 12), .ref (G.2.1 13)])
  | 2 => .inr (2, [.int (iI (c 0)), .ref (G.2.1 14), .ref (G.2.1 15), .ref (G.2.1 16)])
  | 3 => .inr (0, [.int (iI (c 0)), .ref (G.2.1 17), .ref (G.2.1 18), .ref (G.2.1 19), .ref (G.2.1 20), .ref (G.2.1 21), .ref (G.2.1 22), .ref (G.2.1 23), .ref (G.2.1 24)])
  | 4 => .inl (G.2.2.1 0, 8, .inl (fun j => iI (c j)))
  | 5 => .inl (G.2.2.1 0, 4, .inl (fun j => iI (c j)))
  | 6 => .inl (G.2.2.1 0, 12, .inl (fun j => iI (c j)))
  | 7 => .inl (G.2.2.1 0, 12, .inl (fun j => iI (c j)))
  | 8 => .inl (G.2.2.1 0, 12, .inl (fun j => iI (c j)))
  | 9 => .inl (G.2.2.1 0, 12, .inl (fun j => iI (c j)))
  | 10 => .inl (G.2.2.1 0, 60, .inl (fun j => iI (c j)))
  | 11 => .inl (G.2.2.1 0, 12, .inl (fun j => iI (c j)))
  | 12 => .inl (G.2.2.1 0, 48, .inl (fun j => iI (c j)))
  | 13 => .inl (G.2.2.1 0, 48, .inl (fun j => iI (c j)))
  | 14 => .inl (G.2.2.1 0, 12, .inl (fun j => iI (c j)))
  | 15 => .inl (G.2.2.1 0, 12, .inl (fun j => iI (c j)))
  | 16 => .inl (G.2.2.1 0, 12, .inl (fun j => iI (c j)))
  | 17 => .inl (G.2.2.1 1, 31, .inl (fun j => iI (c j)))
  | 18 => .inl (G.2.2.1 0, 31, .inl (fun j => iI (c j)))
  | 19 => .inl (G.2.2.1 0, 31, .inl (fun j => iI (c j)))
  | 20 => .inl (G.2.2.1 0, 31, .inl (fun j => iI (c j)))
  | 21 => .inl (G.2.2.1 0, 217, .inl (fun j => iI (c j)))
  | 22 => .inl (G.2.2.1 1, 217, .inl (fun j => iI (c j)))
  | 23 => .inl (G.2.2.1 0, 248, .inl (fun j => iI (c j)))
  | 24 => .inl (G.2.2.1 0, 372, .inl (fun j => iI (c j)))
  | 25 => .inr (4, [.int (iI (c 0)), .int (iI (c 1)), .ref (G.2.1 26), .ref (G.2.1 27), .ref (G.2.1 28), .ref (G.2.1 29), .ref (G.2.1 30), .ref (G.2.1 31), .ref (G.2.1 32), .ref (G.2.1 33), .int (iI (c 10)), .ref (G.2.1 34), .ref (G.2.1 35), .ref (G.2.1 36), .int (iI (c 14)), .int (iI (c 15)), .int (iI (c 16)), .ref (G.2.1 37), .ref (G.2.1 38), .ref (G.2.1 39), .ref (G.2.1 40), .ref (G.2.1 41), .ref (G.2.1 42), .ref (G.2.1 43)])
  | 26 => .inl (G.2.2.1 0, 12, .inl (fun j => iI (c j)))
  | 27 => .inl (G.2.2.1 0, 12, .inl (fun j => iI (c j)))
  | 28 => .inl (G.2.2.1 0, 12, .inl (fun j => iI (c j)))
  | 29 => .inl (G.2.2.1 0, 12, .inl (fun j => iI (c j)))
  | 30 => .inl (G.2.2.1 0, 60, .inl (fun j => iI (c j)))
  | 31 => .inl (G.2.2.1 0, 12, .inl (fun j => iI (c j)))
  | 32 => .inl (G.2.2.1 0, 48, .inl (fun j => iI (c j)))
  | 33 => .inl (G.2.2.1 0, 48, .inl (fun j => iI (c j)))
  | 34 => .inl (G.2.2.1 0, 12, .inl (fun j => iI (c j)))
  | 35 => .inl (G.2.2.1 0, 12, .inl (fun j => iI (c j)))
  | 36 => .inl (G.2.2.1 0, 12, .inl (fun j => iI (c j)))
  | 37 => .inl (G.2.2.1 0, 31, .inl (fun j => iI (c j)))
  | 38 => .inl (G.2.2.1 0, 31, .inl (fun j => iI (c j)))
  | 39 => .inl (G.2.2.1 1, 31, .inl (fun j => iI (c j)))
  | 40 => .inl (G.2.2.1 0, 31, .inl (fun j => iI (c j)))
  | 41 => .inl (G.2.2.1 0, 248, .inl (fun j => iI (c j)))
  | 42 => .inl (G.2.2.1 0, 248, .inl (fun j => iI (c j)))
  | 43 => .inl (G.2.2.1 0, 8, .inl (fun j => iI (c j)))
  | 44 => .inl (G.2.2.1 2, 1, .inr (.inl (fun j => lI (c j))))
  | _ => .inr (0, [])
def wld (G : Gt) (S : St) : va_W := (List.range 45).map fun k => (G.2.1 k, cellOf G k (S k))
theorem wd_at (G : Gt) (S : St) {q : Nat} (h : q < 45) : (wld G S)[q]? = some (G.2.1 q, cellOf G q (S q)) := by
  simp [wld, List.getElem?_map, List.getElem?_range h]
theorem wd_set (G : Gt) (S : St) {q : Nat} (h : q < 45) (c : Nat → Int) : (wld G S).set q (G.2.1 q, cellOf G q c) = wld G (va_up S q c) := by
  apply List.ext_getElem?
  intro i
  by_cases hi : i < 45
  · rw [wd_at G _ hi, List.getElem?_set]
    by_cases hq : q = i
    · subst hq
      simp [wld, hi, va_up]
    · have hq2 : ¬ i = q := fun z => hq z.symm
      rw [if_neg hq, wd_at G S hi]
      simp [va_up, hq2]
  · rw [List.getElem?_eq_none (by simp [wld]; omega), List.getElem?_eq_none (by simp [wld]; omega)]
abbrev tysG (G : Gt) : List (ClassId × FieldType) := [(G.2.2.1 0, .int), (G.2.2.1 1, .boolean), (G.2.2.1 2, .long)]
/-- the world in a walk: what the tables say of the classes, what the cells hold, that they are apart and new, that nothing old has changed since the method's start -/
def wh (G : Gt) (S : St) (s : State) (H : Heap) (locs : List Loc) : Prop := va_K G.1 cls_all (tysG G) s ∧ va_P G.1 cls_all (wld G S) H ∧ va_D (gA G) (wld G S) ∧ va_S (gA G) s.heap H locs
/-- the same at a method's start or end -/
def wu (G : Gt) (S : St) (U : State) : Prop := va_K G.1 cls_all (tysG G) U ∧ va_P G.1 cls_all (wld G S) U.heap ∧ va_D (gA G) (wld G S) ∧ ∀ w ∈ tws, w.before #[] U = true
theorem nar_b {x : Int} (h : x = 0 ∨ x = 1) : narrow .boolean (.int (iI x)) = .int (iI x) := by
  rcases h with rfl | rfl <;> decide +kernel
theorem fit_b {x : Int} (h : x = 0 ∨ x = 1) : fits .boolean (.int (iI x)) = true := by
  rcases h with rfl | rfl <;> decide +kernel
theorem vpn_b {x : Int} (h : x = 0 ∨ x = 1) : vp_nar .boolean (iI x) = iI x := by
  rcases h with rfl | rfl <;> decide +kernel
theorem upd_iI (f : Nat → Int) (z : Int) (h0 : 0 ≤ z) (h1 : z ≤ 2147483647) (x : Int) : upd (fun j => iI (f j)) (iI z).toNatClampNeg (iI x) = fun j => iI (va_up f z.toNat x j) := by
  rw [iI_clamp h0 h1]
  funext j
  unfold upd va_up
  by_cases hj : j = z.toNat <;> simp [hj]
section WR
variable {p : Program} {l : Launch} {e : Env} {R : Room} {s : State} {m : MethodId} {args : Array Value} {below : List Frame} {meth : Method} {c : Code} {H : Heap} {locs : List Loc} {cells slots : Nat} {Q : State → Prop}
variable {cc : ByteArray} {pc nL : Nat} {ls : Array Slot} {rest : List Value} {G : Gt} {S : St} {own : String}
theorem wd_get {C : String} {T : u_T} {N ci index : Nat} (hC : CallFix p m c cc nL s args tws own) (hin : ∀ w ∈ u_ws C T N, w ∈ tws) (hw : wh G S s H locs) (q : Nat) (hq : q < 45) {fs : List Value} (he : cellOf G q (S q) = .inr (ci, fs)) (hc : cls_all[ci]? = some (C, T, N)) (k : Nat) (hk : k < N) (hlink : (Cond.fieldLink own index (T k).1 (T k).2.1 (T k).2.2.1).before args s = true) {v : Value} (hv : fs[k]? = some v) (hdg : decode cc pc = .ok (.getfield index, 3))
    (kk : W p l e R s m args below meth c H locs cells slots Q (F0 m (pc + 3) ls (v :: rest))) : W p l e R s m args below meth c H locs cells slots Q (F0 m pc ls (.ref (G.2.1 q) :: rest)) :=
  va_get hC.1 hC.2.1 hC.2.2.2.2 hin hC.2.2.2.1 hw.1 hw.2.1 q (by rw [wd_at G S hq, he]) hc k hk hlink (fun _ h => h) hv hdg kk
theorem wd_put {C : String} {T : u_T} {N ci index : Nat} (hC : CallFix p m c cc nL s args tws own) (hin : ∀ w ∈ u_ws C T N, w ∈ tws) (ty0 : Nat → FieldType) (hty : ∀ k, k < N → parseFieldDescriptor (T k).2.2.1 = some (ty0 k)) (hnm : ∀ a, a < N → ∀ b, b < N → a ≠ b → (T a).2.1 ≠ (T b).2.1) (hw : wh G S s H locs) (q : Nat) (hq : q < 45) {fs : List Value} (he : cellOf G q (S q) = .inr (ci, fs)) (hc : cls_all[ci]? = some (C, T, N)) (k : Nat) (hk : k < N) (hlink : (Cond.fieldLink own index (T k).1 (T k).2.1 (T k).2.2.1).before args s = true) (hfin : (T k).2.2.2 = false) {x : Int} (hn : narrow (ty0 k) (.int (iI x)) = .int (iI x)) (hfit : fits (ty0 k) (.int (iI x)) = true) (hl : k < fs.length) (he2 : cellOf G q (va_up (S q) k x) = .inr (ci, fs.set k (.int (iI x)))) (hdg : decode cc pc = .ok (.putfield index, 3))
    (kk : ∀ (H : Heap) (locs : List Loc), wh G (s_up S q k x) s H locs → W p l e R s m args below meth c H locs cells slots Q (F0 m (pc + 3) ls rest)) : W p l e R s m args below meth c H locs cells slots Q (F0 m pc ls (.int (iI x) :: .ref (G.2.1 q) :: rest)) := by
  refine va_put hC.1 hC.2.1 hC.2.2.2.2 hin ty0 hty hnm hC.2.2.2.1 hw.1 hw.2.1 hw.2.2.1 hw.2.2.2 q (by rw [wd_at G S hq, he]) hc k hk hlink (fun _ h => h) hfin (hty k hk) hn hfit hl hdg (fun H locs hP hD hS => ?_)
  rw [← he2, wd_set G S hq] at hP hD
  exact kk H locs ⟨hw.1, hP, hD, hS⟩
theorem wd_ald (hC : CallFix p m c cc nL s args tws own) (hw : wh G S s H locs) (q : Nat) (hq : q < 45) {n : Nat} (he : cellOf G q (S q) = .inl (G.2.2.1 0, n, .inl (fun j => iI (S q j)))) (hn : n < 2147483648) {z : Int} (h0 : 0 ≤ z) (h1 : z < n) (hdg : decode cc pc = .ok (.iaload, 1))
    (kk : W p l e R s m args below meth c H locs cells slots Q (F0 m (pc + 1) ls (.int (iI (S q z.toNat)) :: rest))) : W p l e R s m args below meth c H locs cells slots Q (F0 m pc ls (.int (iI z) :: .ref (G.2.1 q) :: rest)) := by
  refine va_iald hC.1 hC.2.1 hw.1 hw.2.1 q 0 (by rw [wd_at G S hq, he]) rfl (iI_in h0 h1 hn) hdg ?_
  rw [iI_clamp h0 (by omega)]
  exact kk
theorem wd_zld (hC : CallFix p m c cc nL s args tws own) (hw : wh G S s H locs) (q : Nat) (hq : q < 45) {n : Nat} (he : cellOf G q (S q) = .inl (G.2.2.1 1, n, .inl (fun j => iI (S q j)))) (hn : n < 2147483648) {z : Int} (h0 : 0 ≤ z) (h1 : z < n) (hdg : decode cc pc = .ok (.baload, 1))
    (kk : W p l e R s m args below meth c H locs cells slots Q (F0 m (pc + 1) ls (.int (iI (S q z.toNat)) :: rest))) : W p l e R s m args below meth c H locs cells slots Q (F0 m pc ls (.int (iI z) :: .ref (G.2.1 q) :: rest)) := by
  refine va_zald hC.1 hC.2.1 hw.1 hw.2.1 q 1 (by rw [wd_at G S hq, he]) rfl (iI_in h0 h1 hn) hdg ?_
  rw [iI_clamp h0 (by omega)]
  exact kk
theorem wd_ast (hC : CallFix p m c cc nL s args tws own) (hw : wh G S s H locs) (q : Nat) (hq : q < 45) {n : Nat} (he : ∀ c : Nat → Int, cellOf G q c = .inl (G.2.2.1 0, n, .inl (fun j => iI (c j)))) (hn : n < 2147483648) {z x : Int} (h0 : 0 ≤ z) (h1 : z < n) (hdg : decode cc pc = .ok (.iastore, 1))
    (kk : ∀ (H : Heap) (locs : List Loc), wh G (s_up S q z.toNat x) s H locs → W p l e R s m args below meth c H locs cells slots Q (F0 m (pc + 1) ls rest)) : W p l e R s m args below meth c H locs cells slots Q (F0 m pc ls (.int (iI x) :: .int (iI z) :: .ref (G.2.1 q) :: rest)) := by
  refine va_iast hC.1 hC.2.1 hw.1 hw.2.1 hw.2.2.1 hw.2.2.2 q 0 (by rw [wd_at G S hq, he]) rfl (iI_in h0 h1 hn) hdg (fun H locs hP hD hS => ?_)
  rw [upd_iI (S q) z h0 (by omega) x, ← he (va_up (S q) z.toNat x), wd_set G S hq] at hP hD
  exact kk H locs ⟨hw.1, hP, hD, hS⟩
theorem wd_zst (hC : CallFix p m c cc nL s args tws own) (hw : wh G S s H locs) (q : Nat) (hq : q < 45) {n : Nat} (he : ∀ c : Nat → Int, cellOf G q c = .inl (G.2.2.1 1, n, .inl (fun j => iI (c j)))) (hn : n < 2147483648) {z x : Int} (h0 : 0 ≤ z) (h1 : z < n) (hb : x = 0 ∨ x = 1) (hdg : decode cc pc = .ok (.bastore, 1))
    (kk : ∀ (H : Heap) (locs : List Loc), wh G (s_up S q z.toNat x) s H locs → W p l e R s m args below meth c H locs cells slots Q (F0 m (pc + 1) ls rest)) : W p l e R s m args below meth c H locs cells slots Q (F0 m pc ls (.int (iI x) :: .int (iI z) :: .ref (G.2.1 q) :: rest)) := by
  refine va_zast hC.1 hC.2.1 hw.1 hw.2.1 hw.2.2.1 hw.2.2.2 q 1 (by rw [wd_at G S hq, he]) rfl (iI_in h0 h1 hn) hdg (fun H locs hP hD hS => ?_)
  rw [vpn_b hb, upd_iI (S q) z h0 (by omega) x, ← he (va_up (S q) z.toNat x), wd_set G S hq] at hP hD
  exact kk H locs ⟨hw.1, hP, hD, hS⟩
theorem gf_cr_12 (hC : CallFix p m c cc nL s args tws "ChannelRules") (hw : wh G S s H locs) (hdg : decode cc pc = .ok (.getfield 12, 3)) (kk : W p l e R s m args below meth c H locs cells slots Q (F0 m (pc + 3) ls (.ref (G.2.1 1) :: rest))) : W p l e R s m args below meth c H locs cells slots Q (F0 m pc ls (.ref (G.2.1 0) :: rest)) := wd_get hC in_cr hw 0 (by decide) rfl rfl 0 (by decide) (hC.2.2.2.2 _ tw_125) rfl hdg kk
theorem gf_cr_19 (hC : CallFix p m c cc nL s args tws "ChannelRules") (hw : wh G S s H locs) (hdg : decode cc pc = .ok (.getfield 19, 3)) (kk : W p l e R s m args below meth c H locs cells slots Q (F0 m (pc + 3) ls (.ref (G.2.1 2) :: rest))) : W p l e R s m args below meth c H locs cells slots Q (F0 m pc ls (.ref (G.2.1 0) :: rest)) := wd_get hC in_cr hw 0 (by decide) rfl rfl 1 (by decide) (hC.2.2.2.2 _ tw_126) rfl hdg kk
theorem gf_cr_26 (hC : CallFix p m c cc nL s args tws "ChannelRules") (hw : wh G S s H locs) (hdg : decode cc pc = .ok (.getfield 26, 3)) (kk : W p l e R s m args below meth c H locs cells slots Q (F0 m (pc + 3) ls (.ref (G.2.1 3) :: rest))) : W p l e R s m args below meth c H locs cells slots Q (F0 m pc ls (.ref (G.2.1 0) :: rest)) := wd_get hC in_cr hw 0 (by decide) rfl rfl 2 (by decide) (hC.2.2.2.2 _ tw_127) rfl hdg kk
theorem gf_cr_30 (hC : CallFix p m c cc nL s args tws "ChannelRules") (hw : wh G S s H locs) (hdg : decode cc pc = .ok (.getfield 30, 3)) (kk : W p l e R s m args below meth c H locs cells slots Q (F0 m (pc + 3) ls (.ref (G.2.1 4) :: rest))) : W p l e R s m args below meth c H locs cells slots Q (F0 m pc ls (.ref (G.2.1 0) :: rest)) := wd_get hC in_cr hw 0 (by decide) rfl rfl 3 (by decide) (hC.2.2.2.2 _ tw_128) rfl hdg kk
theorem gf_cr_34 (hC : CallFix p m c cc nL s args tws "ChannelRules") (hw : wh G S s H locs) (hdg : decode cc pc = .ok (.getfield 34, 3)) (kk : W p l e R s m args below meth c H locs cells slots Q (F0 m (pc + 3) ls (.ref (G.2.1 5) :: rest))) : W p l e R s m args below meth c H locs cells slots Q (F0 m pc ls (.ref (G.2.1 0) :: rest)) := wd_get hC in_cr hw 0 (by decide) rfl rfl 4 (by decide) (hC.2.2.2.2 _ tw_129) rfl hdg kk
theorem gf_cr_37 (hC : CallFix p m c cc nL s args tws "ChannelRules") (hw : wh G S s H locs) (hdg : decode cc pc = .ok (.getfield 37, 3)) (kk : W p l e R s m args below meth c H locs cells slots Q (F0 m (pc + 3) ls (.int (iI (S 0 5)) :: rest))) : W p l e R s m args below meth c H locs cells slots Q (F0 m pc ls (.ref (G.2.1 0) :: rest)) := wd_get hC in_cr hw 0 (by decide) rfl rfl 5 (by decide) (hC.2.2.2.2 _ tw_130) rfl hdg kk
theorem pf_cr_37 {x : Int} (hC : CallFix p m c cc nL s args tws "ChannelRules") (hw : wh G S s H locs) (hb : x = 0 ∨ x = 1) (hdg : decode cc pc = .ok (.putfield 37, 3)) (kk : ∀ (H : Heap) (locs : List Loc), wh G (s_up S 0 5 x) s H locs → W p l e R s m args below meth c H locs cells slots Q (F0 m (pc + 3) ls rest)) : W p l e R s m args below meth c H locs cells slots Q (F0 m pc ls (.int (iI x) :: .ref (G.2.1 0) :: rest)) := wd_put hC in_cr ty_cr ty_cr_ok nm_cr hw 0 (by decide) rfl rfl 5 (by decide) (hC.2.2.2.2 _ tw_130) rfl (nar_b hb) (fit_b hb) (Nat.le_of_ble_eq_true rfl) rfl hdg kk
theorem gf_cr_41 (hC : CallFix p m c cc nL s args tws "ChannelRules") (hw : wh G S s H locs) (hdg : decode cc pc = .ok (.getfield 41, 3)) (kk : W p l e R s m args below meth c H locs cells slots Q (F0 m (pc + 3) ls (.int (iI (S 0 6)) :: rest))) : W p l e R s m args below meth c H locs cells slots Q (F0 m pc ls (.ref (G.2.1 0) :: rest)) := wd_get hC in_cr hw 0 (by decide) rfl rfl 6 (by decide) (hC.2.2.2.2 _ tw_131) rfl hdg kk
theorem pf_cr_41 {x : Int} (hC : CallFix p m c cc nL s args tws "ChannelRules") (hw : wh G S s H locs) (hdg : decode cc pc = .ok (.putfield 41, 3)) (kk : ∀ (H : Heap) (locs : List Loc), wh G (s_up S 0 6 x) s H locs → W p l e R s m args below meth c H locs cells slots Q (F0 m (pc + 3) ls rest)) : W p l e R s m args below meth c H locs cells slots Q (F0 m pc ls (.int (iI x) :: .ref (G.2.1 0) :: rest)) := wd_put hC in_cr ty_cr ty_cr_ok nm_cr hw 0 (by decide) rfl rfl 6 (by decide) (hC.2.2.2.2 _ tw_131) rfl rfl rfl (Nat.le_of_ble_eq_true rfl) rfl hdg kk
theorem gf_cr_62 (hC : CallFix p m c cc nL s args tws "ChannelRules") (hw : wh G S s H locs) (hdg : decode cc pc = .ok (.getfield 62, 3)) (kk : W p l e R s m args below meth c H locs cells slots Q (F0 m (pc + 3) ls (.int (iI (S 1 0)) :: rest))) : W p l e R s m args below meth c H locs cells slots Q (F0 m pc ls (.ref (G.2.1 1) :: rest)) := wd_get hC in_pc hw 1 (by decide) rfl rfl 0 (by decide) (hC.2.2.2.2 _ tw_28) rfl hdg kk
theorem gf_cr_86 (hC : CallFix p m c cc nL s args tws "ChannelRules") (hw : wh G S s H locs) (hdg : decode cc pc = .ok (.getfield 86, 3)) (kk : W p l e R s m args below meth c H locs cells slots Q (F0 m (pc + 3) ls (.int (iI (S 2 0)) :: rest))) : W p l e R s m args below meth c H locs cells slots Q (F0 m pc ls (.ref (G.2.1 2) :: rest)) := wd_get hC in_sh hw 2 (by decide) rfl rfl 0 (by decide) (hC.2.2.2.2 _ tw_69) rfl hdg kk
theorem gf_cr_104 (hC : CallFix p m c cc nL s args tws "ChannelRules") (hw : wh G S s H locs) (hdg : decode cc pc = .ok (.getfield 104, 3)) (kk : W p l e R s m args below meth c H locs cells slots Q (F0 m (pc + 3) ls (.ref (G.2.1 20) :: rest))) : W p l e R s m args below meth c H locs cells slots Q (F0 m pc ls (.ref (G.2.1 3) :: rest)) := wd_get hC in_ps hw 3 (by decide) rfl rfl 4 (by decide) (hC.2.2.2.2 _ tw_100) rfl hdg kk
theorem gf_cr_110 (hC : CallFix p m c cc nL s args tws "ChannelRules") (hw : wh G S s H locs) (hdg : decode cc pc = .ok (.getfield 110, 3)) (kk : W p l e R s m args below meth c H locs cells slots Q (F0 m (pc + 3) ls (.int (iI (S 3 0)) :: rest))) : W p l e R s m args below meth c H locs cells slots Q (F0 m pc ls (.ref (G.2.1 3) :: rest)) := wd_get hC in_ps hw 3 (by decide) rfl rfl 0 (by decide) (hC.2.2.2.2 _ tw_92) rfl hdg kk
theorem gf_cr_115 (hC : CallFix p m c cc nL s args tws "ChannelRules") (hw : wh G S s H locs) (hdg : decode cc pc = .ok (.getfield 115, 3)) (kk : W p l e R s m args below meth c H locs cells slots Q (F0 m (pc + 3) ls (.ref (G.2.1 19) :: rest))) : W p l e R s m args below meth c H locs cells slots Q (F0 m pc ls (.ref (G.2.1 3) :: rest)) := wd_get hC in_ps hw 3 (by decide) rfl rfl 3 (by decide) (hC.2.2.2.2 _ tw_98) rfl hdg kk
theorem gf_cr_142 (hC : CallFix p m c cc nL s args tws "ChannelRules") (hw : wh G S s H locs) (hdg : decode cc pc = .ok (.getfield 142, 3)) (kk : W p l e R s m args below meth c H locs cells slots Q (F0 m (pc + 3) ls (.ref (G.2.1 17) :: rest))) : W p l e R s m args below meth c H locs cells slots Q (F0 m pc ls (.ref (G.2.1 3) :: rest)) := wd_get hC in_ps hw 3 (by decide) rfl rfl 1 (by decide) (hC.2.2.2.2 _ tw_94) rfl hdg kk
theorem gf_cr_148 (hC : CallFix p m c cc nL s args tws "ChannelRules") (hw : wh G S s H locs) (hdg : decode cc pc = .ok (.getfield 148, 3)) (kk : W p l e R s m args below meth c H locs cells slots Q (F0 m (pc + 3) ls (.ref (G.2.1 11) :: rest))) : W p l e R s m args below meth c H locs cells slots Q (F0 m pc ls (.ref (G.2.1 1) :: rest)) := wd_get hC in_pc hw 1 (by decide) rfl rfl 6 (by decide) (hC.2.2.2.2 _ tw_39) rfl hdg kk
theorem gf_cr_197 (hC : CallFix p m c cc nL s args tws "ChannelRules") (hw : wh G S s H locs) (hdg : decode cc pc = .ok (.getfield 197, 3)) (kk : W p l e R s m args below meth c H locs cells slots Q (F0 m (pc + 3) ls (.ref (G.2.1 6) :: rest))) : W p l e R s m args below meth c H locs cells slots Q (F0 m pc ls (.ref (G.2.1 1) :: rest)) := wd_get hC in_pc hw 1 (by decide) rfl rfl 1 (by decide) (hC.2.2.2.2 _ tw_30) rfl hdg kk
theorem gf_cr_217 (hC : CallFix p m c cc nL s args tws "ChannelRules") (hw : wh G S s H locs) (hdg : decode cc pc = .ok (.getfield 217, 3)) (kk : W p l e R s m args below meth c H locs cells slots Q (F0 m (pc + 3) ls (.ref (G.2.1 7) :: rest))) : W p l e R s m args below meth c H locs cells slots Q (F0 m pc ls (.ref (G.2.1 1) :: rest)) := wd_get hC in_pc hw 1 (by decide) rfl rfl 2 (by decide) (hC.2.2.2.2 _ tw_32) rfl hdg kk
theorem gf_cr_220 (hC : CallFix p m c cc nL s args tws "ChannelRules") (hw : wh G S s H locs) (hdg : decode cc pc = .ok (.getfield 220, 3)) (kk : W p l e R s m args below meth c H locs cells slots Q (F0 m (pc + 3) ls (.ref (G.2.1 9) :: rest))) : W p l e R s m args below meth c H locs cells slots Q (F0 m pc ls (.ref (G.2.1 1) :: rest)) := wd_get hC in_pc hw 1 (by decide) rfl rfl 4 (by decide) (hC.2.2.2.2 _ tw_36) rfl hdg kk
theorem gf_cr_223 (hC : CallFix p m c cc nL s args tws "ChannelRules") (hw : wh G S s H locs) (hdg : decode cc pc = .ok (.getfield 223, 3)) (kk : W p l e R s m args below meth c H locs cells slots Q (F0 m (pc + 3) ls (.ref (G.2.1 14) :: rest))) : W p l e R s m args below meth c H locs cells slots Q (F0 m pc ls (.ref (G.2.1 2) :: rest)) := wd_get hC in_sh hw 2 (by decide) rfl rfl 1 (by decide) (hC.2.2.2.2 _ tw_71) rfl hdg kk
theorem gf_cr_224 (hC : CallFix p m c cc nL s args tws "ChannelRules") (hw : wh G S s H locs) (hdg : decode cc pc = .ok (.getfield 224, 3)) (kk : W p l e R s m args below meth c H locs cells slots Q (F0 m (pc + 3) ls (.ref (G.2.1 15) :: rest))) : W p l e R s m args below meth c H locs cells slots Q (F0 m pc ls (.ref (G.2.1 2) :: rest)) := wd_get hC in_sh hw 2 (by decide) rfl rfl 2 (by decide) (hC.2.2.2.2 _ tw_73) rfl hdg kk
theorem gf_cr_227 (hC : CallFix p m c cc nL s args tws "ChannelRules") (hw : wh G S s H locs) (hdg : decode cc pc = .ok (.getfield 227, 3)) (kk : W p l e R s m args below meth c H locs cells slots Q (F0 m (pc + 3) ls (.ref (G.2.1 8) :: rest))) : W p l e R s m args below meth c H locs cells slots Q (F0 m pc ls (.ref (G.2.1 1) :: rest)) := wd_get hC in_pc hw 1 (by decide) rfl rfl 3 (by decide) (hC.2.2.2.2 _ tw_34) rfl hdg kk
theorem gf_cr_251 (hC : CallFix p m c cc nL s args tws "ChannelRules") (hw : wh G S s H locs) (hdg : decode cc pc = .ok (.getfield 251, 3)) (kk : W p l e R s m args below meth c H locs cells slots Q (F0 m (pc + 3) ls (.ref (G.2.1 16) :: rest))) : W p l e R s m args below meth c H locs cells slots Q (F0 m pc ls (.ref (G.2.1 2) :: rest)) := wd_get hC in_sh hw 2 (by decide) rfl rfl 3 (by decide) (hC.2.2.2.2 _ tw_75) rfl hdg kk
theorem gf_cr_254 (hC : CallFix p m c cc nL s args tws "ChannelRules") (hw : wh G S s H locs) (hdg : decode cc pc = .ok (.getfield 254, 3)) (kk : W p l e R s m args below meth c H locs cells slots Q (F0 m (pc + 3) ls (.ref (G.2.1 18) :: rest))) : W p l e R s m args below meth c H locs cells slots Q (F0 m pc ls (.ref (G.2.1 3) :: rest)) := wd_get hC in_ps hw 3 (by decide) rfl rfl 2 (by decide) (hC.2.2.2.2 _ tw_96) rfl hdg kk
theorem gf_ps_9 (hC : CallFix p m c cc nL s args tws "ChannelRules$Passages") (hw : wh G S s H locs) (hdg : decode cc pc = .ok (.getfield 9, 3)) (kk : W p l e R s m args below meth c H locs cells slots Q (F0 m (pc + 3) ls (.int (iI (S 3 0)) :: rest))) : W p l e R s m args below meth c H locs cells slots Q (F0 m pc ls (.ref (G.2.1 3) :: rest)) := wd_get hC in_ps hw 3 (by decide) rfl rfl 0 (by decide) (hC.2.2.2.2 _ tw_91) rfl hdg kk
theorem pf_ps_9 {x : Int} (hC : CallFix p m c cc nL s args tws "ChannelRules$Passages") (hw : wh G S s H locs) (hdg : decode cc pc = .ok (.putfield 9, 3)) (kk : ∀ (H : Heap) (locs : List Loc), wh G (s_up S 3 0 x) s H locs → W p l e R s m args below meth c H locs cells slots Q (F0 m (pc + 3) ls rest)) : W p l e R s m args below meth c H locs cells slots Q (F0 m pc ls (.int (iI x) :: .ref (G.2.1 3) :: rest)) := wd_put hC in_ps ty_ps ty_ps_ok nm_ps hw 3 (by decide) rfl rfl 0 (by decide) (hC.2.2.2.2 _ tw_91) rfl rfl rfl (Nat.le_of_ble_eq_true rfl) rfl hdg kk
theorem gf_ps_15 (hC : CallFix p m c cc nL s args tws "ChannelRules$Passages") (hw : wh G S s H locs) (hdg : decode cc pc = .ok (.getfield 15, 3)) (kk : W p l e R s m args below meth c H locs cells slots Q (F0 m (pc + 3) ls (.ref (G.2.1 17) :: rest))) : W p l e R s m args below meth c H locs cells slots Q (F0 m pc ls (.ref (G.2.1 3) :: rest)) := wd_get hC in_ps hw 3 (by decide) rfl rfl 1 (by decide) (hC.2.2.2.2 _ tw_93) rfl hdg kk
theorem gf_ps_19 (hC : CallFix p m c cc nL s args tws "ChannelRules$Passages") (hw : wh G S s H locs) (hdg : decode cc pc = .ok (.getfield 19, 3)) (kk : W p l e R s m args below meth c H locs cells slots Q (F0 m (pc + 3) ls (.ref (G.2.1 18) :: rest))) : W p l e R s m args below meth c H locs cells slots Q (F0 m pc ls (.ref (G.2.1 3) :: rest)) := wd_get hC in_ps hw 3 (by decide) rfl rfl 2 (by decide) (hC.2.2.2.2 _ tw_95) rfl hdg kk
theorem gf_ps_23 (hC : CallFix p m c cc nL s args tws "ChannelRules$Passages") (hw : wh G S s H locs) (hdg : decode cc pc = .ok (.getfield 23, 3)) (kk : W p l e R s m args below meth c H locs cells slots Q (F0 m (pc + 3) ls (.ref (G.2.1 19) :: rest))) : W p l e R s m args below meth c H locs cells slots Q (F0 m pc ls (.ref (G.2.1 3) :: rest)) := wd_get hC in_ps hw 3 (by decide) rfl rfl 3 (by decide) (hC.2.2.2.2 _ tw_97) rfl hdg kk
theorem gf_ps_26 (hC : CallFix p m c cc nL s args tws "ChannelRules$Passages") (hw : wh G S s H locs) (hdg : decode cc pc = .ok (.getfield 26, 3)) (kk : W p l e R s m args below meth c H locs cells slots Q (F0 m (pc + 3) ls (.ref (G.2.1 20) :: rest))) : W p l e R s m args below meth c H locs cells slots Q (F0 m pc ls (.ref (G.2.1 3) :: rest)) := wd_get hC in_ps hw 3 (by decide) rfl rfl 4 (by decide) (hC.2.2.2.2 _ tw_99) rfl hdg kk
theorem gf_ps_29 (hC : CallFix p m c cc nL s args tws "ChannelRules$Passages") (hw : wh G S s H locs) (hdg : decode cc pc = .ok (.getfield 29, 3)) (kk : W p l e R s m args below meth c H locs cells slots Q (F0 m (pc + 3) ls (.ref (G.2.1 21) :: rest))) : W p l e R s m args below meth c H locs cells slots Q (F0 m pc ls (.ref (G.2.1 3) :: rest)) := wd_get hC in_ps hw 3 (by decide) rfl rfl 5 (by decide) (hC.2.2.2.2 _ tw_101) rfl hdg kk
theorem gf_ps_32 (hC : CallFix p m c cc nL s args tws "ChannelRules$Passages") (hw : wh G S s H locs) (hdg : decode cc pc = .ok (.getfield 32, 3)) (kk : W p l e R s m args below meth c H locs cells slots Q (F0 m (pc + 3) ls (.ref (G.2.1 22) :: rest))) : W p l e R s m args below meth c H locs cells slots Q (F0 m pc ls (.ref (G.2.1 3) :: rest)) := wd_get hC in_ps hw 3 (by decide) rfl rfl 6 (by decide) (hC.2.2.2.2 _ tw_102) rfl hdg kk
theorem gf_ps_35 (hC : CallFix p m c cc nL s args tws "ChannelRules$Passages") (hw : wh G S s H locs) (hdg : decode cc pc = .ok (.getfield 35, 3)) (kk : W p l e R s m args below meth c H locs cells slots Q (F0 m (pc + 3) ls (.ref (G.2.1 23) :: rest))) : W p l e R s m args below meth c H locs cells slots Q (F0 m pc ls (.ref (G.2.1 3) :: rest)) := wd_get hC in_ps hw 3 (by decide) rfl rfl 7 (by decide) (hC.2.2.2.2 _ tw_103) rfl hdg kk
theorem gf_ps_38 (hC : CallFix p m c cc nL s args tws "ChannelRules$Passages") (hw : wh G S s H locs) (hdg : decode cc pc = .ok (.getfield 38, 3)) (kk : W p l e R s m args below meth c H locs cells slots Q (F0 m (pc + 3) ls (.ref (G.2.1 24) :: rest))) : W p l e R s m args below meth c H locs cells slots Q (F0 m pc ls (.ref (G.2.1 3) :: rest)) := wd_get hC in_ps hw 3 (by decide) rfl rfl 8 (by decide) (hC.2.2.2.2 _ tw_104) rfl hdg kk
theorem gf_pc_9 (hC : CallFix p m c cc nL s args tws "ChannelRules$Pieces") (hw : wh G S s H locs) (hdg : decode cc pc = .ok (.getfield 9, 3)) (kk : W p l e R s m args below meth c H locs cells slots Q (F0 m (pc + 3) ls (.int (iI (S 1 0)) :: rest))) : W p l e R s m args below meth c H locs cells slots Q (F0 m pc ls (.ref (G.2.1 1) :: rest)) := wd_get hC in_pc hw 1 (by decide) rfl rfl 0 (by decide) (hC.2.2.2.2 _ tw_27) rfl hdg kk
theorem pf_pc_9 {x : Int} (hC : CallFix p m c cc nL s args tws "ChannelRules$Pieces") (hw : wh G S s H locs) (hdg : decode cc pc = .ok (.putfield 9, 3)) (kk : ∀ (H : Heap) (locs : List Loc), wh G (s_up S 1 0 x) s H locs → W p l e R s m args below meth c H locs cells slots Q (F0 m (pc + 3) ls rest)) : W p l e R s m args below meth c H locs cells slots Q (F0 m pc ls (.int (iI x) :: .ref (G.2.1 1) :: rest)) := wd_put hC in_pc ty_pc ty_pc_ok nm_pc hw 1 (by decide) rfl rfl 0 (by decide) (hC.2.2.2.2 _ tw_27) rfl rfl rfl (Nat.le_of_ble_eq_true rfl) rfl hdg kk
theorem gf_pc_15 (hC : CallFix p m c cc nL s args tws "ChannelRules$Pieces") (hw : wh G S s H locs) (hdg : decode cc pc = .ok (.getfield 15, 3)) (kk : W p l e R s m args below meth c H locs cells slots Q (F0 m (pc + 3) ls (.ref (G.2.1 6) :: rest))) : W p l e R s m args below meth c H locs cells slots Q (F0 m pc ls (.ref (G.2.1 1) :: rest)) := wd_get hC in_pc hw 1 (by decide) rfl rfl 1 (by decide) (hC.2.2.2.2 _ tw_29) rfl hdg kk
theorem gf_pc_19 (hC : CallFix p m c cc nL s args tws "ChannelRules$Pieces") (hw : wh G S s H locs) (hdg : decode cc pc = .ok (.getfield 19, 3)) (kk : W p l e R s m args below meth c H locs cells slots Q (F0 m (pc + 3) ls (.ref (G.2.1 7) :: rest))) : W p l e R s m args below meth c H locs cells slots Q (F0 m pc ls (.ref (G.2.1 1) :: rest)) := wd_get hC in_pc hw 1 (by decide) rfl rfl 2 (by decide) (hC.2.2.2.2 _ tw_31) rfl hdg kk
theorem gf_pc_22 (hC : CallFix p m c cc nL s args tws "ChannelRules$Pieces") (hw : wh G S s H locs) (hdg : decode cc pc = .ok (.getfield 22, 3)) (kk : W p l e R s m args below meth c H locs cells slots Q (F0 m (pc + 3) ls (.ref (G.2.1 8) :: rest))) : W p l e R s m args below meth c H locs cells slots Q (F0 m pc ls (.ref (G.2.1 1) :: rest)) := wd_get hC in_pc hw 1 (by decide) rfl rfl 3 (by decide) (hC.2.2.2.2 _ tw_33) rfl hdg kk
theorem gf_pc_25 (hC : CallFix p m c cc nL s args tws "ChannelRules$Pieces") (hw : wh G S s H locs) (hdg : decode cc pc = .ok (.getfield 25, 3)) (kk : W p l e R s m args below meth c H locs cells slots Q (F0 m (pc + 3) ls (.ref (G.2.1 9) :: rest))) : W p l e R s m args below meth c H locs cells slots Q (F0 m pc ls (.ref (G.2.1 1) :: rest)) := wd_get hC in_pc hw 1 (by decide) rfl rfl 4 (by decide) (hC.2.2.2.2 _ tw_35) rfl hdg kk
theorem gf_pc_28 (hC : CallFix p m c cc nL s args tws "ChannelRules$Pieces") (hw : wh G S s H locs) (hdg : decode cc pc = .ok (.getfield 28, 3)) (kk : W p l e R s m args below meth c H locs cells slots Q (F0 m (pc + 3) ls (.ref (G.2.1 10) :: rest))) : W p l e R s m args below meth c H locs cells slots Q (F0 m pc ls (.ref (G.2.1 1) :: rest)) := wd_get hC in_pc hw 1 (by decide) rfl rfl 5 (by decide) (hC.2.2.2.2 _ tw_37) rfl hdg kk
theorem gf_pc_31 (hC : CallFix p m c cc nL s args tws "ChannelRules$Pieces") (hw : wh G S s H locs) (hdg : decode cc pc = .ok (.getfield 31, 3)) (kk : W p l e R s m args below meth c H locs cells slots Q (F0 m (pc + 3) ls (.ref (G.2.1 11) :: rest))) : W p l e R s m args below meth c H locs cells slots Q (F0 m pc ls (.ref (G.2.1 1) :: rest)) := wd_get hC in_pc hw 1 (by decide) rfl rfl 6 (by decide) (hC.2.2.2.2 _ tw_38) rfl hdg kk
theorem gf_pc_34 (hC : CallFix p m c cc nL s args tws "ChannelRules$Pieces") (hw : wh G S s H locs) (hdg : decode cc pc = .ok (.getfield 34, 3)) (kk : W p l e R s m args below meth c H locs cells slots Q (F0 m (pc + 3) ls (.ref (G.2.1 12) :: rest))) : W p l e R s m args below meth c H locs cells slots Q (F0 m pc ls (.ref (G.2.1 1) :: rest)) := wd_get hC in_pc hw 1 (by decide) rfl rfl 7 (by decide) (hC.2.2.2.2 _ tw_40) rfl hdg kk
theorem gf_pc_37 (hC : CallFix p m c cc nL s args tws "ChannelRules$Pieces") (hw : wh G S s H locs) (hdg : decode cc pc = .ok (.getfield 37, 3)) (kk : W p l e R s m args below meth c H locs cells slots Q (F0 m (pc + 3) ls (.ref (G.2.1 13) :: rest))) : W p l e R s m args below meth c H locs cells slots Q (F0 m pc ls (.ref (G.2.1 1) :: rest)) := wd_get hC in_pc hw 1 (by decide) rfl rfl 8 (by decide) (hC.2.2.2.2 _ tw_41) rfl hdg kk
theorem gf_sh_9 (hC : CallFix p m c cc nL s args tws "ChannelRules$Ships") (hw : wh G S s H locs) (hdg : decode cc pc = .ok (.getfield 9, 3)) (kk : W p l e R s m args below meth c H locs cells slots Q (F0 m (pc + 3) ls (.int (iI (S 2 0)) :: rest))) : W p l e R s m args below meth c H locs cells slots Q (F0 m pc ls (.ref (G.2.1 2) :: rest)) := wd_get hC in_sh hw 2 (by decide) rfl rfl 0 (by decide) (hC.2.2.2.2 _ tw_68) rfl hdg kk
theorem pf_sh_9 {x : Int} (hC : CallFix p m c cc nL s args tws "ChannelRules$Ships") (hw : wh G S s H locs) (hdg : decode cc pc = .ok (.putfield 9, 3)) (kk : ∀ (H : Heap) (locs : List Loc), wh G (s_up S 2 0 x) s H locs → W p l e R s m args below meth c H locs cells slots Q (F0 m (pc + 3) ls rest)) : W p l e R s m args below meth c H locs cells slots Q (F0 m pc ls (.int (iI x) :: .ref (G.2.1 2) :: rest)) := wd_put hC in_sh ty_sh ty_sh_ok nm_sh hw 2 (by decide) rfl rfl 0 (by decide) (hC.2.2.2.2 _ tw_68) rfl rfl rfl (Nat.le_of_ble_eq_true rfl) rfl hdg kk
theorem gf_sh_15 (hC : CallFix p m c cc nL s args tws "ChannelRules$Ships") (hw : wh G S s H locs) (hdg : decode cc pc = .ok (.getfield 15, 3)) (kk : W p l e R s m args below meth c H locs cells slots Q (F0 m (pc + 3) ls (.ref (G.2.1 14) :: rest))) : W p l e R s m args below meth c H locs cells slots Q (F0 m pc ls (.ref (G.2.1 2) :: rest)) := wd_get hC in_sh hw 2 (by decide) rfl rfl 1 (by decide) (hC.2.2.2.2 _ tw_70) rfl hdg kk
theorem gf_sh_19 (hC : CallFix p m c cc nL s args tws "ChannelRules$Ships") (hw : wh G S s H locs) (hdg : decode cc pc = .ok (.getfield 19, 3)) (kk : W p l e R s m args below meth c H locs cells slots Q (F0 m (pc + 3) ls (.ref (G.2.1 15) :: rest))) : W p l e R s m args below meth c H locs cells slots Q (F0 m pc ls (.ref (G.2.1 2) :: rest)) := wd_get hC in_sh hw 2 (by decide) rfl rfl 2 (by decide) (hC.2.2.2.2 _ tw_72) rfl hdg kk
theorem gf_sh_22 (hC : CallFix p m c cc nL s args tws "ChannelRules$Ships") (hw : wh G S s H locs) (hdg : decode cc pc = .ok (.getfield 22, 3)) (kk : W p l e R s m args below meth c H locs cells slots Q (F0 m (pc + 3) ls (.ref (G.2.1 16) :: rest))) : W p l e R s m args below meth c H locs cells slots Q (F0 m pc ls (.ref (G.2.1 2) :: rest)) := wd_get hC in_sh hw 2 (by decide) rfl rfl 3 (by decide) (hC.2.2.2.2 _ tw_74) rfl hdg kk
theorem gf_md_7 (hC : CallFix p m c cc nL s args tws "ChannelRulesModel") (hw : wh G S s H locs) (hdg : decode cc pc = .ok (.getfield 7, 3)) (kk : W p l e R s m args below meth c H locs cells slots Q (F0 m (pc + 3) ls (.ref (G.2.1 26) :: rest))) : W p l e R s m args below meth c H locs cells slots Q (F0 m pc ls (.ref (G.2.1 25) :: rest)) := wd_get hC in_md hw 25 (by decide) rfl rfl 2 (by decide) (hC.2.2.2.2 _ tw_558) rfl hdg kk
theorem gf_md_13 (hC : CallFix p m c cc nL s args tws "ChannelRulesModel") (hw : wh G S s H locs) (hdg : decode cc pc = .ok (.getfield 13, 3)) (kk : W p l e R s m args below meth c H locs cells slots Q (F0 m (pc + 3) ls (.ref (G.2.1 27) :: rest))) : W p l e R s m args below meth c H locs cells slots Q (F0 m pc ls (.ref (G.2.1 25) :: rest)) := wd_get hC in_md hw 25 (by decide) rfl rfl 3 (by decide) (hC.2.2.2.2 _ tw_559) rfl hdg kk
theorem gf_md_16 (hC : CallFix p m c cc nL s args tws "ChannelRulesModel") (hw : wh G S s H locs) (hdg : decode cc pc = .ok (.getfield 16, 3)) (kk : W p l e R s m args below meth c H locs cells slots Q (F0 m (pc + 3) ls (.ref (G.2.1 28) :: rest))) : W p l e R s m args below meth c H locs cells slots Q (F0 m pc ls (.ref (G.2.1 25) :: rest)) := wd_get hC in_md hw 25 (by decide) rfl rfl 4 (by decide) (hC.2.2.2.2 _ tw_560) rfl hdg kk
theorem gf_md_19 (hC : CallFix p m c cc nL s args tws "ChannelRulesModel") (hw : wh G S s H locs) (hdg : decode cc pc = .ok (.getfield 19, 3)) (kk : W p l e R s m args below meth c H locs cells slots Q (F0 m (pc + 3) ls (.ref (G.2.1 29) :: rest))) : W p l e R s m args below meth c H locs cells slots Q (F0 m pc ls (.ref (G.2.1 25) :: rest)) := wd_get hC in_md hw 25 (by decide) rfl rfl 5 (by decide) (hC.2.2.2.2 _ tw_561) rfl hdg kk
theorem gf_md_22 (hC : CallFix p m c cc nL s args tws "ChannelRulesModel") (hw : wh G S s H locs) (hdg : decode cc pc = .ok (.getfield 22, 3)) (kk : W p l e R s m args below meth c H locs cells slots Q (F0 m (pc + 3) ls (.ref (G.2.1 30) :: rest))) : W p l e R s m args below meth c H locs cells slots Q (F0 m pc ls (.ref (G.2.1 25) :: rest)) := wd_get hC in_md hw 25 (by decide) rfl rfl 6 (by decide) (hC.2.2.2.2 _ tw_562) rfl hdg kk
theorem gf_md_25 (hC : CallFix p m c cc nL s args tws "ChannelRulesModel") (hw : wh G S s H locs) (hdg : decode cc pc = .ok (.getfield 25, 3)) (kk : W p l e R s m args below meth c H locs cells slots Q (F0 m (pc + 3) ls (.ref (G.2.1 31) :: rest))) : W p l e R s m args below meth c H locs cells slots Q (F0 m pc ls (.ref (G.2.1 25) :: rest)) := wd_get hC in_md hw 25 (by decide) rfl rfl 7 (by decide) (hC.2.2.2.2 _ tw_563) rfl hdg kk
theorem gf_md_28 (hC : CallFix p m c cc nL s args tws "ChannelRulesModel") (hw : wh G S s H locs) (hdg : decode cc pc = .ok (.getfield 28, 3)) (kk : W p l e R s m args below meth c H locs cells slots Q (F0 m (pc + 3) ls (.ref (G.2.1 32) :: rest))) : W p l e R s m args below meth c H locs cells slots Q (F0 m pc ls (.ref (G.2.1 25) :: rest)) := wd_get hC in_md hw 25 (by decide) rfl rfl 8 (by decide) (hC.2.2.2.2 _ tw_564) rfl hdg kk
theorem gf_md_31 (hC : CallFix p m c cc nL s args tws "ChannelRulesModel") (hw : wh G S s H locs) (hdg : decode cc pc = .ok (.getfield 31, 3)) (kk : W p l e R s m args below meth c H locs cells slots Q (F0 m (pc + 3) ls (.ref (G.2.1 33) :: rest))) : W p l e R s m args below meth c H locs cells slots Q (F0 m pc ls (.ref (G.2.1 25) :: rest)) := wd_get hC in_md hw 25 (by decide) rfl rfl 9 (by decide) (hC.2.2.2.2 _ tw_565) rfl hdg kk
theorem gf_md_34 (hC : CallFix p m c cc nL s args tws "ChannelRulesModel") (hw : wh G S s H locs) (hdg : decode cc pc = .ok (.getfield 34, 3)) (kk : W p l e R s m args below meth c H locs cells slots Q (F0 m (pc + 3) ls (.ref (G.2.1 34) :: rest))) : W p l e R s m args below meth c H locs cells slots Q (F0 m pc ls (.ref (G.2.1 25) :: rest)) := wd_get hC in_md hw 25 (by decide) rfl rfl 11 (by decide) (hC.2.2.2.2 _ tw_567) rfl hdg kk
theorem gf_md_37 (hC : CallFix p m c cc nL s args tws "ChannelRulesModel") (hw : wh G S s H locs) (hdg : decode cc pc = .ok (.getfield 37, 3)) (kk : W p l e R s m args below meth c H locs cells slots Q (F0 m (pc + 3) ls (.ref (G.2.1 35) :: rest))) : W p l e R s m args below meth c H locs cells slots Q (F0 m pc ls (.ref (G.2.1 25) :: rest)) := wd_get hC in_md hw 25 (by decide) rfl rfl 12 (by decide) (hC.2.2.2.2 _ tw_568) rfl hdg kk
theorem gf_md_40 (hC : CallFix p m c cc nL s args tws "ChannelRulesModel") (hw : wh G S s H locs) (hdg : decode cc pc = .ok (.getfield 40, 3)) (kk : W p l e R s m args below meth c H locs cells slots Q (F0 m (pc + 3) ls (.ref (G.2.1 36) :: rest))) : W p l e R s m args below meth c H locs cells slots Q (F0 m pc ls (.ref (G.2.1 25) :: rest)) := wd_get hC in_md hw 25 (by decide) rfl rfl 13 (by decide) (hC.2.2.2.2 _ tw_569) rfl hdg kk
theorem gf_md_43 (hC : CallFix p m c cc nL s args tws "ChannelRulesModel") (hw : wh G S s H locs) (hdg : decode cc pc = .ok (.getfield 43, 3)) (kk : W p l e R s m args below meth c H locs cells slots Q (F0 m (pc + 3) ls (.ref (G.2.1 37) :: rest))) : W p l e R s m args below meth c H locs cells slots Q (F0 m pc ls (.ref (G.2.1 25) :: rest)) := wd_get hC in_md hw 25 (by decide) rfl rfl 17 (by decide) (hC.2.2.2.2 _ tw_573) rfl hdg kk
theorem gf_md_46 (hC : CallFix p m c cc nL s args tws "ChannelRulesModel") (hw : wh G S s H locs) (hdg : decode cc pc = .ok (.getfield 46, 3)) (kk : W p l e R s m args below meth c H locs cells slots Q (F0 m (pc + 3) ls (.ref (G.2.1 38) :: rest))) : W p l e R s m args below meth c H locs cells slots Q (F0 m pc ls (.ref (G.2.1 25) :: rest)) := wd_get hC in_md hw 25 (by decide) rfl rfl 18 (by decide) (hC.2.2.2.2 _ tw_574) rfl hdg kk
theorem gf_md_49 (hC : CallFix p m c cc nL s args tws "ChannelRulesModel") (hw : wh G S s H locs) (hdg : decode cc pc = .ok (.getfield 49, 3)) (kk : W p l e R s m args below meth c H locs cells slots Q (F0 m (pc + 3) ls (.ref (G.2.1 39) :: rest))) : W p l e R s m args below meth c H locs cells slots Q (F0 m pc ls (.ref (G.2.1 25) :: rest)) := wd_get hC in_md hw 25 (by decide) rfl rfl 19 (by decide) (hC.2.2.2.2 _ tw_575) rfl hdg kk
theorem gf_md_53 (hC : CallFix p m c cc nL s args tws "ChannelRulesModel") (hw : wh G S s H locs) (hdg : decode cc pc = .ok (.getfield 53, 3)) (kk : W p l e R s m args below meth c H locs cells slots Q (F0 m (pc + 3) ls (.ref (G.2.1 40) :: rest))) : W p l e R s m args below meth c H locs cells slots Q (F0 m pc ls (.ref (G.2.1 25) :: rest)) := wd_get hC in_md hw 25 (by decide) rfl rfl 20 (by decide) (hC.2.2.2.2 _ tw_576) rfl hdg kk
theorem gf_md_56 (hC : CallFix p m c cc nL s args tws "ChannelRulesModel") (hw : wh G S s H locs) (hdg : decode cc pc = .ok (.getfield 56, 3)) (kk : W p l e R s m args below meth c H locs cells slots Q (F0 m (pc + 3) ls (.ref (G.2.1 41) :: rest))) : W p l e R s m args below meth c H locs cells slots Q (F0 m pc ls (.ref (G.2.1 25) :: rest)) := wd_get hC in_md hw 25 (by decide) rfl rfl 21 (by decide) (hC.2.2.2.2 _ tw_577) rfl hdg kk
theorem gf_md_59 (hC : CallFix p m c cc nL s args tws "ChannelRulesModel") (hw : wh G S s H locs) (hdg : decode cc pc = .ok (.getfield 59, 3)) (kk : W p l e R s m args below meth c H locs cells slots Q (F0 m (pc + 3) ls (.ref (G.2.1 42) :: rest))) : W p l e R s m args below meth c H locs cells slots Q (F0 m pc ls (.ref (G.2.1 25) :: rest)) := wd_get hC in_md hw 25 (by decide) rfl rfl 22 (by decide) (hC.2.2.2.2 _ tw_578) rfl hdg kk
theorem gf_md_62 (hC : CallFix p m c cc nL s args tws "ChannelRulesModel") (hw : wh G S s H locs) (hdg : decode cc pc = .ok (.getfield 62, 3)) (kk : W p l e R s m args below meth c H locs cells slots Q (F0 m (pc + 3) ls (.ref (G.2.1 43) :: rest))) : W p l e R s m args below meth c H locs cells slots Q (F0 m pc ls (.ref (G.2.1 25) :: rest)) := wd_get hC in_md hw 25 (by decide) rfl rfl 23 (by decide) (hC.2.2.2.2 _ tw_579) rfl hdg kk
theorem gf_md_65 (hC : CallFix p m c cc nL s args tws "ChannelRulesModel") (hw : wh G S s H locs) (hdg : decode cc pc = .ok (.getfield 65, 3)) (kk : W p l e R s m args below meth c H locs cells slots Q (F0 m (pc + 3) ls (.int (iI (S 25 0)) :: rest))) : W p l e R s m args below meth c H locs cells slots Q (F0 m pc ls (.ref (G.2.1 25) :: rest)) := wd_get hC in_md hw 25 (by decide) rfl rfl 0 (by decide) (hC.2.2.2.2 _ tw_556) rfl hdg kk
theorem pf_md_65 {x : Int} (hC : CallFix p m c cc nL s args tws "ChannelRulesModel") (hw : wh G S s H locs) (hdg : decode cc pc = .ok (.putfield 65, 3)) (kk : ∀ (H : Heap) (locs : List Loc), wh G (s_up S 25 0 x) s H locs → W p l e R s m args below meth c H locs cells slots Q (F0 m (pc + 3) ls rest)) : W p l e R s m args below meth c H locs cells slots Q (F0 m pc ls (.int (iI x) :: .ref (G.2.1 25) :: rest)) := wd_put hC in_md ty_md ty_md_ok nm_md hw 25 (by decide) rfl rfl 0 (by decide) (hC.2.2.2.2 _ tw_556) rfl rfl rfl (Nat.le_of_ble_eq_true rfl) rfl hdg kk
theorem gf_md_69 (hC : CallFix p m c cc nL s args tws "ChannelRulesModel") (hw : wh G S s H locs) (hdg : decode cc pc = .ok (.getfield 69, 3)) (kk : W p l e R s m args below meth c H locs cells slots Q (F0 m (pc + 3) ls (.int (iI (S 25 1)) :: rest))) : W p l e R s m args below meth c H locs cells slots Q (F0 m pc ls (.ref (G.2.1 25) :: rest)) := wd_get hC in_md hw 25 (by decide) rfl rfl 1 (by decide) (hC.2.2.2.2 _ tw_557) rfl hdg kk
theorem pf_md_69 {x : Int} (hC : CallFix p m c cc nL s args tws "ChannelRulesModel") (hw : wh G S s H locs) (hdg : decode cc pc = .ok (.putfield 69, 3)) (kk : ∀ (H : Heap) (locs : List Loc), wh G (s_up S 25 1 x) s H locs → W p l e R s m args below meth c H locs cells slots Q (F0 m (pc + 3) ls rest)) : W p l e R s m args below meth c H locs cells slots Q (F0 m pc ls (.int (iI x) :: .ref (G.2.1 25) :: rest)) := wd_put hC in_md ty_md ty_md_ok nm_md hw 25 (by decide) rfl rfl 1 (by decide) (hC.2.2.2.2 _ tw_557) rfl rfl rfl (Nat.le_of_ble_eq_true rfl) rfl hdg kk
theorem gf_md_72 (hC : CallFix p m c cc nL s args tws "ChannelRulesModel") (hw : wh G S s H locs) (hdg : decode cc pc = .ok (.getfield 72, 3)) (kk : W p l e R s m args below meth c H locs cells slots Q (F0 m (pc + 3) ls (.int (iI (S 25 10)) :: rest))) : W p l e R s m args below meth c H locs cells slots Q (F0 m pc ls (.ref (G.2.1 25) :: rest)) := wd_get hC in_md hw 25 (by decide) rfl rfl 10 (by decide) (hC.2.2.2.2 _ tw_566) rfl hdg kk
theorem pf_md_72 {x : Int} (hC : CallFix p m c cc nL s args tws "ChannelRulesModel") (hw : wh G S s H locs) (hdg : decode cc pc = .ok (.putfield 72, 3)) (kk : ∀ (H : Heap) (locs : List Loc), wh G (s_up S 25 10 x) s H locs → W p l e R s m args below meth c H locs cells slots Q (F0 m (pc + 3) ls rest)) : W p l e R s m args below meth c H locs cells slots Q (F0 m pc ls (.int (iI x) :: .ref (G.2.1 25) :: rest)) := wd_put hC in_md ty_md ty_md_ok nm_md hw 25 (by decide) rfl rfl 10 (by decide) (hC.2.2.2.2 _ tw_566) rfl rfl rfl (Nat.le_of_ble_eq_true rfl) rfl hdg kk
theorem gf_md_75 (hC : CallFix p m c cc nL s args tws "ChannelRulesModel") (hw : wh G S s H locs) (hdg : decode cc pc = .ok (.getfield 75, 3)) (kk : W p l e R s m args below meth c H locs cells slots Q (F0 m (pc + 3) ls (.int (iI (S 25 16)) :: rest))) : W p l e R s m args below meth c H locs cells slots Q (F0 m pc ls (.ref (G.2.1 25) :: rest)) := wd_get hC in_md hw 25 (by decide) rfl rfl 16 (by decide) (hC.2.2.2.2 _ tw_572) rfl hdg kk
theorem pf_md_75 {x : Int} (hC : CallFix p m c cc nL s args tws "ChannelRulesModel") (hw : wh G S s H locs) (hdg : decode cc pc = .ok (.putfield 75, 3)) (kk : ∀ (H : Heap) (locs : List Loc), wh G (s_up S 25 16 x) s H locs → W p l e R s m args below meth c H locs cells slots Q (F0 m (pc + 3) ls rest)) : W p l e R s m args below meth c H locs cells slots Q (F0 m pc ls (.int (iI x) :: .ref (G.2.1 25) :: rest)) := wd_put hC in_md ty_md ty_md_ok nm_md hw 25 (by decide) rfl rfl 16 (by decide) (hC.2.2.2.2 _ tw_572) rfl rfl rfl (Nat.le_of_ble_eq_true rfl) rfl hdg kk
theorem gf_md_78 (hC : CallFix p m c cc nL s args tws "ChannelRulesModel") (hw : wh G S s H locs) (hdg : decode cc pc = .ok (.getfield 78, 3)) (kk : W p l e R s m args below meth c H locs cells slots Q (F0 m (pc + 3) ls (.int (iI (S 25 15)) :: rest))) : W p l e R s m args below meth c H locs cells slots Q (F0 m pc ls (.ref (G.2.1 25) :: rest)) := wd_get hC in_md hw 25 (by decide) rfl rfl 15 (by decide) (hC.2.2.2.2 _ tw_571) rfl hdg kk
theorem pf_md_78 {x : Int} (hC : CallFix p m c cc nL s args tws "ChannelRulesModel") (hw : wh G S s H locs) (hdg : decode cc pc = .ok (.putfield 78, 3)) (kk : ∀ (H : Heap) (locs : List Loc), wh G (s_up S 25 15 x) s H locs → W p l e R s m args below meth c H locs cells slots Q (F0 m (pc + 3) ls rest)) : W p l e R s m args below meth c H locs cells slots Q (F0 m pc ls (.int (iI x) :: .ref (G.2.1 25) :: rest)) := wd_put hC in_md ty_md ty_md_ok nm_md hw 25 (by decide) rfl rfl 15 (by decide) (hC.2.2.2.2 _ tw_571) rfl rfl rfl (Nat.le_of_ble_eq_true rfl) rfl hdg kk
theorem gf_md_97 (hC : CallFix p m c cc nL s args tws "ChannelRulesModel") (hw : wh G S s H locs) (hdg : decode cc pc = .ok (.getfield 97, 3)) (kk : W p l e R s m args below meth c H locs cells slots Q (F0 m (pc + 3) ls (.int (iI (S 25 14)) :: rest))) : W p l e R s m args below meth c H locs cells slots Q (F0 m pc ls (.ref (G.2.1 25) :: rest)) := wd_get hC in_md hw 25 (by decide) rfl rfl 14 (by decide) (hC.2.2.2.2 _ tw_570) rfl hdg kk
theorem pf_md_97 {x : Int} (hC : CallFix p m c cc nL s args tws "ChannelRulesModel") (hw : wh G S s H locs) (hb : x = 0 ∨ x = 1) (hdg : decode cc pc = .ok (.putfield 97, 3)) (kk : ∀ (H : Heap) (locs : List Loc), wh G (s_up S 25 14 x) s H locs → W p l e R s m args below meth c H locs cells slots Q (F0 m (pc + 3) ls rest)) : W p l e R s m args below meth c H locs cells slots Q (F0 m pc ls (.int (iI x) :: .ref (G.2.1 25) :: rest)) := wd_put hC in_md ty_md ty_md_ok nm_md hw 25 (by decide) rfl rfl 14 (by decide) (hC.2.2.2.2 _ tw_570) rfl (nar_b hb) (fit_b hb) (Nat.le_of_ble_eq_true rfl) rfl hdg kk
theorem ld_4 (hC : CallFix p m c cc nL s args tws own) (hw : wh G S s H locs) {z : Int} (h0 : 0 ≤ z) (h1 : z < 8) (hdg : decode cc pc = .ok (.iaload, 1)) (kk : W p l e R s m args below meth c H locs cells slots Q (F0 m (pc + 1) ls (.int (iI (S 4 z.toNat)) :: rest))) : W p l e R s m args below meth c H locs cells slots Q (F0 m pc ls (.int (iI z) :: .ref (G.2.1 4) :: rest)) := wd_ald hC hw 4 (by decide) rfl (by decide) h0 h1 hdg kk
theorem st_4 (hC : CallFix p m c cc nL s args tws own) (hw : wh G S s H locs) {z x : Int} (h0 : 0 ≤ z) (h1 : z < 8) (hdg : decode cc pc = .ok (.iastore, 1)) (kk : ∀ (H : Heap) (locs : List Loc), wh G (s_up S 4 z.toNat x) s H locs → W p l e R s m args below meth c H locs cells slots Q (F0 m (pc + 1) ls rest)) : W p l e R s m args below meth c H locs cells slots Q (F0 m pc ls (.int (iI x) :: .int (iI z) :: .ref (G.2.1 4) :: rest)) := wd_ast hC hw 4 (by decide) (fun _ => rfl) (by decide) h0 h1 hdg kk
theorem ld_5 (hC : CallFix p m c cc nL s args tws own) (hw : wh G S s H locs) {z : Int} (h0 : 0 ≤ z) (h1 : z < 4) (hdg : decode cc pc = .ok (.iaload, 1)) (kk : W p l e R s m args below meth c H locs cells slots Q (F0 m (pc + 1) ls (.int (iI (S 5 z.toNat)) :: rest))) : W p l e R s m args below meth c H locs cells slots Q (F0 m pc ls (.int (iI z) :: .ref (G.2.1 5) :: rest)) := wd_ald hC hw 5 (by decide) rfl (by decide) h0 h1 hdg kk
theorem st_5 (hC : CallFix p m c cc nL s args tws own) (hw : wh G S s H locs) {z x : Int} (h0 : 0 ≤ z) (h1 : z < 4) (hdg : decode cc pc = .ok (.iastore, 1)) (kk : ∀ (H : Heap) (locs : List Loc), wh G (s_up S 5 z.toNat x) s H locs → W p l e R s m args below meth c H locs cells slots Q (F0 m (pc + 1) ls rest)) : W p l e R s m args below meth c H locs cells slots Q (F0 m pc ls (.int (iI x) :: .int (iI z) :: .ref (G.2.1 5) :: rest)) := wd_ast hC hw 5 (by decide) (fun _ => rfl) (by decide) h0 h1 hdg kk
theorem ld_6 (hC : CallFix p m c cc nL s args tws own) (hw : wh G S s H locs) {z : Int} (h0 : 0 ≤ z) (h1 : z < 12) (hdg : decode cc pc = .ok (.iaload, 1)) (kk : W p l e R s m args below meth c H locs cells slots Q (F0 m (pc + 1) ls (.int (iI (S 6 z.toNat)) :: rest))) : W p l e R s m args below meth c H locs cells slots Q (F0 m pc ls (.int (iI z) :: .ref (G.2.1 6) :: rest)) := wd_ald hC hw 6 (by decide) rfl (by decide) h0 h1 hdg kk
theorem st_6 (hC : CallFix p m c cc nL s args tws own) (hw : wh G S s H locs) {z x : Int} (h0 : 0 ≤ z) (h1 : z < 12) (hdg : decode cc pc = .ok (.iastore, 1)) (kk : ∀ (H : Heap) (locs : List Loc), wh G (s_up S 6 z.toNat x) s H locs → W p l e R s m args below meth c H locs cells slots Q (F0 m (pc + 1) ls rest)) : W p l e R s m args below meth c H locs cells slots Q (F0 m pc ls (.int (iI x) :: .int (iI z) :: .ref (G.2.1 6) :: rest)) := wd_ast hC hw 6 (by decide) (fun _ => rfl) (by decide) h0 h1 hdg kk
theorem ld_7 (hC : CallFix p m c cc nL s args tws own) (hw : wh G S s H locs) {z : Int} (h0 : 0 ≤ z) (h1 : z < 12) (hdg : decode cc pc = .ok (.iaload, 1)) (kk : W p l e R s m args below meth c H locs cells slots Q (F0 m (pc + 1) ls (.int (iI (S 7 z.toNat)) :: rest))) : W p l e R s m args below meth c H locs cells slots Q (F0 m pc ls (.int (iI z) :: .ref (G.2.1 7) :: rest)) := wd_ald hC hw 7 (by decide) rfl (by decide) h0 h1 hdg kk
theorem st_7 (hC : CallFix p m c cc nL s args tws own) (hw : wh G S s H locs) {z x : Int} (h0 : 0 ≤ z) (h1 : z < 12) (hdg : decode cc pc = .ok (.iastore, 1)) (kk : ∀ (H : Heap) (locs : List Loc), wh G (s_up S 7 z.toNat x) s H locs → W p l e R s m args below meth c H locs cells slots Q (F0 m (pc + 1) ls rest)) : W p l e R s m args below meth c H locs cells slots Q (F0 m pc ls (.int (iI x) :: .int (iI z) :: .ref (G.2.1 7) :: rest)) := wd_ast hC hw 7 (by decide) (fun _ => rfl) (by decide) h0 h1 hdg kk
theorem ld_8 (hC : CallFix p m c cc nL s args tws own) (hw : wh G S s H locs) {z : Int} (h0 : 0 ≤ z) (h1 : z < 12) (hdg : decode cc pc = .ok (.iaload, 1)) (kk : W p l e R s m args below meth c H locs cells slots Q (F0 m (pc + 1) ls (.int (iI (S 8 z.toNat)) :: rest))) : W p l e R s m args below meth c H locs cells slots Q (F0 m pc ls (.int (iI z) :: .ref (G.2.1 8) :: rest)) := wd_ald hC hw 8 (by decide) rfl (by decide) h0 h1 hdg kk
theorem st_8 (hC : CallFix p m c cc nL s args tws own) (hw : wh G S s H locs) {z x : Int} (h0 : 0 ≤ z) (h1 : z < 12) (hdg : decode cc pc = .ok (.iastore, 1)) (kk : ∀ (H : Heap) (locs : List Loc), wh G (s_up S 8 z.toNat x) s H locs → W p l e R s m args below meth c H locs cells slots Q (F0 m (pc + 1) ls rest)) : W p l e R s m args below meth c H locs cells slots Q (F0 m pc ls (.int (iI x) :: .int (iI z) :: .ref (G.2.1 8) :: rest)) := wd_ast hC hw 8 (by decide) (fun _ => rfl) (by decide) h0 h1 hdg kk
theorem ld_9 (hC : CallFix p m c cc nL s args tws own) (hw : wh G S s H locs) {z : Int} (h0 : 0 ≤ z) (h1 : z < 12) (hdg : decode cc pc = .ok (.iaload, 1)) (kk : W p l e R s m args below meth c H locs cells slots Q (F0 m (pc + 1) ls (.int (iI (S 9 z.toNat)) :: rest))) : W p l e R s m args below meth c H locs cells slots Q (F0 m pc ls (.int (iI z) :: .ref (G.2.1 9) :: rest)) := wd_ald hC hw 9 (by decide) rfl (by decide) h0 h1 hdg kk
theorem st_9 (hC : CallFix p m c cc nL s args tws own) (hw : wh G S s H locs) {z x : Int} (h0 : 0 ≤ z) (h1 : z < 12) (hdg : decode cc pc = .ok (.iastore, 1)) (kk : ∀ (H : Heap) (locs : List Loc), wh G (s_up S 9 z.toNat x) s H locs → W p l e R s m args below meth c H locs cells slots Q (F0 m (pc + 1) ls rest)) : W p l e R s m args below meth c H locs cells slots Q (F0 m pc ls (.int (iI x) :: .int (iI z) :: .ref (G.2.1 9) :: rest)) := wd_ast hC hw 9 (by decide) (fun _ => rfl) (by decide) h0 h1 hdg kk
theorem ld_10 (hC : CallFix p m c cc nL s args tws own) (hw : wh G S s H locs) {z : Int} (h0 : 0 ≤ z) (h1 : z < 60) (hdg : decode cc pc = .ok (.iaload, 1)) (kk : W p l e R s m args below meth c H locs cells slots Q (F0 m (pc + 1) ls (.int (iI (S 10 z.toNat)) :: rest))) : W p l e R s m args below meth c H locs cells slots Q (F0 m pc ls (.int (iI z) :: .ref (G.2.1 10) :: rest)) := wd_ald hC hw 10 (by decide) rfl (by decide) h0 h1 hdg kk
theorem st_10 (hC : CallFix p m c cc nL s args tws own) (hw : wh G S s H locs) {z x : Int} (h0 : 0 ≤ z) (h1 : z < 60) (hdg : decode cc pc = .ok (.iastore, 1)) (kk : ∀ (H : Heap) (locs : List Loc), wh G (s_up S 10 z.toNat x) s H locs → W p l e R s m args below meth c H locs cells slots Q (F0 m (pc + 1) ls rest)) : W p l e R s m args below meth c H locs cells slots Q (F0 m pc ls (.int (iI x) :: .int (iI z) :: .ref (G.2.1 10) :: rest)) := wd_ast hC hw 10 (by decide) (fun _ => rfl) (by decide) h0 h1 hdg kk
theorem ld_11 (hC : CallFix p m c cc nL s args tws own) (hw : wh G S s H locs) {z : Int} (h0 : 0 ≤ z) (h1 : z < 12) (hdg : decode cc pc = .ok (.iaload, 1)) (kk : W p l e R s m args below meth c H locs cells slots Q (F0 m (pc + 1) ls (.int (iI (S 11 z.toNat)) :: rest))) : W p l e R s m args below meth c H locs cells slots Q (F0 m pc ls (.int (iI z) :: .ref (G.2.1 11) :: rest)) := wd_ald hC hw 11 (by decide) rfl (by decide) h0 h1 hdg kk
theorem st_11 (hC : CallFix p m c cc nL s args tws own) (hw : wh G S s H locs) {z x : Int} (h0 : 0 ≤ z) (h1 : z < 12) (hdg : decode cc pc = .ok (.iastore, 1)) (kk : ∀ (H : Heap) (locs : List Loc), wh G (s_up S 11 z.toNat x) s H locs → W p l e R s m args below meth c H locs cells slots Q (F0 m (pc + 1) ls rest)) : W p l e R s m args below meth c H locs cells slots Q (F0 m pc ls (.int (iI x) :: .int (iI z) :: .ref (G.2.1 11) :: rest)) := wd_ast hC hw 11 (by decide) (fun _ => rfl) (by decide) h0 h1 hdg kk
theorem ld_12 (hC : CallFix p m c cc nL s args tws own) (hw : wh G S s H locs) {z : Int} (h0 : 0 ≤ z) (h1 : z < 48) (hdg : decode cc pc = .ok (.iaload, 1)) (kk : W p l e R s m args below meth c H locs cells slots Q (F0 m (pc + 1) ls (.int (iI (S 12 z.toNat)) :: rest))) : W p l e R s m args below meth c H locs cells slots Q (F0 m pc ls (.int (iI z) :: .ref (G.2.1 12) :: rest)) := wd_ald hC hw 12 (by decide) rfl (by decide) h0 h1 hdg kk
theorem st_12 (hC : CallFix p m c cc nL s args tws own) (hw : wh G S s H locs) {z x : Int} (h0 : 0 ≤ z) (h1 : z < 48) (hdg : decode cc pc = .ok (.iastore, 1)) (kk : ∀ (H : Heap) (locs : List Loc), wh G (s_up S 12 z.toNat x) s H locs → W p l e R s m args below meth c H locs cells slots Q (F0 m (pc + 1) ls rest)) : W p l e R s m args below meth c H locs cells slots Q (F0 m pc ls (.int (iI x) :: .int (iI z) :: .ref (G.2.1 12) :: rest)) := wd_ast hC hw 12 (by decide) (fun _ => rfl) (by decide) h0 h1 hdg kk
theorem ld_13 (hC : CallFix p m c cc nL s args tws own) (hw : wh G S s H locs) {z : Int} (h0 : 0 ≤ z) (h1 : z < 48) (hdg : decode cc pc = .ok (.iaload, 1)) (kk : W p l e R s m args below meth c H locs cells slots Q (F0 m (pc + 1) ls (.int (iI (S 13 z.toNat)) :: rest))) : W p l e R s m args below meth c H locs cells slots Q (F0 m pc ls (.int (iI z) :: .ref (G.2.1 13) :: rest)) := wd_ald hC hw 13 (by decide) rfl (by decide) h0 h1 hdg kk
theorem st_13 (hC : CallFix p m c cc nL s args tws own) (hw : wh G S s H locs) {z x : Int} (h0 : 0 ≤ z) (h1 : z < 48) (hdg : decode cc pc = .ok (.iastore, 1)) (kk : ∀ (H : Heap) (locs : List Loc), wh G (s_up S 13 z.toNat x) s H locs → W p l e R s m args below meth c H locs cells slots Q (F0 m (pc + 1) ls rest)) : W p l e R s m args below meth c H locs cells slots Q (F0 m pc ls (.int (iI x) :: .int (iI z) :: .ref (G.2.1 13) :: rest)) := wd_ast hC hw 13 (by decide) (fun _ => rfl) (by decide) h0 h1 hdg kk
theorem ld_14 (hC : CallFix p m c cc nL s args tws own) (hw : wh G S s H locs) {z : Int} (h0 : 0 ≤ z) (h1 : z < 12) (hdg : decode cc pc = .ok (.iaload, 1)) (kk : W p l e R s m args below meth c H locs cells slots Q (F0 m (pc + 1) ls (.int (iI (S 14 z.toNat)) :: rest))) : W p l e R s m args below meth c H locs cells slots Q (F0 m pc ls (.int (iI z) :: .ref (G.2.1 14) :: rest)) := wd_ald hC hw 14 (by decide) rfl (by decide) h0 h1 hdg kk
theorem st_14 (hC : CallFix p m c cc nL s args tws own) (hw : wh G S s H locs) {z x : Int} (h0 : 0 ≤ z) (h1 : z < 12) (hdg : decode cc pc = .ok (.iastore, 1)) (kk : ∀ (H : Heap) (locs : List Loc), wh G (s_up S 14 z.toNat x) s H locs → W p l e R s m args below meth c H locs cells slots Q (F0 m (pc + 1) ls rest)) : W p l e R s m args below meth c H locs cells slots Q (F0 m pc ls (.int (iI x) :: .int (iI z) :: .ref (G.2.1 14) :: rest)) := wd_ast hC hw 14 (by decide) (fun _ => rfl) (by decide) h0 h1 hdg kk
theorem ld_15 (hC : CallFix p m c cc nL s args tws own) (hw : wh G S s H locs) {z : Int} (h0 : 0 ≤ z) (h1 : z < 12) (hdg : decode cc pc = .ok (.iaload, 1)) (kk : W p l e R s m args below meth c H locs cells slots Q (F0 m (pc + 1) ls (.int (iI (S 15 z.toNat)) :: rest))) : W p l e R s m args below meth c H locs cells slots Q (F0 m pc ls (.int (iI z) :: .ref (G.2.1 15) :: rest)) := wd_ald hC hw 15 (by decide) rfl (by decide) h0 h1 hdg kk
theorem st_15 (hC : CallFix p m c cc nL s args tws own) (hw : wh G S s H locs) {z x : Int} (h0 : 0 ≤ z) (h1 : z < 12) (hdg : decode cc pc = .ok (.iastore, 1)) (kk : ∀ (H : Heap) (locs : List Loc), wh G (s_up S 15 z.toNat x) s H locs → W p l e R s m args below meth c H locs cells slots Q (F0 m (pc + 1) ls rest)) : W p l e R s m args below meth c H locs cells slots Q (F0 m pc ls (.int (iI x) :: .int (iI z) :: .ref (G.2.1 15) :: rest)) := wd_ast hC hw 15 (by decide) (fun _ => rfl) (by decide) h0 h1 hdg kk
theorem ld_16 (hC : CallFix p m c cc nL s args tws own) (hw : wh G S s H locs) {z : Int} (h0 : 0 ≤ z) (h1 : z < 12) (hdg : decode cc pc = .ok (.iaload, 1)) (kk : W p l e R s m args below meth c H locs cells slots Q (F0 m (pc + 1) ls (.int (iI (S 16 z.toNat)) :: rest))) : W p l e R s m args below meth c H locs cells slots Q (F0 m pc ls (.int (iI z) :: .ref (G.2.1 16) :: rest)) := wd_ald hC hw 16 (by decide) rfl (by decide) h0 h1 hdg kk
theorem st_16 (hC : CallFix p m c cc nL s args tws own) (hw : wh G S s H locs) {z x : Int} (h0 : 0 ≤ z) (h1 : z < 12) (hdg : decode cc pc = .ok (.iastore, 1)) (kk : ∀ (H : Heap) (locs : List Loc), wh G (s_up S 16 z.toNat x) s H locs → W p l e R s m args below meth c H locs cells slots Q (F0 m (pc + 1) ls rest)) : W p l e R s m args below meth c H locs cells slots Q (F0 m pc ls (.int (iI x) :: .int (iI z) :: .ref (G.2.1 16) :: rest)) := wd_ast hC hw 16 (by decide) (fun _ => rfl) (by decide) h0 h1 hdg kk
theorem ld_17 (hC : CallFix p m c cc nL s args tws own) (hw : wh G S s H locs) {z : Int} (h0 : 0 ≤ z) (h1 : z < 31) (hdg : decode cc pc = .ok (.baload, 1)) (kk : W p l e R s m args below meth c H locs cells slots Q (F0 m (pc + 1) ls (.int (iI (S 17 z.toNat)) :: rest))) : W p l e R s m args below meth c H locs cells slots Q (F0 m pc ls (.int (iI z) :: .ref (G.2.1 17) :: rest)) := wd_zld hC hw 17 (by decide) rfl (by decide) h0 h1 hdg kk
theorem st_17 (hC : CallFix p m c cc nL s args tws own) (hw : wh G S s H locs) {z x : Int} (h0 : 0 ≤ z) (h1 : z < 31) (hb : x = 0 ∨ x = 1) (hdg : decode cc pc = .ok (.bastore, 1)) (kk : ∀ (H : Heap) (locs : List Loc), wh G (s_up S 17 z.toNat x) s H locs → W p l e R s m args below meth c H locs cells slots Q (F0 m (pc + 1) ls rest)) : W p l e R s m args below meth c H locs cells slots Q (F0 m pc ls (.int (iI x) :: .int (iI z) :: .ref (G.2.1 17) :: rest)) := wd_zst hC hw 17 (by decide) (fun _ => rfl) (by decide) h0 h1 hb hdg kk
theorem ld_18 (hC : CallFix p m c cc nL s args tws own) (hw : wh G S s H locs) {z : Int} (h0 : 0 ≤ z) (h1 : z < 31) (hdg : decode cc pc = .ok (.iaload, 1)) (kk : W p l e R s m args below meth c H locs cells slots Q (F0 m (pc + 1) ls (.int (iI (S 18 z.toNat)) :: rest))) : W p l e R s m args below meth c H locs cells slots Q (F0 m pc ls (.int (iI z) :: .ref (G.2.1 18) :: rest)) := wd_ald hC hw 18 (by decide) rfl (by decide) h0 h1 hdg kk
theorem st_18 (hC : CallFix p m c cc nL s args tws own) (hw : wh G S s H locs) {z x : Int} (h0 : 0 ≤ z) (h1 : z < 31) (hdg : decode cc pc = .ok (.iastore, 1)) (kk : ∀ (H : Heap) (locs : List Loc), wh G (s_up S 18 z.toNat x) s H locs → W p l e R s m args below meth c H locs cells slots Q (F0 m (pc + 1) ls rest)) : W p l e R s m args below meth c H locs cells slots Q (F0 m pc ls (.int (iI x) :: .int (iI z) :: .ref (G.2.1 18) :: rest)) := wd_ast hC hw 18 (by decide) (fun _ => rfl) (by decide) h0 h1 hdg kk
theorem ld_19 (hC : CallFix p m c cc nL s args tws own) (hw : wh G S s H locs) {z : Int} (h0 : 0 ≤ z) (h1 : z < 31) (hdg : decode cc pc = .ok (.iaload, 1)) (kk : W p l e R s m args below meth c H locs cells slots Q (F0 m (pc + 1) ls (.int (iI (S 19 z.toNat)) :: rest))) : W p l e R s m args below meth c H locs cells slots Q (F0 m pc ls (.int (iI z) :: .ref (G.2.1 19) :: rest)) := wd_ald hC hw 19 (by decide) rfl (by decide) h0 h1 hdg kk
theorem st_19 (hC : CallFix p m c cc nL s args tws own) (hw : wh G S s H locs) {z x : Int} (h0 : 0 ≤ z) (h1 : z < 31) (hdg : decode cc pc = .ok (.iastore, 1)) (kk : ∀ (H : Heap) (locs : List Loc), wh G (s_up S 19 z.toNat x) s H locs → W p l e R s m args below meth c H locs cells slots Q (F0 m (pc + 1) ls rest)) : W p l e R s m args below meth c H locs cells slots Q (F0 m pc ls (.int (iI x) :: .int (iI z) :: .ref (G.2.1 19) :: rest)) := wd_ast hC hw 19 (by decide) (fun _ => rfl) (by decide) h0 h1 hdg kk
theorem ld_20 (hC : CallFix p m c cc nL s args tws own) (hw : wh G S s H locs) {z : Int} (h0 : 0 ≤ z) (h1 : z < 31) (hdg : decode cc pc = .ok (.iaload, 1)) (kk : W p l e R s m args below meth c H locs cells slots Q (F0 m (pc + 1) ls (.int (iI (S 20 z.toNat)) :: rest))) : W p l e R s m args below meth c H locs cells slots Q (F0 m pc ls (.int (iI z) :: .ref (G.2.1 20) :: rest)) := wd_ald hC hw 20 (by decide) rfl (by decide) h0 h1 hdg kk
theorem st_20 (hC : CallFix p m c cc nL s args tws own) (hw : wh G S s H locs) {z x : Int} (h0 : 0 ≤ z) (h1 : z < 31) (hdg : decode cc pc = .ok (.iastore, 1)) (kk : ∀ (H : Heap) (locs : List Loc), wh G (s_up S 20 z.toNat x) s H locs → W p l e R s m args below meth c H locs cells slots Q (F0 m (pc + 1) ls rest)) : W p l e R s m args below meth c H locs cells slots Q (F0 m pc ls (.int (iI x) :: .int (iI z) :: .ref (G.2.1 20) :: rest)) := wd_ast hC hw 20 (by decide) (fun _ => rfl) (by decide) h0 h1 hdg kk
theorem ld_21 (hC : CallFix p m c cc nL s args tws own) (hw : wh G S s H locs) {z : Int} (h0 : 0 ≤ z) (h1 : z < 217) (hdg : decode cc pc = .ok (.iaload, 1)) (kk : W p l e R s m args below meth c H locs cells slots Q (F0 m (pc + 1) ls (.int (iI (S 21 z.toNat)) :: rest))) : W p l e R s m args below meth c H locs cells slots Q (F0 m pc ls (.int (iI z) :: .ref (G.2.1 21) :: rest)) := wd_ald hC hw 21 (by decide) rfl (by decide) h0 h1 hdg kk
theorem st_21 (hC : CallFix p m c cc nL s args tws own) (hw : wh G S s H locs) {z x : Int} (h0 : 0 ≤ z) (h1 : z < 217) (hdg : decode cc pc = .ok (.iastore, 1)) (kk : ∀ (H : Heap) (locs : List Loc), wh G (s_up S 21 z.toNat x) s H locs → W p l e R s m args below meth c H locs cells slots Q (F0 m (pc + 1) ls rest)) : W p l e R s m args below meth c H locs cells slots Q (F0 m pc ls (.int (iI x) :: .int (iI z) :: .ref (G.2.1 21) :: rest)) := wd_ast hC hw 21 (by decide) (fun _ => rfl) (by decide) h0 h1 hdg kk
theorem ld_22 (hC : CallFix p m c cc nL s args tws own) (hw : wh G S s H locs) {z : Int} (h0 : 0 ≤ z) (h1 : z < 217) (hdg : decode cc pc = .ok (.baload, 1)) (kk : W p l e R s m args below meth c H locs cells slots Q (F0 m (pc + 1) ls (.int (iI (S 22 z.toNat)) :: rest))) : W p l e R s m args below meth c H locs cells slots Q (F0 m pc ls (.int (iI z) :: .ref (G.2.1 22) :: rest)) := wd_zld hC hw 22 (by decide) rfl (by decide) h0 h1 hdg kk
theorem st_22 (hC : CallFix p m c cc nL s args tws own) (hw : wh G S s H locs) {z x : Int} (h0 : 0 ≤ z) (h1 : z < 217) (hb : x = 0 ∨ x = 1) (hdg : decode cc pc = .ok (.bastore, 1)) (kk : ∀ (H : Heap) (locs : List Loc), wh G (s_up S 22 z.toNat x) s H locs → W p l e R s m args below meth c H locs cells slots Q (F0 m (pc + 1) ls rest)) : W p l e R s m args below meth c H locs cells slots Q (F0 m pc ls (.int (iI x) :: .int (iI z) :: .ref (G.2.1 22) :: rest)) := wd_zst hC hw 22 (by decide) (fun _ => rfl) (by decide) h0 h1 hb hdg kk
theorem ld_23 (hC : CallFix p m c cc nL s args tws own) (hw : wh G S s H locs) {z : Int} (h0 : 0 ≤ z) (h1 : z < 248) (hdg : decode cc pc = .ok (.iaload, 1)) (kk : W p l e R s m args below meth c H locs cells slots Q (F0 m (pc + 1) ls (.int (iI (S 23 z.toNat)) :: rest))) : W p l e R s m args below meth c H locs cells slots Q (F0 m pc ls (.int (iI z) :: .ref (G.2.1 23) :: rest)) := wd_ald hC hw 23 (by decide) rfl (by decide) h0 h1 hdg kk
theorem st_23 (hC : CallFix p m c cc nL s args tws own) (hw : wh G S s H locs) {z x : Int} (h0 : 0 ≤ z) (h1 : z < 248) (hdg : decode cc pc = .ok (.iastore, 1)) (kk : ∀ (H : Heap) (locs : List Loc), wh G (s_up S 23 z.toNat x) s H locs → W p l e R s m args below meth c H locs cells slots Q (F0 m (pc + 1) ls rest)) : W p l e R s m args below meth c H locs cells slots Q (F0 m pc ls (.int (iI x) :: .int (iI z) :: .ref (G.2.1 23) :: rest)) := wd_ast hC hw 23 (by decide) (fun _ => rfl) (by decide) h0 h1 hdg kk
theorem ld_24 (hC : CallFix p m c cc nL s args tws own) (hw : wh G S s H locs) {z : Int} (h0 : 0 ≤ z) (h1 : z < 372) (hdg : decode cc pc = .ok (.iaload, 1)) (kk : W p l e R s m args below meth c H locs cells slots Q (F0 m (pc + 1) ls (.int (iI (S 24 z.toNat)) :: rest))) : W p l e R s m args below meth c H locs cells slots Q (F0 m pc ls (.int (iI z) :: .ref (G.2.1 24) :: rest)) := wd_ald hC hw 24 (by decide) rfl (by decide) h0 h1 hdg kk
theorem st_24 (hC : CallFix p m c cc nL s args tws own) (hw : wh G S s H locs) {z x : Int} (h0 : 0 ≤ z) (h1 : z < 372) (hdg : decode cc pc = .ok (.iastore, 1)) (kk : ∀ (H : Heap) (locs : List Loc), wh G (s_up S 24 z.toNat x) s H locs → W p l e R s m args below meth c H locs cells slots Q (F0 m (pc + 1) ls rest)) : W p l e R s m args below meth c H locs cells slots Q (F0 m pc ls (.int (iI x) :: .int (iI z) :: .ref (G.2.1 24) :: rest)) := wd_ast hC hw 24 (by decide) (fun _ => rfl) (by decide) h0 h1 hdg kk
theorem ld_26 (hC : CallFix p m c cc nL s args tws own) (hw : wh G S s H locs) {z : Int} (h0 : 0 ≤ z) (h1 : z < 12) (hdg : decode cc pc = .ok (.iaload, 1)) (kk : W p l e R s m args below meth c H locs cells slots Q (F0 m (pc + 1) ls (.int (iI (S 26 z.toNat)) :: rest))) : W p l e R s m args below meth c H locs cells slots Q (F0 m pc ls (.int (iI z) :: .ref (G.2.1 26) :: rest)) := wd_ald hC hw 26 (by decide) rfl (by decide) h0 h1 hdg kk
theorem st_26 (hC : CallFix p m c cc nL s args tws own) (hw : wh G S s H locs) {z x : Int} (h0 : 0 ≤ z) (h1 : z < 12) (hdg : decode cc pc = .ok (.iastore, 1)) (kk : ∀ (H : Heap) (locs : List Loc), wh G (s_up S 26 z.toNat x) s H locs → W p l e R s m args below meth c H locs cells slots Q (F0 m (pc + 1) ls rest)) : W p l e R s m args below meth c H locs cells slots Q (F0 m pc ls (.int (iI x) :: .int (iI z) :: .ref (G.2.1 26) :: rest)) := wd_ast hC hw 26 (by decide) (fun _ => rfl) (by decide) h0 h1 hdg kk
theorem ld_27 (hC : CallFix p m c cc nL s args tws own) (hw : wh G S s H locs) {z : Int} (h0 : 0 ≤ z) (h1 : z < 12) (hdg : decode cc pc = .ok (.iaload, 1)) (kk : W p l e R s m args below meth c H locs cells slots Q (F0 m (pc + 1) ls (.int (iI (S 27 z.toNat)) :: rest))) : W p l e R s m args below meth c H locs cells slots Q (F0 m pc ls (.int (iI z) :: .ref (G.2.1 27) :: rest)) := wd_ald hC hw 27 (by decide) rfl (by decide) h0 h1 hdg kk
theorem st_27 (hC : CallFix p m c cc nL s args tws own) (hw : wh G S s H locs) {z x : Int} (h0 : 0 ≤ z) (h1 : z < 12) (hdg : decode cc pc = .ok (.iastore, 1)) (kk : ∀ (H : Heap) (locs : List Loc), wh G (s_up S 27 z.toNat x) s H locs → W p l e R s m args below meth c H locs cells slots Q (F0 m (pc + 1) ls rest)) : W p l e R s m args below meth c H locs cells slots Q (F0 m pc ls (.int (iI x) :: .int (iI z) :: .ref (G.2.1 27) :: rest)) := wd_ast hC hw 27 (by decide) (fun _ => rfl) (by decide) h0 h1 hdg kk
theorem ld_28 (hC : CallFix p m c cc nL s args tws own) (hw : wh G S s H locs) {z : Int} (h0 : 0 ≤ z) (h1 : z < 12) (hdg : decode cc pc = .ok (.iaload, 1)) (kk : W p l e R s m args below meth c H locs cells slots Q (F0 m (pc + 1) ls (.int (iI (S 28 z.toNat)) :: rest))) : W p l e R s m args below meth c H locs cells slots Q (F0 m pc ls (.int (iI z) :: .ref (G.2.1 28) :: rest)) := wd_ald hC hw 28 (by decide) rfl (by decide) h0 h1 hdg kk
theorem st_28 (hC : CallFix p m c cc nL s args tws own) (hw : wh G S s H locs) {z x : Int} (h0 : 0 ≤ z) (h1 : z < 12) (hdg : decode cc pc = .ok (.iastore, 1)) (kk : ∀ (H : Heap) (locs : List Loc), wh G (s_up S 28 z.toNat x) s H locs → W p l e R s m args below meth c H locs cells slots Q (F0 m (pc + 1) ls rest)) : W p l e R s m args below meth c H locs cells slots Q (F0 m pc ls (.int (iI x) :: .int (iI z) :: .ref (G.2.1 28) :: rest)) := wd_ast hC hw 28 (by decide) (fun _ => rfl) (by decide) h0 h1 hdg kk
theorem ld_29 (hC : CallFix p m c cc nL s args tws own) (hw : wh G S s H locs) {z : Int} (h0 : 0 ≤ z) (h1 : z < 12) (hdg : decode cc pc = .ok (.iaload, 1)) (kk : W p l e R s m args below meth c H locs cells slots Q (F0 m (pc + 1) ls (.int (iI (S 29 z.toNat)) :: rest))) : W p l e R s m args below meth c H locs cells slots Q (F0 m pc ls (.int (iI z) :: .ref (G.2.1 29) :: rest)) := wd_ald hC hw 29 (by decide) rfl (by decide) h0 h1 hdg kk
theorem st_29 (hC : CallFix p m c cc nL s args tws own) (hw : wh G S s H locs) {z x : Int} (h0 : 0 ≤ z) (h1 : z < 12) (hdg : decode cc pc = .ok (.iastore, 1)) (kk : ∀ (H : Heap) (locs : List Loc), wh G (s_up S 29 z.toNat x) s H locs → W p l e R s m args below meth c H locs cells slots Q (F0 m (pc + 1) ls rest)) : W p l e R s m args below meth c H locs cells slots Q (F0 m pc ls (.int (iI x) :: .int (iI z) :: .ref (G.2.1 29) :: rest)) := wd_ast hC hw 29 (by decide) (fun _ => rfl) (by decide) h0 h1 hdg kk
theorem ld_30 (hC : CallFix p m c cc nL s args tws own) (hw : wh G S s H locs) {z : Int} (h0 : 0 ≤ z) (h1 : z < 60) (hdg : decode cc pc = .ok (.iaload, 1)) (kk : W p l e R s m args below meth c H locs cells slots Q (F0 m (pc + 1) ls (.int (iI (S 30 z.toNat)) :: rest))) : W p l e R s m args below meth c H locs cells slots Q (F0 m pc ls (.int (iI z) :: .ref (G.2.1 30) :: rest)) := wd_ald hC hw 30 (by decide) rfl (by decide) h0 h1 hdg kk
theorem st_30 (hC : CallFix p m c cc nL s args tws own) (hw : wh G S s H locs) {z x : Int} (h0 : 0 ≤ z) (h1 : z < 60) (hdg : decode cc pc = .ok (.iastore, 1)) (kk : ∀ (H : Heap) (locs : List Loc), wh G (s_up S 30 z.toNat x) s H locs → W p l e R s m args below meth c H locs cells slots Q (F0 m (pc + 1) ls rest)) : W p l e R s m args below meth c H locs cells slots Q (F0 m pc ls (.int (iI x) :: .int (iI z) :: .ref (G.2.1 30) :: rest)) := wd_ast hC hw 30 (by decide) (fun _ => rfl) (by decide) h0 h1 hdg kk
theorem ld_31 (hC : CallFix p m c cc nL s args tws own) (hw : wh G S s H locs) {z : Int} (h0 : 0 ≤ z) (h1 : z < 12) (hdg : decode cc pc = .ok (.iaload, 1)) (kk : W p l e R s m args below meth c H locs cells slots Q (F0 m (pc + 1) ls (.int (iI (S 31 z.toNat)) :: rest))) : W p l e R s m args below meth c H locs cells slots Q (F0 m pc ls (.int (iI z) :: .ref (G.2.1 31) :: rest)) := wd_ald hC hw 31 (by decide) rfl (by decide) h0 h1 hdg kk
theorem st_31 (hC : CallFix p m c cc nL s args tws own) (hw : wh G S s H locs) {z x : Int} (h0 : 0 ≤ z) (h1 : z < 12) (hdg : decode cc pc = .ok (.iastore, 1)) (kk : ∀ (H : Heap) (locs : List Loc), wh G (s_up S 31 z.toNat x) s H locs → W p l e R s m args below meth c H locs cells slots Q (F0 m (pc + 1) ls rest)) : W p l e R s m args below meth c H locs cells slots Q (F0 m pc ls (.int (iI x) :: .int (iI z) :: .ref (G.2.1 31) :: rest)) := wd_ast hC hw 31 (by decide) (fun _ => rfl) (by decide) h0 h1 hdg kk
theorem ld_32 (hC : CallFix p m c cc nL s args tws own) (hw : wh G S s H locs) {z : Int} (h0 : 0 ≤ z) (h1 : z < 48) (hdg : decode cc pc = .ok (.iaload, 1)) (kk : W p l e R s m args below meth c H locs cells slots Q (F0 m (pc + 1) ls (.int (iI (S 32 z.toNat)) :: rest))) : W p l e R s m args below meth c H locs cells slots Q (F0 m pc ls (.int (iI z) :: .ref (G.2.1 32) :: rest)) := wd_ald hC hw 32 (by decide) rfl (by decide) h0 h1 hdg kk
theorem st_32 (hC : CallFix p m c cc nL s args tws own) (hw : wh G S s H locs) {z x : Int} (h0 : 0 ≤ z) (h1 : z < 48) (hdg : decode cc pc = .ok (.iastore, 1)) (kk : ∀ (H : Heap) (locs : List Loc), wh G (s_up S 32 z.toNat x) s H locs → W p l e R s m args below meth c H locs cells slots Q (F0 m (pc + 1) ls rest)) : W p l e R s m args below meth c H locs cells slots Q (F0 m pc ls (.int (iI x) :: .int (iI z) :: .ref (G.2.1 32) :: rest)) := wd_ast hC hw 32 (by decide) (fun _ => rfl) (by decide) h0 h1 hdg kk
theorem ld_33 (hC : CallFix p m c cc nL s args tws own) (hw : wh G S s H locs) {z : Int} (h0 : 0 ≤ z) (h1 : z < 48) (hdg : decode cc pc = .ok (.iaload, 1)) (kk : W p l e R s m args below meth c H locs cells slots Q (F0 m (pc + 1) ls (.int (iI (S 33 z.toNat)) :: rest))) : W p l e R s m args below meth c H locs cells slots Q (F0 m pc ls (.int (iI z) :: .ref (G.2.1 33) :: rest)) := wd_ald hC hw 33 (by decide) rfl (by decide) h0 h1 hdg kk
theorem st_33 (hC : CallFix p m c cc nL s args tws own) (hw : wh G S s H locs) {z x : Int} (h0 : 0 ≤ z) (h1 : z < 48) (hdg : decode cc pc = .ok (.iastore, 1)) (kk : ∀ (H : Heap) (locs : List Loc), wh G (s_up S 33 z.toNat x) s H locs → W p l e R s m args below meth c H locs cells slots Q (F0 m (pc + 1) ls rest)) : W p l e R s m args below meth c H locs cells slots Q (F0 m pc ls (.int (iI x) :: .int (iI z) :: .ref (G.2.1 33) :: rest)) := wd_ast hC hw 33 (by decide) (fun _ => rfl) (by decide) h0 h1 hdg kk
theorem ld_34 (hC : CallFix p m c cc nL s args tws own) (hw : wh G S s H locs) {z : Int} (h0 : 0 ≤ z) (h1 : z < 12) (hdg : decode cc pc = .ok (.iaload, 1)) (kk : W p l e R s m args below meth c H locs cells slots Q (F0 m (pc + 1) ls (.int (iI (S 34 z.toNat)) :: rest))) : W p l e R s m args below meth c H locs cells slots Q (F0 m pc ls (.int (iI z) :: .ref (G.2.1 34) :: rest)) := wd_ald hC hw 34 (by decide) rfl (by decide) h0 h1 hdg kk
theorem st_34 (hC : CallFix p m c cc nL s args tws own) (hw : wh G S s H locs) {z x : Int} (h0 : 0 ≤ z) (h1 : z < 12) (hdg : decode cc pc = .ok (.iastore, 1)) (kk : ∀ (H : Heap) (locs : List Loc), wh G (s_up S 34 z.toNat x) s H locs → W p l e R s m args below meth c H locs cells slots Q (F0 m (pc + 1) ls rest)) : W p l e R s m args below meth c H locs cells slots Q (F0 m pc ls (.int (iI x) :: .int (iI z) :: .ref (G.2.1 34) :: rest)) := wd_ast hC hw 34 (by decide) (fun _ => rfl) (by decide) h0 h1 hdg kk
theorem ld_35 (hC : CallFix p m c cc nL s args tws own) (hw : wh G S s H locs) {z : Int} (h0 : 0 ≤ z) (h1 : z < 12) (hdg : decode cc pc = .ok (.iaload, 1)) (kk : W p l e R s m args below meth c H locs cells slots Q (F0 m (pc + 1) ls (.int (iI (S 35 z.toNat)) :: rest))) : W p l e R s m args below meth c H locs cells slots Q (F0 m pc ls (.int (iI z) :: .ref (G.2.1 35) :: rest)) := wd_ald hC hw 35 (by decide) rfl (by decide) h0 h1 hdg kk
theorem st_35 (hC : CallFix p m c cc nL s args tws own) (hw : wh G S s H locs) {z x : Int} (h0 : 0 ≤ z) (h1 : z < 12) (hdg : decode cc pc = .ok (.iastore, 1)) (kk : ∀ (H : Heap) (locs : List Loc), wh G (s_up S 35 z.toNat x) s H locs → W p l e R s m args below meth c H locs cells slots Q (F0 m (pc + 1) ls rest)) : W p l e R s m args below meth c H locs cells slots Q (F0 m pc ls (.int (iI x) :: .int (iI z) :: .ref (G.2.1 35) :: rest)) := wd_ast hC hw 35 (by decide) (fun _ => rfl) (by decide) h0 h1 hdg kk
theorem ld_36 (hC : CallFix p m c cc nL s args tws own) (hw : wh G S s H locs) {z : Int} (h0 : 0 ≤ z) (h1 : z < 12) (hdg : decode cc pc = .ok (.iaload, 1)) (kk : W p l e R s m args below meth c H locs cells slots Q (F0 m (pc + 1) ls (.int (iI (S 36 z.toNat)) :: rest))) : W p l e R s m args below meth c H locs cells slots Q (F0 m pc ls (.int (iI z) :: .ref (G.2.1 36) :: rest)) := wd_ald hC hw 36 (by decide) rfl (by decide) h0 h1 hdg kk
theorem st_36 (hC : CallFix p m c cc nL s args tws own) (hw : wh G S s H locs) {z x : Int} (h0 : 0 ≤ z) (h1 : z < 12) (hdg : decode cc pc = .ok (.iastore, 1)) (kk : ∀ (H : Heap) (locs : List Loc), wh G (s_up S 36 z.toNat x) s H locs → W p l e R s m args below meth c H locs cells slots Q (F0 m (pc + 1) ls rest)) : W p l e R s m args below meth c H locs cells slots Q (F0 m pc ls (.int (iI x) :: .int (iI z) :: .ref (G.2.1 36) :: rest)) := wd_ast hC hw 36 (by decide) (fun _ => rfl) (by decide) h0 h1 hdg kk
theorem ld_37 (hC : CallFix p m c cc nL s args tws own) (hw : wh G S s H locs) {z : Int} (h0 : 0 ≤ z) (h1 : z < 31) (hdg : decode cc pc = .ok (.iaload, 1)) (kk : W p l e R s m args below meth c H locs cells slots Q (F0 m (pc + 1) ls (.int (iI (S 37 z.toNat)) :: rest))) : W p l e R s m args below meth c H locs cells slots Q (F0 m pc ls (.int (iI z) :: .ref (G.2.1 37) :: rest)) := wd_ald hC hw 37 (by decide) rfl (by decide) h0 h1 hdg kk
theorem st_37 (hC : CallFix p m c cc nL s args tws own) (hw : wh G S s H locs) {z x : Int} (h0 : 0 ≤ z) (h1 : z < 31) (hdg : decode cc pc = .ok (.iastore, 1)) (kk : ∀ (H : Heap) (locs : List Loc), wh G (s_up S 37 z.toNat x) s H locs → W p l e R s m args below meth c H locs cells slots Q (F0 m (pc + 1) ls rest)) : W p l e R s m args below meth c H locs cells slots Q (F0 m pc ls (.int (iI x) :: .int (iI z) :: .ref (G.2.1 37) :: rest)) := wd_ast hC hw 37 (by decide) (fun _ => rfl) (by decide) h0 h1 hdg kk
theorem ld_38 (hC : CallFix p m c cc nL s args tws own) (hw : wh G S s H locs) {z : Int} (h0 : 0 ≤ z) (h1 : z < 31) (hdg : decode cc pc = .ok (.iaload, 1)) (kk : W p l e R s m args below meth c H locs cells slots Q (F0 m (pc + 1) ls (.int (iI (S 38 z.toNat)) :: rest))) : W p l e R s m args below meth c H locs cells slots Q (F0 m pc ls (.int (iI z) :: .ref (G.2.1 38) :: rest)) := wd_ald hC hw 38 (by decide) rfl (by decide) h0 h1 hdg kk
theorem st_38 (hC : CallFix p m c cc nL s args tws own) (hw : wh G S s H locs) {z x : Int} (h0 : 0 ≤ z) (h1 : z < 31) (hdg : decode cc pc = .ok (.iastore, 1)) (kk : ∀ (H : Heap) (locs : List Loc), wh G (s_up S 38 z.toNat x) s H locs → W p l e R s m args below meth c H locs cells slots Q (F0 m (pc + 1) ls rest)) : W p l e R s m args below meth c H locs cells slots Q (F0 m pc ls (.int (iI x) :: .int (iI z) :: .ref (G.2.1 38) :: rest)) := wd_ast hC hw 38 (by decide) (fun _ => rfl) (by decide) h0 h1 hdg kk
theorem ld_39 (hC : CallFix p m c cc nL s args tws own) (hw : wh G S s H locs) {z : Int} (h0 : 0 ≤ z) (h1 : z < 31) (hdg : decode cc pc = .ok (.baload, 1)) (kk : W p l e R s m args below meth c H locs cells slots Q (F0 m (pc + 1) ls (.int (iI (S 39 z.toNat)) :: rest))) : W p l e R s m args below meth c H locs cells slots Q (F0 m pc ls (.int (iI z) :: .ref (G.2.1 39) :: rest)) := wd_zld hC hw 39 (by decide) rfl (by decide) h0 h1 hdg kk
theorem st_39 (hC : CallFix p m c cc nL s args tws own) (hw : wh G S s H locs) {z x : Int} (h0 : 0 ≤ z) (h1 : z < 31) (hb : x = 0 ∨ x = 1) (hdg : decode cc pc = .ok (.bastore, 1)) (kk : ∀ (H : Heap) (locs : List Loc), wh G (s_up S 39 z.toNat x) s H locs → W p l e R s m args below meth c H locs cells slots Q (F0 m (pc + 1) ls rest)) : W p l e R s m args below meth c H locs cells slots Q (F0 m pc ls (.int (iI x) :: .int (iI z) :: .ref (G.2.1 39) :: rest)) := wd_zst hC hw 39 (by decide) (fun _ => rfl) (by decide) h0 h1 hb hdg kk
theorem ld_40 (hC : CallFix p m c cc nL s args tws own) (hw : wh G S s H locs) {z : Int} (h0 : 0 ≤ z) (h1 : z < 31) (hdg : decode cc pc = .ok (.iaload, 1)) (kk : W p l e R s m args below meth c H locs cells slots Q (F0 m (pc + 1) ls (.int (iI (S 40 z.toNat)) :: rest))) : W p l e R s m args below meth c H locs cells slots Q (F0 m pc ls (.int (iI z) :: .ref (G.2.1 40) :: rest)) := wd_ald hC hw 40 (by decide) rfl (by decide) h0 h1 hdg kk
theorem st_40 (hC : CallFix p m c cc nL s args tws own) (hw : wh G S s H locs) {z x : Int} (h0 : 0 ≤ z) (h1 : z < 31) (hdg : decode cc pc = .ok (.iastore, 1)) (kk : ∀ (H : Heap) (locs : List Loc), wh G (s_up S 40 z.toNat x) s H locs → W p l e R s m args below meth c H locs cells slots Q (F0 m (pc + 1) ls rest)) : W p l e R s m args below meth c H locs cells slots Q (F0 m pc ls (.int (iI x) :: .int (iI z) :: .ref (G.2.1 40) :: rest)) := wd_ast hC hw 40 (by decide) (fun _ => rfl) (by decide) h0 h1 hdg kk
theorem ld_41 (hC : CallFix p m c cc nL s args tws own) (hw : wh G S s H locs) {z : Int} (h0 : 0 ≤ z) (h1 : z < 248) (hdg : decode cc pc = .ok (.iaload, 1)) (kk : W p l e R s m args below meth c H locs cells slots Q (F0 m (pc + 1) ls (.int (iI (S 41 z.toNat)) :: rest))) : W p l e R s m args below meth c H locs cells slots Q (F0 m pc ls (.int (iI z) :: .ref (G.2.1 41) :: rest)) := wd_ald hC hw 41 (by decide) rfl (by decide) h0 h1 hdg kk
theorem st_41 (hC : CallFix p m c cc nL s args tws own) (hw : wh G S s H locs) {z x : Int} (h0 : 0 ≤ z) (h1 : z < 248) (hdg : decode cc pc = .ok (.iastore, 1)) (kk : ∀ (H : Heap) (locs : List Loc), wh G (s_up S 41 z.toNat x) s H locs → W p l e R s m args below meth c H locs cells slots Q (F0 m (pc + 1) ls rest)) : W p l e R s m args below meth c H locs cells slots Q (F0 m pc ls (.int (iI x) :: .int (iI z) :: .ref (G.2.1 41) :: rest)) := wd_ast hC hw 41 (by decide) (fun _ => rfl) (by decide) h0 h1 hdg kk
theorem ld_42 (hC : CallFix p m c cc nL s args tws own) (hw : wh G S s H locs) {z : Int} (h0 : 0 ≤ z) (h1 : z < 248) (hdg : decode cc pc = .ok (.iaload, 1)) (kk : W p l e R s m args below meth c H locs cells slots Q (F0 m (pc + 1) ls (.int (iI (S 42 z.toNat)) :: rest))) : W p l e R s m args below meth c H locs cells slots Q (F0 m pc ls (.int (iI z) :: .ref (G.2.1 42) :: rest)) := wd_ald hC hw 42 (by decide) rfl (by decide) h0 h1 hdg kk
theorem st_42 (hC : CallFix p m c cc nL s args tws own) (hw : wh G S s H locs) {z x : Int} (h0 : 0 ≤ z) (h1 : z < 248) (hdg : decode cc pc = .ok (.iastore, 1)) (kk : ∀ (H : Heap) (locs : List Loc), wh G (s_up S 42 z.toNat x) s H locs → W p l e R s m args below meth c H locs cells slots Q (F0 m (pc + 1) ls rest)) : W p l e R s m args below meth c H locs cells slots Q (F0 m pc ls (.int (iI x) :: .int (iI z) :: .ref (G.2.1 42) :: rest)) := wd_ast hC hw 42 (by decide) (fun _ => rfl) (by decide) h0 h1 hdg kk
theorem ld_43 (hC : CallFix p m c cc nL s args tws own) (hw : wh G S s H locs) {z : Int} (h0 : 0 ≤ z) (h1 : z < 8) (hdg : decode cc pc = .ok (.iaload, 1)) (kk : W p l e R s m args below meth c H locs cells slots Q (F0 m (pc + 1) ls (.int (iI (S 43 z.toNat)) :: rest))) : W p l e R s m args below meth c H locs cells slots Q (F0 m pc ls (.int (iI z) :: .ref (G.2.1 43) :: rest)) := wd_ald hC hw 43 (by decide) rfl (by decide) h0 h1 hdg kk
theorem st_43 (hC : CallFix p m c cc nL s args tws own) (hw : wh G S s H locs) {z x : Int} (h0 : 0 ≤ z) (h1 : z < 8) (hdg : decode cc pc = .ok (.iastore, 1)) (kk : ∀ (H : Heap) (locs : List Loc), wh G (s_up S 43 z.toNat x) s H locs → W p l e R s m args below meth c H locs cells slots Q (F0 m (pc + 1) ls rest)) : W p l e R s m args below meth c H locs cells slots Q (F0 m pc ls (.int (iI x) :: .int (iI z) :: .ref (G.2.1 43) :: rest)) := wd_ast hC hw 43 (by decide) (fun _ => rfl) (by decide) h0 h1 hdg kk
theorem lc_4 (k : Nat) (hC : CallFix p m c cc nL s args tws own) (hw : wh G S s H locs) (h1 : (k : Int) < 8) (hdg : decode cc pc = .ok (.iaload, 1)) (kk : W p l e R s m args below meth c H locs cells slots Q (F0 m (pc + 1) ls (.int (iI (S 4 k)) :: rest))) : W p l e R s m args below meth c H locs cells slots Q (F0 m pc ls (.int (iI (k : Int)) :: .ref (G.2.1 4) :: rest)) := ld_4 hC hw (Int.natCast_nonneg k) h1 hdg kk
theorem sc_4 (k : Nat) {x : Int} (hC : CallFix p m c cc nL s args tws own) (hw : wh G S s H locs) (h1 : (k : Int) < 8) (hdg : decode cc pc = .ok (.iastore, 1)) (kk : ∀ (H : Heap) (locs : List Loc), wh G (s_up S 4 k x) s H locs → W p l e R s m args below meth c H locs cells slots Q (F0 m (pc + 1) ls rest)) : W p l e R s m args below meth c H locs cells slots Q (F0 m pc ls (.int (iI x) :: .int (iI (k : Int)) :: .ref (G.2.1 4) :: rest)) := st_4 hC hw (Int.natCast_nonneg k) h1 hdg kk
theorem lc_5 (k : Nat) (hC : CallFix p m c cc nL s args tws own) (hw : wh G S s H locs) (h1 : (k : Int) < 4) (hdg : decode cc pc = .ok (.iaload, 1)) (kk : W p l e R s m args below meth c H locs cells slots Q (F0 m (pc + 1) ls (.int (iI (S 5 k)) :: rest))) : W p l e R s m args below meth c H locs cells slots Q (F0 m pc ls (.int (iI (k : Int)) :: .ref (G.2.1 5) :: rest)) := ld_5 hC hw (Int.natCast_nonneg k) h1 hdg kk
theorem sc_5 (k : Nat) {x : Int} (hC : CallFix p m c cc nL s args tws own) (hw : wh G S s H locs) (h1 : (k : Int) < 4) (hdg : decode cc pc = .ok (.iastore, 1)) (kk : ∀ (H : Heap) (locs : List Loc), wh G (s_up S 5 k x) s H locs → W p l e R s m args below meth c H locs cells slots Q (F0 m (pc + 1) ls rest)) : W p l e R s m args below meth c H locs cells slots Q (F0 m pc ls (.int (iI x) :: .int (iI (k : Int)) :: .ref (G.2.1 5) :: rest)) := st_5 hC hw (Int.natCast_nonneg k) h1 hdg kk
theorem lc_6 (k : Nat) (hC : CallFix p m c cc nL s args tws own) (hw : wh G S s H locs) (h1 : (k : Int) < 12) (hdg : decode cc pc = .ok (.iaload, 1)) (kk : W p l e R s m args below meth c H locs cells slots Q (F0 m (pc + 1) ls (.int (iI (S 6 k)) :: rest))) : W p l e R s m args below meth c H locs cells slots Q (F0 m pc ls (.int (iI (k : Int)) :: .ref (G.2.1 6) :: rest)) := ld_6 hC hw (Int.natCast_nonneg k) h1 hdg kk
theorem sc_6 (k : Nat) {x : Int} (hC : CallFix p m c cc nL s args tws own) (hw : wh G S s H locs) (h1 : (k : Int) < 12) (hdg : decode cc pc = .ok (.iastore, 1)) (kk : ∀ (H : Heap) (locs : List Loc), wh G (s_up S 6 k x) s H locs → W p l e R s m args below meth c H locs cells slots Q (F0 m (pc + 1) ls rest)) : W p l e R s m args below meth c H locs cells slots Q (F0 m pc ls (.int (iI x) :: .int (iI (k : Int)) :: .ref (G.2.1 6) :: rest)) := st_6 hC hw (Int.natCast_nonneg k) h1 hdg kk
theorem lc_7 (k : Nat) (hC : CallFix p m c cc nL s args tws own) (hw : wh G S s H locs) (h1 : (k : Int) < 12) (hdg : decode cc pc = .ok (.iaload, 1)) (kk : W p l e R s m args below meth c H locs cells slots Q (F0 m (pc + 1) ls (.int (iI (S 7 k)) :: rest))) : W p l e R s m args below meth c H locs cells slots Q (F0 m pc ls (.int (iI (k : Int)) :: .ref (G.2.1 7) :: rest)) := ld_7 hC hw (Int.natCast_nonneg k) h1 hdg kk
theorem sc_7 (k : Nat) {x : Int} (hC : CallFix p m c cc nL s args tws own) (hw : wh G S s H locs) (h1 : (k : Int) < 12) (hdg : decode cc pc = .ok (.iastore, 1)) (kk : ∀ (H : Heap) (locs : List Loc), wh G (s_up S 7 k x) s H locs → W p l e R s m args below meth c H locs cells slots Q (F0 m (pc + 1) ls rest)) : W p l e R s m args below meth c H locs cells slots Q (F0 m pc ls (.int (iI x) :: .int (iI (k : Int)) :: .ref (G.2.1 7) :: rest)) := st_7 hC hw (Int.natCast_nonneg k) h1 hdg kk
theorem lc_8 (k : Nat) (hC : CallFix p m c cc nL s args tws own) (hw : wh G S s H locs) (h1 : (k : Int) < 12) (hdg : decode cc pc = .ok (.iaload, 1)) (kk : W p l e R s m args below meth c H locs cells slots Q (F0 m (pc + 1) ls (.int (iI (S 8 k)) :: rest))) : W p l e R s m args below meth c H locs cells slots Q (F0 m pc ls (.int (iI (k : Int)) :: .ref (G.2.1 8) :: rest)) := ld_8 hC hw (Int.natCast_nonneg k) h1 hdg kk
theorem sc_8 (k : Nat) {x : Int} (hC : CallFix p m c cc nL s args tws own) (hw : wh G S s H locs) (h1 : (k : Int) < 12) (hdg : decode cc pc = .ok (.iastore, 1)) (kk : ∀ (H : Heap) (locs : List Loc), wh G (s_up S 8 k x) s H locs → W p l e R s m args below meth c H locs cells slots Q (F0 m (pc + 1) ls rest)) : W p l e R s m args below meth c H locs cells slots Q (F0 m pc ls (.int (iI x) :: .int (iI (k : Int)) :: .ref (G.2.1 8) :: rest)) := st_8 hC hw (Int.natCast_nonneg k) h1 hdg kk
theorem lc_9 (k : Nat) (hC : CallFix p m c cc nL s args tws own) (hw : wh G S s H locs) (h1 : (k : Int) < 12) (hdg : decode cc pc = .ok (.iaload, 1)) (kk : W p l e R s m args below meth c H locs cells slots Q (F0 m (pc + 1) ls (.int (iI (S 9 k)) :: rest))) : W p l e R s m args below meth c H locs cells slots Q (F0 m pc ls (.int (iI (k : Int)) :: .ref (G.2.1 9) :: rest)) := ld_9 hC hw (Int.natCast_nonneg k) h1 hdg kk
theorem sc_9 (k : Nat) {x : Int} (hC : CallFix p m c cc nL s args tws own) (hw : wh G S s H locs) (h1 : (k : Int) < 12) (hdg : decode cc pc = .ok (.iastore, 1)) (kk : ∀ (H : Heap) (locs : List Loc), wh G (s_up S 9 k x) s H locs → W p l e R s m args below meth c H locs cells slots Q (F0 m (pc + 1) ls rest)) : W p l e R s m args below meth c H locs cells slots Q (F0 m pc ls (.int (iI x) :: .int (iI (k : Int)) :: .ref (G.2.1 9) :: rest)) := st_9 hC hw (Int.natCast_nonneg k) h1 hdg kk
theorem lc_10 (k : Nat) (hC : CallFix p m c cc nL s args tws own) (hw : wh G S s H locs) (h1 : (k : Int) < 60) (hdg : decode cc pc = .ok (.iaload, 1)) (kk : W p l e R s m args below meth c H locs cells slots Q (F0 m (pc + 1) ls (.int (iI (S 10 k)) :: rest))) : W p l e R s m args below meth c H locs cells slots Q (F0 m pc ls (.int (iI (k : Int)) :: .ref (G.2.1 10) :: rest)) := ld_10 hC hw (Int.natCast_nonneg k) h1 hdg kk
theorem sc_10 (k : Nat) {x : Int} (hC : CallFix p m c cc nL s args tws own) (hw : wh G S s H locs) (h1 : (k : Int) < 60) (hdg : decode cc pc = .ok (.iastore, 1)) (kk : ∀ (H : Heap) (locs : List Loc), wh G (s_up S 10 k x) s H locs → W p l e R s m args below meth c H locs cells slots Q (F0 m (pc + 1) ls rest)) : W p l e R s m args below meth c H locs cells slots Q (F0 m pc ls (.int (iI x) :: .int (iI (k : Int)) :: .ref (G.2.1 10) :: rest)) := st_10 hC hw (Int.natCast_nonneg k) h1 hdg kk
theorem lc_11 (k : Nat) (hC : CallFix p m c cc nL s args tws own) (hw : wh G S s H locs) (h1 : (k : Int) < 12) (hdg : decode cc pc = .ok (.iaload, 1)) (kk : W p l e R s m args below meth c H locs cells slots Q (F0 m (pc + 1) ls (.int (iI (S 11 k)) :: rest))) : W p l e R s m args below meth c H locs cells slots Q (F0 m pc ls (.int (iI (k : Int)) :: .ref (G.2.1 11) :: rest)) := ld_11 hC hw (Int.natCast_nonneg k) h1 hdg kk
theorem sc_11 (k : Nat) {x : Int} (hC : CallFix p m c cc nL s args tws own) (hw : wh G S s H locs) (h1 : (k : Int) < 12) (hdg : decode cc pc = .ok (.iastore, 1)) (kk : ∀ (H : Heap) (locs : List Loc), wh G (s_up S 11 k x) s H locs → W p l e R s m args below meth c H locs cells slots Q (F0 m (pc + 1) ls rest)) : W p l e R s m args below meth c H locs cells slots Q (F0 m pc ls (.int (iI x) :: .int (iI (k : Int)) :: .ref (G.2.1 11) :: rest)) := st_11 hC hw (Int.natCast_nonneg k) h1 hdg kk
theorem lc_12 (k : Nat) (hC : CallFix p m c cc nL s args tws own) (hw : wh G S s H locs) (h1 : (k : Int) < 48) (hdg : decode cc pc = .ok (.iaload, 1)) (kk : W p l e R s m args below meth c H locs cells slots Q (F0 m (pc + 1) ls (.int (iI (S 12 k)) :: rest))) : W p l e R s m args below meth c H locs cells slots Q (F0 m pc ls (.int (iI (k : Int)) :: .ref (G.2.1 12) :: rest)) := ld_12 hC hw (Int.natCast_nonneg k) h1 hdg kk
theorem sc_12 (k : Nat) {x : Int} (hC : CallFix p m c cc nL s args tws own) (hw : wh G S s H locs) (h1 : (k : Int) < 48) (hdg : decode cc pc = .ok (.iastore, 1)) (kk : ∀ (H : Heap) (locs : List Loc), wh G (s_up S 12 k x) s H locs → W p l e R s m args below meth c H locs cells slots Q (F0 m (pc + 1) ls rest)) : W p l e R s m args below meth c H locs cells slots Q (F0 m pc ls (.int (iI x) :: .int (iI (k : Int)) :: .ref (G.2.1 12) :: rest)) := st_12 hC hw (Int.natCast_nonneg k) h1 hdg kk
theorem lc_13 (k : Nat) (hC : CallFix p m c cc nL s args tws own) (hw : wh G S s H locs) (h1 : (k : Int) < 48) (hdg : decode cc pc = .ok (.iaload, 1)) (kk : W p l e R s m args below meth c H locs cells slots Q (F0 m (pc + 1) ls (.int (iI (S 13 k)) :: rest))) : W p l e R s m args below meth c H locs cells slots Q (F0 m pc ls (.int (iI (k : Int)) :: .ref (G.2.1 13) :: rest)) := ld_13 hC hw (Int.natCast_nonneg k) h1 hdg kk
theorem sc_13 (k : Nat) {x : Int} (hC : CallFix p m c cc nL s args tws own) (hw : wh G S s H locs) (h1 : (k : Int) < 48) (hdg : decode cc pc = .ok (.iastore, 1)) (kk : ∀ (H : Heap) (locs : List Loc), wh G (s_up S 13 k x) s H locs → W p l e R s m args below meth c H locs cells slots Q (F0 m (pc + 1) ls rest)) : W p l e R s m args below meth c H locs cells slots Q (F0 m pc ls (.int (iI x) :: .int (iI (k : Int)) :: .ref (G.2.1 13) :: rest)) := st_13 hC hw (Int.natCast_nonneg k) h1 hdg kk
theorem lc_14 (k : Nat) (hC : CallFix p m c cc nL s args tws own) (hw : wh G S s H locs) (h1 : (k : Int) < 12) (hdg : decode cc pc = .ok (.iaload, 1)) (kk : W p l e R s m args below meth c H locs cells slots Q (F0 m (pc + 1) ls (.int (iI (S 14 k)) :: rest))) : W p l e R s m args below meth c H locs cells slots Q (F0 m pc ls (.int (iI (k : Int)) :: .ref (G.2.1 14) :: rest)) := ld_14 hC hw (Int.natCast_nonneg k) h1 hdg kk
theorem sc_14 (k : Nat) {x : Int} (hC : CallFix p m c cc nL s args tws own) (hw : wh G S s H locs) (h1 : (k : Int) < 12) (hdg : decode cc pc = .ok (.iastore, 1)) (kk : ∀ (H : Heap) (locs : List Loc), wh G (s_up S 14 k x) s H locs → W p l e R s m args below meth c H locs cells slots Q (F0 m (pc + 1) ls rest)) : W p l e R s m args below meth c H locs cells slots Q (F0 m pc ls (.int (iI x) :: .int (iI (k : Int)) :: .ref (G.2.1 14) :: rest)) := st_14 hC hw (Int.natCast_nonneg k) h1 hdg kk
theorem lc_15 (k : Nat) (hC : CallFix p m c cc nL s args tws own) (hw : wh G S s H locs) (h1 : (k : Int) < 12) (hdg : decode cc pc = .ok (.iaload, 1)) (kk : W p l e R s m args below meth c H locs cells slots Q (F0 m (pc + 1) ls (.int (iI (S 15 k)) :: rest))) : W p l e R s m args below meth c H locs cells slots Q (F0 m pc ls (.int (iI (k : Int)) :: .ref (G.2.1 15) :: rest)) := ld_15 hC hw (Int.natCast_nonneg k) h1 hdg kk
theorem sc_15 (k : Nat) {x : Int} (hC : CallFix p m c cc nL s args tws own) (hw : wh G S s H locs) (h1 : (k : Int) < 12) (hdg : decode cc pc = .ok (.iastore, 1)) (kk : ∀ (H : Heap) (locs : List Loc), wh G (s_up S 15 k x) s H locs → W p l e R s m args below meth c H locs cells slots Q (F0 m (pc + 1) ls rest)) : W p l e R s m args below meth c H locs cells slots Q (F0 m pc ls (.int (iI x) :: .int (iI (k : Int)) :: .ref (G.2.1 15) :: rest)) := st_15 hC hw (Int.natCast_nonneg k) h1 hdg kk
theorem lc_16 (k : Nat) (hC : CallFix p m c cc nL s args tws own) (hw : wh G S s H locs) (h1 : (k : Int) < 12) (hdg : decode cc pc = .ok (.iaload, 1)) (kk : W p l e R s m args below meth c H locs cells slots Q (F0 m (pc + 1) ls (.int (iI (S 16 k)) :: rest))) : W p l e R s m args below meth c H locs cells slots Q (F0 m pc ls (.int (iI (k : Int)) :: .ref (G.2.1 16) :: rest)) := ld_16 hC hw (Int.natCast_nonneg k) h1 hdg kk
theorem sc_16 (k : Nat) {x : Int} (hC : CallFix p m c cc nL s args tws own) (hw : wh G S s H locs) (h1 : (k : Int) < 12) (hdg : decode cc pc = .ok (.iastore, 1)) (kk : ∀ (H : Heap) (locs : List Loc), wh G (s_up S 16 k x) s H locs → W p l e R s m args below meth c H locs cells slots Q (F0 m (pc + 1) ls rest)) : W p l e R s m args below meth c H locs cells slots Q (F0 m pc ls (.int (iI x) :: .int (iI (k : Int)) :: .ref (G.2.1 16) :: rest)) := st_16 hC hw (Int.natCast_nonneg k) h1 hdg kk
theorem lc_17 (k : Nat) (hC : CallFix p m c cc nL s args tws own) (hw : wh G S s H locs) (h1 : (k : Int) < 31) (hdg : decode cc pc = .ok (.baload, 1)) (kk : W p l e R s m args below meth c H locs cells slots Q (F0 m (pc + 1) ls (.int (iI (S 17 k)) :: rest))) : W p l e R s m args below meth c H locs cells slots Q (F0 m pc ls (.int (iI (k : Int)) :: .ref (G.2.1 17) :: rest)) := ld_17 hC hw (Int.natCast_nonneg k) h1 hdg kk
theorem sc_17 (k : Nat) {x : Int} (hC : CallFix p m c cc nL s args tws own) (hw : wh G S s H locs) (h1 : (k : Int) < 31) (hb : x = 0 ∨ x = 1) (hdg : decode cc pc = .ok (.bastore, 1)) (kk : ∀ (H : Heap) (locs : List Loc), wh G (s_up S 17 k x) s H locs → W p l e R s m args below meth c H locs cells slots Q (F0 m (pc + 1) ls rest)) : W p l e R s m args below meth c H locs cells slots Q (F0 m pc ls (.int (iI x) :: .int (iI (k : Int)) :: .ref (G.2.1 17) :: rest)) := st_17 hC hw (Int.natCast_nonneg k) h1 hb hdg kk
theorem lc_18 (k : Nat) (hC : CallFix p m c cc nL s args tws own) (hw : wh G S s H locs) (h1 : (k : Int) < 31) (hdg : decode cc pc = .ok (.iaload, 1)) (kk : W p l e R s m args below meth c H locs cells slots Q (F0 m (pc + 1) ls (.int (iI (S 18 k)) :: rest))) : W p l e R s m args below meth c H locs cells slots Q (F0 m pc ls (.int (iI (k : Int)) :: .ref (G.2.1 18) :: rest)) := ld_18 hC hw (Int.natCast_nonneg k) h1 hdg kk
theorem sc_18 (k : Nat) {x : Int} (hC : CallFix p m c cc nL s args tws own) (hw : wh G S s H locs) (h1 : (k : Int) < 31) (hdg : decode cc pc = .ok (.iastore, 1)) (kk : ∀ (H : Heap) (locs : List Loc), wh G (s_up S 18 k x) s H locs → W p l e R s m args below meth c H locs cells slots Q (F0 m (pc + 1) ls rest)) : W p l e R s m args below meth c H locs cells slots Q (F0 m pc ls (.int (iI x) :: .int (iI (k : Int)) :: .ref (G.2.1 18) :: rest)) := st_18 hC hw (Int.natCast_nonneg k) h1 hdg kk
theorem lc_19 (k : Nat) (hC : CallFix p m c cc nL s args tws own) (hw : wh G S s H locs) (h1 : (k : Int) < 31) (hdg : decode cc pc = .ok (.iaload, 1)) (kk : W p l e R s m args below meth c H locs cells slots Q (F0 m (pc + 1) ls (.int (iI (S 19 k)) :: rest))) : W p l e R s m args below meth c H locs cells slots Q (F0 m pc ls (.int (iI (k : Int)) :: .ref (G.2.1 19) :: rest)) := ld_19 hC hw (Int.natCast_nonneg k) h1 hdg kk
theorem sc_19 (k : Nat) {x : Int} (hC : CallFix p m c cc nL s args tws own) (hw : wh G S s H locs) (h1 : (k : Int) < 31) (hdg : decode cc pc = .ok (.iastore, 1)) (kk : ∀ (H : Heap) (locs : List Loc), wh G (s_up S 19 k x) s H locs → W p l e R s m args below meth c H locs cells slots Q (F0 m (pc + 1) ls rest)) : W p l e R s m args below meth c H locs cells slots Q (F0 m pc ls (.int (iI x) :: .int (iI (k : Int)) :: .ref (G.2.1 19) :: rest)) := st_19 hC hw (Int.natCast_nonneg k) h1 hdg kk
theorem lc_20 (k : Nat) (hC : CallFix p m c cc nL s args tws own) (hw : wh G S s H locs) (h1 : (k : Int) < 31) (hdg : decode cc pc = .ok (.iaload, 1)) (kk : W p l e R s m args below meth c H locs cells slots Q (F0 m (pc + 1) ls (.int (iI (S 20 k)) :: rest))) : W p l e R s m args below meth c H locs cells slots Q (F0 m pc ls (.int (iI (k : Int)) :: .ref (G.2.1 20) :: rest)) := ld_20 hC hw (Int.natCast_nonneg k) h1 hdg kk
theorem sc_20 (k : Nat) {x : Int} (hC : CallFix p m c cc nL s args tws own) (hw : wh G S s H locs) (h1 : (k : Int) < 31) (hdg : decode cc pc = .ok (.iastore, 1)) (kk : ∀ (H : Heap) (locs : List Loc), wh G (s_up S 20 k x) s H locs → W p l e R s m args below meth c H locs cells slots Q (F0 m (pc + 1) ls rest)) : W p l e R s m args below meth c H locs cells slots Q (F0 m pc ls (.int (iI x) :: .int (iI (k : Int)) :: .ref (G.2.1 20) :: rest)) := st_20 hC hw (Int.natCast_nonneg k) h1 hdg kk
theorem lc_21 (k : Nat) (hC : CallFix p m c cc nL s args tws own) (hw : wh G S s H locs) (h1 : (k : Int) < 217) (hdg : decode cc pc = .ok (.iaload, 1)) (kk : W p l e R s m args below meth c H locs cells slots Q (F0 m (pc + 1) ls (.int (iI (S 21 k)) :: rest))) : W p l e R s m args below meth c H locs cells slots Q (F0 m pc ls (.int (iI (k : Int)) :: .ref (G.2.1 21) :: rest)) := ld_21 hC hw (Int.natCast_nonneg k) h1 hdg kk
theorem sc_21 (k : Nat) {x : Int} (hC : CallFix p m c cc nL s args tws own) (hw : wh G S s H locs) (h1 : (k : Int) < 217) (hdg : decode cc pc = .ok (.iastore, 1)) (kk : ∀ (H : Heap) (locs : List Loc), wh G (s_up S 21 k x) s H locs → W p l e R s m args below meth c H locs cells slots Q (F0 m (pc + 1) ls rest)) : W p l e R s m args below meth c H locs cells slots Q (F0 m pc ls (.int (iI x) :: .int (iI (k : Int)) :: .ref (G.2.1 21) :: rest)) := st_21 hC hw (Int.natCast_nonneg k) h1 hdg kk
theorem lc_22 (k : Nat) (hC : CallFix p m c cc nL s args tws own) (hw : wh G S s H locs) (h1 : (k : Int) < 217) (hdg : decode cc pc = .ok (.baload, 1)) (kk : W p l e R s m args below meth c H locs cells slots Q (F0 m (pc + 1) ls (.int (iI (S 22 k)) :: rest))) : W p l e R s m args below meth c H locs cells slots Q (F0 m pc ls (.int (iI (k : Int)) :: .ref (G.2.1 22) :: rest)) := ld_22 hC hw (Int.natCast_nonneg k) h1 hdg kk
theorem sc_22 (k : Nat) {x : Int} (hC : CallFix p m c cc nL s args tws own) (hw : wh G S s H locs) (h1 : (k : Int) < 217) (hb : x = 0 ∨ x = 1) (hdg : decode cc pc = .ok (.bastore, 1)) (kk : ∀ (H : Heap) (locs : List Loc), wh G (s_up S 22 k x) s H locs → W p l e R s m args below meth c H locs cells slots Q (F0 m (pc + 1) ls rest)) : W p l e R s m args below meth c H locs cells slots Q (F0 m pc ls (.int (iI x) :: .int (iI (k : Int)) :: .ref (G.2.1 22) :: rest)) := st_22 hC hw (Int.natCast_nonneg k) h1 hb hdg kk
theorem lc_23 (k : Nat) (hC : CallFix p m c cc nL s args tws own) (hw : wh G S s H locs) (h1 : (k : Int) < 248) (hdg : decode cc pc = .ok (.iaload, 1)) (kk : W p l e R s m args below meth c H locs cells slots Q (F0 m (pc + 1) ls (.int (iI (S 23 k)) :: rest))) : W p l e R s m args below meth c H locs cells slots Q (F0 m pc ls (.int (iI (k : Int)) :: .ref (G.2.1 23) :: rest)) := ld_23 hC hw (Int.natCast_nonneg k) h1 hdg kk
theorem sc_23 (k : Nat) {x : Int} (hC : CallFix p m c cc nL s args tws own) (hw : wh G S s H locs) (h1 : (k : Int) < 248) (hdg : decode cc pc = .ok (.iastore, 1)) (kk : ∀ (H : Heap) (locs : List Loc), wh G (s_up S 23 k x) s H locs → W p l e R s m args below meth c H locs cells slots Q (F0 m (pc + 1) ls rest)) : W p l e R s m args below meth c H locs cells slots Q (F0 m pc ls (.int (iI x) :: .int (iI (k : Int)) :: .ref (G.2.1 23) :: rest)) := st_23 hC hw (Int.natCast_nonneg k) h1 hdg kk
theorem lc_24 (k : Nat) (hC : CallFix p m c cc nL s args tws own) (hw : wh G S s H locs) (h1 : (k : Int) < 372) (hdg : decode cc pc = .ok (.iaload, 1)) (kk : W p l e R s m args below meth c H locs cells slots Q (F0 m (pc + 1) ls (.int (iI (S 24 k)) :: rest))) : W p l e R s m args below meth c H locs cells slots Q (F0 m pc ls (.int (iI (k : Int)) :: .ref (G.2.1 24) :: rest)) := ld_24 hC hw (Int.natCast_nonneg k) h1 hdg kk
theorem sc_24 (k : Nat) {x : Int} (hC : CallFix p m c cc nL s args tws own) (hw : wh G S s H locs) (h1 : (k : Int) < 372) (hdg : decode cc pc = .ok (.iastore, 1)) (kk : ∀ (H : Heap) (locs : List Loc), wh G (s_up S 24 k x) s H locs → W p l e R s m args below meth c H locs cells slots Q (F0 m (pc + 1) ls rest)) : W p l e R s m args below meth c H locs cells slots Q (F0 m pc ls (.int (iI x) :: .int (iI (k : Int)) :: .ref (G.2.1 24) :: rest)) := st_24 hC hw (Int.natCast_nonneg k) h1 hdg kk
theorem lc_26 (k : Nat) (hC : CallFix p m c cc nL s args tws own) (hw : wh G S s H locs) (h1 : (k : Int) < 12) (hdg : decode cc pc = .ok (.iaload, 1)) (kk : W p l e R s m args below meth c H locs cells slots Q (F0 m (pc + 1) ls (.int (iI (S 26 k)) :: rest))) : W p l e R s m args below meth c H locs cells slots Q (F0 m pc ls (.int (iI (k : Int)) :: .ref (G.2.1 26) :: rest)) := ld_26 hC hw (Int.natCast_nonneg k) h1 hdg kk
theorem sc_26 (k : Nat) {x : Int} (hC : CallFix p m c cc nL s args tws own) (hw : wh G S s H locs) (h1 : (k : Int) < 12) (hdg : decode cc pc = .ok (.iastore, 1)) (kk : ∀ (H : Heap) (locs : List Loc), wh G (s_up S 26 k x) s H locs → W p l e R s m args below meth c H locs cells slots Q (F0 m (pc + 1) ls rest)) : W p l e R s m args below meth c H locs cells slots Q (F0 m pc ls (.int (iI x) :: .int (iI (k : Int)) :: .ref (G.2.1 26) :: rest)) := st_26 hC hw (Int.natCast_nonneg k) h1 hdg kk
theorem lc_27 (k : Nat) (hC : CallFix p m c cc nL s args tws own) (hw : wh G S s H locs) (h1 : (k : Int) < 12) (hdg : decode cc pc = .ok (.iaload, 1)) (kk : W p l e R s m args below meth c H locs cells slots Q (F0 m (pc + 1) ls (.int (iI (S 27 k)) :: rest))) : W p l e R s m args below meth c H locs cells slots Q (F0 m pc ls (.int (iI (k : Int)) :: .ref (G.2.1 27) :: rest)) := ld_27 hC hw (Int.natCast_nonneg k) h1 hdg kk
theorem sc_27 (k : Nat) {x : Int} (hC : CallFix p m c cc nL s args tws own) (hw : wh G S s H locs) (h1 : (k : Int) < 12) (hdg : decode cc pc = .ok (.iastore, 1)) (kk : ∀ (H : Heap) (locs : List Loc), wh G (s_up S 27 k x) s H locs → W p l e R s m args below meth c H locs cells slots Q (F0 m (pc + 1) ls rest)) : W p l e R s m args below meth c H locs cells slots Q (F0 m pc ls (.int (iI x) :: .int (iI (k : Int)) :: .ref (G.2.1 27) :: rest)) := st_27 hC hw (Int.natCast_nonneg k) h1 hdg kk
theorem lc_28 (k : Nat) (hC : CallFix p m c cc nL s args tws own) (hw : wh G S s H locs) (h1 : (k : Int) < 12) (hdg : decode cc pc = .ok (.iaload, 1)) (kk : W p l e R s m args below meth c H locs cells slots Q (F0 m (pc + 1) ls (.int (iI (S 28 k)) :: rest))) : W p l e R s m args below meth c H locs cells slots Q (F0 m pc ls (.int (iI (k : Int)) :: .ref (G.2.1 28) :: rest)) := ld_28 hC hw (Int.natCast_nonneg k) h1 hdg kk
theorem sc_28 (k : Nat) {x : Int} (hC : CallFix p m c cc nL s args tws own) (hw : wh G S s H locs) (h1 : (k : Int) < 12) (hdg : decode cc pc = .ok (.iastore, 1)) (kk : ∀ (H : Heap) (locs : List Loc), wh G (s_up S 28 k x) s H locs → W p l e R s m args below meth c H locs cells slots Q (F0 m (pc + 1) ls rest)) : W p l e R s m args below meth c H locs cells slots Q (F0 m pc ls (.int (iI x) :: .int (iI (k : Int)) :: .ref (G.2.1 28) :: rest)) := st_28 hC hw (Int.natCast_nonneg k) h1 hdg kk
theorem lc_29 (k : Nat) (hC : CallFix p m c cc nL s args tws own) (hw : wh G S s H locs) (h1 : (k : Int) < 12) (hdg : decode cc pc = .ok (.iaload, 1)) (kk : W p l e R s m args below meth c H locs cells slots Q (F0 m (pc + 1) ls (.int (iI (S 29 k)) :: rest))) : W p l e R s m args below meth c H locs cells slots Q (F0 m pc ls (.int (iI (k : Int)) :: .ref (G.2.1 29) :: rest)) := ld_29 hC hw (Int.natCast_nonneg k) h1 hdg kk
theorem sc_29 (k : Nat) {x : Int} (hC : CallFix p m c cc nL s args tws own) (hw : wh G S s H locs) (h1 : (k : Int) < 12) (hdg : decode cc pc = .ok (.iastore, 1)) (kk : ∀ (H : Heap) (locs : List Loc), wh G (s_up S 29 k x) s H locs → W p l e R s m args below meth c H locs cells slots Q (F0 m (pc + 1) ls rest)) : W p l e R s m args below meth c H locs cells slots Q (F0 m pc ls (.int (iI x) :: .int (iI (k : Int)) :: .ref (G.2.1 29) :: rest)) := st_29 hC hw (Int.natCast_nonneg k) h1 hdg kk
theorem lc_30 (k : Nat) (hC : CallFix p m c cc nL s args tws own) (hw : wh G S s H locs) (h1 : (k : Int) < 60) (hdg : decode cc pc = .ok (.iaload, 1)) (kk : W p l e R s m args below meth c H locs cells slots Q (F0 m (pc + 1) ls (.int (iI (S 30 k)) :: rest))) : W p l e R s m args below meth c H locs cells slots Q (F0 m pc ls (.int (iI (k : Int)) :: .ref (G.2.1 30) :: rest)) := ld_30 hC hw (Int.natCast_nonneg k) h1 hdg kk
theorem sc_30 (k : Nat) {x : Int} (hC : CallFix p m c cc nL s args tws own) (hw : wh G S s H locs) (h1 : (k : Int) < 60) (hdg : decode cc pc = .ok (.iastore, 1)) (kk : ∀ (H : Heap) (locs : List Loc), wh G (s_up S 30 k x) s H locs → W p l e R s m args below meth c H locs cells slots Q (F0 m (pc + 1) ls rest)) : W p l e R s m args below meth c H locs cells slots Q (F0 m pc ls (.int (iI x) :: .int (iI (k : Int)) :: .ref (G.2.1 30) :: rest)) := st_30 hC hw (Int.natCast_nonneg k) h1 hdg kk
theorem lc_31 (k : Nat) (hC : CallFix p m c cc nL s args tws own) (hw : wh G S s H locs) (h1 : (k : Int) < 12) (hdg : decode cc pc = .ok (.iaload, 1)) (kk : W p l e R s m args below meth c H locs cells slots Q (F0 m (pc + 1) ls (.int (iI (S 31 k)) :: rest))) : W p l e R s m args below meth c H locs cells slots Q (F0 m pc ls (.int (iI (k : Int)) :: .ref (G.2.1 31) :: rest)) := ld_31 hC hw (Int.natCast_nonneg k) h1 hdg kk
theorem sc_31 (k : Nat) {x : Int} (hC : CallFix p m c cc nL s args tws own) (hw : wh G S s H locs) (h1 : (k : Int) < 12) (hdg : decode cc pc = .ok (.iastore, 1)) (kk : ∀ (H : Heap) (locs : List Loc), wh G (s_up S 31 k x) s H locs → W p l e R s m args below meth c H locs cells slots Q (F0 m (pc + 1) ls rest)) : W p l e R s m args below meth c H locs cells slots Q (F0 m pc ls (.int (iI x) :: .int (iI (k : Int)) :: .ref (G.2.1 31) :: rest)) := st_31 hC hw (Int.natCast_nonneg k) h1 hdg kk
theorem lc_32 (k : Nat) (hC : CallFix p m c cc nL s args tws own) (hw : wh G S s H locs) (h1 : (k : Int) < 48) (hdg : decode cc pc = .ok (.iaload, 1)) (kk : W p l e R s m args below meth c H locs cells slots Q (F0 m (pc + 1) ls (.int (iI (S 32 k)) :: rest))) : W p l e R s m args below meth c H locs cells slots Q (F0 m pc ls (.int (iI (k : Int)) :: .ref (G.2.1 32) :: rest)) := ld_32 hC hw (Int.natCast_nonneg k) h1 hdg kk
theorem sc_32 (k : Nat) {x : Int} (hC : CallFix p m c cc nL s args tws own) (hw : wh G S s H locs) (h1 : (k : Int) < 48) (hdg : decode cc pc = .ok (.iastore, 1)) (kk : ∀ (H : Heap) (locs : List Loc), wh G (s_up S 32 k x) s H locs → W p l e R s m args below meth c H locs cells slots Q (F0 m (pc + 1) ls rest)) : W p l e R s m args below meth c H locs cells slots Q (F0 m pc ls (.int (iI x) :: .int (iI (k : Int)) :: .ref (G.2.1 32) :: rest)) := st_32 hC hw (Int.natCast_nonneg k) h1 hdg kk
theorem lc_33 (k : Nat) (hC : CallFix p m c cc nL s args tws own) (hw : wh G S s H locs) (h1 : (k : Int) < 48) (hdg : decode cc pc = .ok (.iaload, 1)) (kk : W p l e R s m args below meth c H locs cells slots Q (F0 m (pc + 1) ls (.int (iI (S 33 k)) :: rest))) : W p l e R s m args below meth c H locs cells slots Q (F0 m pc ls (.int (iI (k : Int)) :: .ref (G.2.1 33) :: rest)) := ld_33 hC hw (Int.natCast_nonneg k) h1 hdg kk
theorem sc_33 (k : Nat) {x : Int} (hC : CallFix p m c cc nL s args tws own) (hw : wh G S s H locs) (h1 : (k : Int) < 48) (hdg : decode cc pc = .ok (.iastore, 1)) (kk : ∀ (H : Heap) (locs : List Loc), wh G (s_up S 33 k x) s H locs → W p l e R s m args below meth c H locs cells slots Q (F0 m (pc + 1) ls rest)) : W p l e R s m args below meth c H locs cells slots Q (F0 m pc ls (.int (iI x) :: .int (iI (k : Int)) :: .ref (G.2.1 33) :: rest)) := st_33 hC hw (Int.natCast_nonneg k) h1 hdg kk
theorem lc_34 (k : Nat) (hC : CallFix p m c cc nL s args tws own) (hw : wh G S s H locs) (h1 : (k : Int) < 12) (hdg : decode cc pc = .ok (.iaload, 1)) (kk : W p l e R s m args below meth c H locs cells slots Q (F0 m (pc + 1) ls (.int (iI (S 34 k)) :: rest))) : W p l e R s m args below meth c H locs cells slots Q (F0 m pc ls (.int (iI (k : Int)) :: .ref (G.2.1 34) :: rest)) := ld_34 hC hw (Int.natCast_nonneg k) h1 hdg kk
theorem sc_34 (k : Nat) {x : Int} (hC : CallFix p m c cc nL s args tws own) (hw : wh G S s H locs) (h1 : (k : Int) < 12) (hdg : decode cc pc = .ok (.iastore, 1)) (kk : ∀ (H : Heap) (locs : List Loc), wh G (s_up S 34 k x) s H locs → W p l e R s m args below meth c H locs cells slots Q (F0 m (pc + 1) ls rest)) : W p l e R s m args below meth c H locs cells slots Q (F0 m pc ls (.int (iI x) :: .int (iI (k : Int)) :: .ref (G.2.1 34) :: rest)) := st_34 hC hw (Int.natCast_nonneg k) h1 hdg kk
theorem lc_35 (k : Nat) (hC : CallFix p m c cc nL s args tws own) (hw : wh G S s H locs) (h1 : (k : Int) < 12) (hdg : decode cc pc = .ok (.iaload, 1)) (kk : W p l e R s m args below meth c H locs cells slots Q (F0 m (pc + 1) ls (.int (iI (S 35 k)) :: rest))) : W p l e R s m args below meth c H locs cells slots Q (F0 m pc ls (.int (iI (k : Int)) :: .ref (G.2.1 35) :: rest)) := ld_35 hC hw (Int.natCast_nonneg k) h1 hdg kk
theorem sc_35 (k : Nat) {x : Int} (hC : CallFix p m c cc nL s args tws own) (hw : wh G S s H locs) (h1 : (k : Int) < 12) (hdg : decode cc pc = .ok (.iastore, 1)) (kk : ∀ (H : Heap) (locs : List Loc), wh G (s_up S 35 k x) s H locs → W p l e R s m args below meth c H locs cells slots Q (F0 m (pc + 1) ls rest)) : W p l e R s m args below meth c H locs cells slots Q (F0 m pc ls (.int (iI x) :: .int (iI (k : Int)) :: .ref (G.2.1 35) :: rest)) := st_35 hC hw (Int.natCast_nonneg k) h1 hdg kk
theorem lc_36 (k : Nat) (hC : CallFix p m c cc nL s args tws own) (hw : wh G S s H locs) (h1 : (k : Int) < 12) (hdg : decode cc pc = .ok (.iaload, 1)) (kk : W p l e R s m args below meth c H locs cells slots Q (F0 m (pc + 1) ls (.int (iI (S 36 k)) :: rest))) : W p l e R s m args below meth c H locs cells slots Q (F0 m pc ls (.int (iI (k : Int)) :: .ref (G.2.1 36) :: rest)) := ld_36 hC hw (Int.natCast_nonneg k) h1 hdg kk
theorem sc_36 (k : Nat) {x : Int} (hC : CallFix p m c cc nL s args tws own) (hw : wh G S s H locs) (h1 : (k : Int) < 12) (hdg : decode cc pc = .ok (.iastore, 1)) (kk : ∀ (H : Heap) (locs : List Loc), wh G (s_up S 36 k x) s H locs → W p l e R s m args below meth c H locs cells slots Q (F0 m (pc + 1) ls rest)) : W p l e R s m args below meth c H locs cells slots Q (F0 m pc ls (.int (iI x) :: .int (iI (k : Int)) :: .ref (G.2.1 36) :: rest)) := st_36 hC hw (Int.natCast_nonneg k) h1 hdg kk
theorem lc_37 (k : Nat) (hC : CallFix p m c cc nL s args tws own) (hw : wh G S s H locs) (h1 : (k : Int) < 31) (hdg : decode cc pc = .ok (.iaload, 1)) (kk : W p l e R s m args below meth c H locs cells slots Q (F0 m (pc + 1) ls (.int (iI (S 37 k)) :: rest))) : W p l e R s m args below meth c H locs cells slots Q (F0 m pc ls (.int (iI (k : Int)) :: .ref (G.2.1 37) :: rest)) := ld_37 hC hw (Int.natCast_nonneg k) h1 hdg kk
theorem sc_37 (k : Nat) {x : Int} (hC : CallFix p m c cc nL s args tws own) (hw : wh G S s H locs) (h1 : (k : Int) < 31) (hdg : decode cc pc = .ok (.iastore, 1)) (kk : ∀ (H : Heap) (locs : List Loc), wh G (s_up S 37 k x) s H locs → W p l e R s m args below meth c H locs cells slots Q (F0 m (pc + 1) ls rest)) : W p l e R s m args below meth c H locs cells slots Q (F0 m pc ls (.int (iI x) :: .int (iI (k : Int)) :: .ref (G.2.1 37) :: rest)) := st_37 hC hw (Int.natCast_nonneg k) h1 hdg kk
theorem lc_38 (k : Nat) (hC : CallFix p m c cc nL s args tws own) (hw : wh G S s H locs) (h1 : (k : Int) < 31) (hdg : decode cc pc = .ok (.iaload, 1)) (kk : W p l e R s m args below meth c H locs cells slots Q (F0 m (pc + 1) ls (.int (iI (S 38 k)) :: rest))) : W p l e R s m args below meth c H locs cells slots Q (F0 m pc ls (.int (iI (k : Int)) :: .ref (G.2.1 38) :: rest)) := ld_38 hC hw (Int.natCast_nonneg k) h1 hdg kk
theorem sc_38 (k : Nat) {x : Int} (hC : CallFix p m c cc nL s args tws own) (hw : wh G S s H locs) (h1 : (k : Int) < 31) (hdg : decode cc pc = .ok (.iastore, 1)) (kk : ∀ (H : Heap) (locs : List Loc), wh G (s_up S 38 k x) s H locs → W p l e R s m args below meth c H locs cells slots Q (F0 m (pc + 1) ls rest)) : W p l e R s m args below meth c H locs cells slots Q (F0 m pc ls (.int (iI x) :: .int (iI (k : Int)) :: .ref (G.2.1 38) :: rest)) := st_38 hC hw (Int.natCast_nonneg k) h1 hdg kk
theorem lc_39 (k : Nat) (hC : CallFix p m c cc nL s args tws own) (hw : wh G S s H locs) (h1 : (k : Int) < 31) (hdg : decode cc pc = .ok (.baload, 1)) (kk : W p l e R s m args below meth c H locs cells slots Q (F0 m (pc + 1) ls (.int (iI (S 39 k)) :: rest))) : W p l e R s m args below meth c H locs cells slots Q (F0 m pc ls (.int (iI (k : Int)) :: .ref (G.2.1 39) :: rest)) := ld_39 hC hw (Int.natCast_nonneg k) h1 hdg kk
theorem sc_39 (k : Nat) {x : Int} (hC : CallFix p m c cc nL s args tws own) (hw : wh G S s H locs) (h1 : (k : Int) < 31) (hb : x = 0 ∨ x = 1) (hdg : decode cc pc = .ok (.bastore, 1)) (kk : ∀ (H : Heap) (locs : List Loc), wh G (s_up S 39 k x) s H locs → W p l e R s m args below meth c H locs cells slots Q (F0 m (pc + 1) ls rest)) : W p l e R s m args below meth c H locs cells slots Q (F0 m pc ls (.int (iI x) :: .int (iI (k : Int)) :: .ref (G.2.1 39) :: rest)) := st_39 hC hw (Int.natCast_nonneg k) h1 hb hdg kk
theorem lc_40 (k : Nat) (hC : CallFix p m c cc nL s args tws own) (hw : wh G S s H locs) (h1 : (k : Int) < 31) (hdg : decode cc pc = .ok (.iaload, 1)) (kk : W p l e R s m args below meth c H locs cells slots Q (F0 m (pc + 1) ls (.int (iI (S 40 k)) :: rest))) : W p l e R s m args below meth c H locs cells slots Q (F0 m pc ls (.int (iI (k : Int)) :: .ref (G.2.1 40) :: rest)) := ld_40 hC hw (Int.natCast_nonneg k) h1 hdg kk
theorem sc_40 (k : Nat) {x : Int} (hC : CallFix p m c cc nL s args tws own) (hw : wh G S s H locs) (h1 : (k : Int) < 31) (hdg : decode cc pc = .ok (.iastore, 1)) (kk : ∀ (H : Heap) (locs : List Loc), wh G (s_up S 40 k x) s H locs → W p l e R s m args below meth c H locs cells slots Q (F0 m (pc + 1) ls rest)) : W p l e R s m args below meth c H locs cells slots Q (F0 m pc ls (.int (iI x) :: .int (iI (k : Int)) :: .ref (G.2.1 40) :: rest)) := st_40 hC hw (Int.natCast_nonneg k) h1 hdg kk
theorem lc_41 (k : Nat) (hC : CallFix p m c cc nL s args tws own) (hw : wh G S s H locs) (h1 : (k : Int) < 248) (hdg : decode cc pc = .ok (.iaload, 1)) (kk : W p l e R s m args below meth c H locs cells slots Q (F0 m (pc + 1) ls (.int (iI (S 41 k)) :: rest))) : W p l e R s m args below meth c H locs cells slots Q (F0 m pc ls (.int (iI (k : Int)) :: .ref (G.2.1 41) :: rest)) := ld_41 hC hw (Int.natCast_nonneg k) h1 hdg kk
theorem sc_41 (k : Nat) {x : Int} (hC : CallFix p m c cc nL s args tws own) (hw : wh G S s H locs) (h1 : (k : Int) < 248) (hdg : decode cc pc = .ok (.iastore, 1)) (kk : ∀ (H : Heap) (locs : List Loc), wh G (s_up S 41 k x) s H locs → W p l e R s m args below meth c H locs cells slots Q (F0 m (pc + 1) ls rest)) : W p l e R s m args below meth c H locs cells slots Q (F0 m pc ls (.int (iI x) :: .int (iI (k : Int)) :: .ref (G.2.1 41) :: rest)) := st_41 hC hw (Int.natCast_nonneg k) h1 hdg kk
theorem lc_42 (k : Nat) (hC : CallFix p m c cc nL s args tws own) (hw : wh G S s H locs) (h1 : (k : Int) < 248) (hdg : decode cc pc = .ok (.iaload, 1)) (kk : W p l e R s m args below meth c H locs cells slots Q (F0 m (pc + 1) ls (.int (iI (S 42 k)) :: rest))) : W p l e R s m args below meth c H locs cells slots Q (F0 m pc ls (.int (iI (k : Int)) :: .ref (G.2.1 42) :: rest)) := ld_42 hC hw (Int.natCast_nonneg k) h1 hdg kk
theorem sc_42 (k : Nat) {x : Int} (hC : CallFix p m c cc nL s args tws own) (hw : wh G S s H locs) (h1 : (k : Int) < 248) (hdg : decode cc pc = .ok (.iastore, 1)) (kk : ∀ (H : Heap) (locs : List Loc), wh G (s_up S 42 k x) s H locs → W p l e R s m args below meth c H locs cells slots Q (F0 m (pc + 1) ls rest)) : W p l e R s m args below meth c H locs cells slots Q (F0 m pc ls (.int (iI x) :: .int (iI (k : Int)) :: .ref (G.2.1 42) :: rest)) := st_42 hC hw (Int.natCast_nonneg k) h1 hdg kk
theorem lc_43 (k : Nat) (hC : CallFix p m c cc nL s args tws own) (hw : wh G S s H locs) (h1 : (k : Int) < 8) (hdg : decode cc pc = .ok (.iaload, 1)) (kk : W p l e R s m args below meth c H locs cells slots Q (F0 m (pc + 1) ls (.int (iI (S 43 k)) :: rest))) : W p l e R s m args below meth c H locs cells slots Q (F0 m pc ls (.int (iI (k : Int)) :: .ref (G.2.1 43) :: rest)) := ld_43 hC hw (Int.natCast_nonneg k) h1 hdg kk
theorem sc_43 (k : Nat) {x : Int} (hC : CallFix p m c cc nL s args tws own) (hw : wh G S s H locs) (h1 : (k : Int) < 8) (hdg : decode cc pc = .ok (.iastore, 1)) (kk : ∀ (H : Heap) (locs : List Loc), wh G (s_up S 43 k x) s H locs → W p l e R s m args below meth c H locs cells slots Q (F0 m (pc + 1) ls rest)) : W p l e R s m args below meth c H locs cells slots Q (F0 m pc ls (.int (iI x) :: .int (iI (k : Int)) :: .ref (G.2.1 43) :: rest)) := st_43 hC hw (Int.natCast_nonneg k) h1 hdg kk
end WR
end
section
/-! CONTRACTS in the words of the world: entry, ends, calls -/
theorem wd_D {A : Nat → Prop} {G : Gt} {S : St} (S' : St) (h : va_D A (wld G S)) : va_D A (wld G S') := by
  have key : ∀ (S1 S2 : St) (k : Nat) (q : Nat × va_E), (wld G S1)[k]? = some q → ∃ q', (wld G S2)[k]? = some q' ∧ q'.1 = q.1 := by
    intro S1 S2 k q hq
    have hk : k < 45 := by
      have := (List.getElem?_eq_some_iff.mp hq).1
      simp [wld] at this
      exact this
    rw [wd_at G S1 hk] at hq
    exact ⟨_, wd_at G S2 hk, by rw [← Option.some.inj hq]⟩
  refine ⟨fun i j p q hi hj hpq => ?_, fun k q hk => ?_⟩
  · obtain ⟨p', h1, e1⟩ := key S' S i p hi
    obtain ⟨q', h2, e2⟩ := key S' S j q hj
    exact h.1 i j p' q' h1 h2 (by rw [e1, e2]; exact hpq)
  · obtain ⟨q', h1, e1⟩ := key S' S k q hk
    rw [← e1]
    exact h.2 k q' h1
theorem wu_blind (As : List Value) (G : Gt) (S : St) : FrameBlind (va_Pc As (fun U => wu G S U)) := by
  intro a U g mk h
  obtain ⟨h0, h1, h2, h3, h4⟩ := h
  exact ⟨h0, va_K.moved (u := U) (U := U.calling g mk a) (Vm.Alike.refl U.vm) h1, h2, h3, tw_same (s := U) (U := U.calling g mk a) rfl h4⟩
theorem wu_of {G : Gt} {S : St} {s U : State} {H : Heap} {locs : List Loc} {args : Array Value} (hw : wh G S s H locs) (hts : ∀ w ∈ tws, w.before args s = true) (hU : U.heap = H) (hW : s.WarmedH U.vm) : wu G S U :=
  ⟨va_K.moved hW.alike hw.1, by rw [hU]; exact hw.2.1, hw.2.2.1, tw_warm hW hts⟩
/-- a method that only reads: its answer -/
abbrev qR (r : Int) : Array Value → State → Outcome → State → Prop := fun _ st oc t => oc = .returned (some (.int (iI r))) ∧ t.heap = st.heap
/-- a method that writes: its answer, the new state -/
abbrev qW (G : Gt) (S : St) (r : Int) : Array Value → State → Outcome → State → Prop := fun _ st oc t => oc = .returned (some (.int (iI r))) ∧ va_P G.1 cls_all (wld G S) t.heap ∧ va_F (gA G) st t
/-- ... without an answer -/
abbrev qV (G : Gt) (S : St) : Array Value → State → Outcome → State → Prop := fun _ st oc t => oc = .returned none ∧ va_P G.1 cls_all (wld G S) t.heap ∧ va_F (gA G) st t
theorem mt_of {l : Launch} {y : MethodName} {b : ByteArray} {n : Nat} {ret : Option FieldType} {rm : Room} {As : List Value} {G : Gt} {S : St} {Qc : Array Value → State → Outcome → State → Prop} {mc ms : Nat} {free : Addr → Prop} (hy : plainName y.cls = true) (hn : (lg_sl As).length ≤ n)
    (body : ∀ (p : Program) (e : Env) (s : State) (m : MethodId) (below : List Frame) (meth : Method) (c : Code) (ls : Array Slot), l.admits e → CallFix p m c b n s As.toArray tws y.cls → meth.sig.returnType = ret → meth.locks = false → c.exceptionTable.isEmpty = true → wh G S s s.heap [] → lv_has ls n (lv_args 0 As) → W p l e rm s m As.toArray below meth c s.heap [] 0 0 (MQ below Qc As.toArray s mc ms free) (F0 m 0 ls [])) :
    Met l y [.code y b n ret] rm (va_Pc As (fun U => wu G S U)) Qc mc ms free := by
  refine Met.ofW (cc := b) (maxL := n) (ret := ret) hy rfl ?_
  intro p e s m args below meth c s₁ B hml hv
  obtain ⟨rfl, hK, hP, hD, ht⟩ := hv
  rw [lg_entry_eq]
  have hts : ∀ w ∈ tws, w.before As.toArray s = true := tw_same (s := s) (U := s) rfl ht
  have hl := lv_entry As (n := n) hn
  have hcode := atoms_spec (ws := [.code y b n ret]) B.pre _ List.mem_cons_self
  exact body p e s m below meth c _ (Stand.of_body B).admits ⟨B.exec, B.bytes, hml, findClass_of_methodNamed B.named, hts⟩ B.returns B.notSynchronized (BodyLoose.noHandlers B hcode) ⟨hK, hP, hD, va_S.rf⟩ hl
section CL
variable {p : Program} {l : Launch} {e : Env} {R : Room} {s : State} {m : MethodId} {args : Array Value} {below : List Frame} {meth : Method} {c : Code} {H : Heap} {locs : List Loc} {cells slots : Nat} {Q : State → Prop}
variable {cc : ByteArray} {pc nL : Nat} {ls : Array Slot} {rest : List Value} {G : Gt} {S : St} {own : String}
theorem rt_R {v r : Int} (hC : CallFix p m c cc nL s args tws own) (hr : meth.sig.returnType = some .int) (hlk : meth.locks = false) (hv : v = r) (hdg : decode cc pc = .ok (.ireturn, 1)) : W p l e R s m args below meth c s.heap [] 0 0 (MQ below (qR r) args s 0 0 (fun _ => False)) (F0 m pc ls [.int (iI v)]) := by
  subst hv
  exact W.iret hC.1 hC.2.1 hr (fun t ht _ => ⟨rfl, ht⟩) (fun q h => by cases h) hdg hlk
theorem rt_RZ {v r : Int} (hC : CallFix p m c cc nL s args tws own) (hr : meth.sig.returnType = some .boolean) (hlk : meth.locks = false) (hz : v = 0 ∨ v = 1) (hv : v = r) (hdg : decode cc pc = .ok (.ireturn, 1)) : W p l e R s m args below meth c s.heap [] 0 0 (MQ below (qR r) args s 0 0 (fun _ => False)) (F0 m pc ls [.int (iI v)]) := by
  subst hv
  exact W.zret hC.1 hC.2.1 hr (nar_b hz) (fun t ht _ => ⟨rfl, ht⟩) (fun q h => by cases h) hdg hlk
theorem rt_W {v r : Int} {S' : St} (hC : CallFix p m c cc nL s args tws own) (hr : meth.sig.returnType = some .int) (hlk : meth.locks = false) (hw : wh G S s H locs) (hv : v = r) (hS : S = S') (hdg : decode cc pc = .ok (.ireturn, 1)) : W p l e R s m args below meth c H locs cells slots (MQ below (qW G S' r) args s cells slots (gA G)) (F0 m pc ls [.int (iI v)]) := by
  subst hv
  subst hS
  exact W.iret hC.1 hC.2.1 hr (fun t ht _ => ⟨rfl, by rw [ht]; exact hw.2.1, hw.2.2.2.F ht⟩) (fun q h => hw.2.2.2.2.2 q h) hdg hlk
theorem rt_WZ {v r : Int} {S' : St} (hC : CallFix p m c cc nL s args tws own) (hr : meth.sig.returnType = some .boolean) (hlk : meth.locks = false) (hw : wh G S s H locs) (hz : v = 0 ∨ v = 1) (hv : v = r) (hS : S = S') (hdg : decode cc pc = .ok (.ireturn, 1)) : W p l e R s m args below meth c H locs cells slots (MQ below (qW G S' r) args s cells slots (gA G)) (F0 m pc ls [.int (iI v)]) := by
  subst hv
  subst hS
  exact W.zret hC.1 hC.2.1 hr (nar_b hz) (fun t ht _ => ⟨rfl, by rw [ht]; exact hw.2.1, hw.2.2.2.F ht⟩) (fun q h => hw.2.2.2.2.2 q h) hdg hlk
theorem rt_V {S' : St} (hC : CallFix p m c cc nL s args tws own) (hr : meth.sig.returnType = none) (hlk : meth.locks = false) (hw : wh G S s H locs) (hS : S = S') (hdg : decode cc pc = .ok (.return_, 1)) : W p l e R s m args below meth c H locs cells slots (MQ below (qV G S') args s cells slots (gA G)) (F0 m pc ls []) := by
  subst hS
  exact W.vret hC.1 hC.2.1 hr (fun t ht _ => ⟨rfl, by rw [ht]; exact hw.2.1, hw.2.2.2.F ht⟩) (fun q h => hw.2.2.2.2.2 q h) hdg hlk
/-- behind a call of a method that only reads -/
theorem go_R {r : Int} {a : Array Value} {st0 : List Value} (hr : va_Run p l e R s m args below meth c H locs cells slots 0 0 (F0 m pc ls st0) rest (qR r a) (fun _ => False))
    (kk : W p l e R s m args below meth c H locs cells slots Q (F0 m (pc + 3) ls (.int (iI r) :: rest))) : W p l e R s m args below meth c H locs cells slots Q (F0 m pc ls st0) := by
  intro T hT X
  obtain ⟨v, st₀, t, T', L, h0, X', hL, e1, -, ⟨hv, hh⟩, st⟩ := hr T hT X
  cases hv
  obtain ⟨t2, a1, b1⟩ := kk T' (by rw [e1, hh, h0]) (Stand.forget X' (fun q h => (hL q h).elim))
  exact ⟨t2, st t2 a1, b1⟩
theorem go_W {r : Int} {S' : St} {a : Array Value} {st0 : List Value} (hr : va_Run p l e R s m args below meth c H locs cells slots 0 0 (F0 m pc ls st0) rest (qW G S' r a) (gA G)) (hw : wh G S s H locs)
    (kk : ∀ (H : Heap) (locs : List Loc), wh G S' s H locs → W p l e R s m args below meth c H locs cells slots Q (F0 m (pc + 3) ls (.int (iI r) :: rest))) : W p l e R s m args below meth c H locs cells slots Q (F0 m pc ls st0) := by
  intro T hT X
  obtain ⟨v, st₀, t, T', L, h0, X', hL, e1, -, ⟨hv, hP, hz, hk⟩, st⟩ := hr T hT X
  cases hv
  rw [h0] at hz hk
  obtain ⟨t2, a1, b1⟩ := kk T'.heap (locs ++ L) ⟨hw.1, by rw [e1]; exact hP, wd_D S' hw.2.2.1, Nat.le_trans hw.2.2.2.1 (by rw [e1]; exact hz), fun q h1 h2 => by rw [e1, hk q (Nat.lt_of_lt_of_le h1 hw.2.2.2.1) h2]; exact hw.2.2.2.2.1 q h1 h2, fun q hq => by
      rcases List.mem_append.mp hq with h | h
      · exact hw.2.2.2.2.2 q h
      · exact hL q h⟩ T' rfl X'
  exact ⟨t2, st t2 a1, b1⟩
theorem go_V {S' : St} {a : Array Value} {st0 : List Value} (hr : va_Run p l e R s m args below meth c H locs cells slots 0 0 (F0 m pc ls st0) rest (qV G S' a) (gA G)) (hw : wh G S s H locs)
    (kk : ∀ (H : Heap) (locs : List Loc), wh G S' s H locs → W p l e R s m args below meth c H locs cells slots Q (F0 m (pc + 3) ls rest)) : W p l e R s m args below meth c H locs cells slots Q (F0 m pc ls st0) := by
  intro T hT X
  obtain ⟨v, st₀, t, T', L, h0, X', hL, e1, -, ⟨hv, hP, hz, hk⟩, st⟩ := hr T hT X
  cases hv
  rw [h0] at hz hk
  obtain ⟨t2, a1, b1⟩ := kk T'.heap (locs ++ L) ⟨hw.1, by rw [e1]; exact hP, wd_D S' hw.2.2.1, Nat.le_trans hw.2.2.2.1 (by rw [e1]; exact hz), fun q h1 h2 => by rw [e1, hk q (Nat.lt_of_lt_of_le h1 hw.2.2.2.1) h2]; exact hw.2.2.2.2.1 q h1 h2, fun q hq => by
      rcases List.mem_append.mp hq with h | h
      · exact hw.2.2.2.2.2 q h
      · exact hL q h⟩ T' rfl X'
  exact ⟨t2, st t2 a1, b1⟩
variable {y : MethodName} {b : ByteArray} {maxL mc ms n index : Nat} {ret : Option FieldType} {rm : Room} {Qc : Array Value → State → Outcome → State → Prop} {free : Addr → Prop} {As : List Value} {st0 : List Value}
/-- the words of a call, out of the tables -/
theorem mkB (hC : CallFix p m c cc nL s args tws own) (n : Nat) (hcode : Cond.code y b maxL ret ∈ tws) (hini : Cond.initialized y.cls ∈ tws) (hlink : Cond.methodLink own index y ∈ tws) (hrc : rm.cells = mc) (hrs : rm.slots = ms) (hd : y.cls ≠ "java/lang/invoke/MethodHandle" ∧ y.cls ≠ "java/lang/invoke/VarHandle" ∧ (parseMethodDescriptor y.desc).map (fun d => d.parameters.length) = some n) (hf : rm.frames + 1 ≤ R.frames) (hlo : 8 + (maxL + 11) + rm.locals ≤ R.locals) : CallB R s args own index y b maxL ret [.code y b maxL ret] rm mc ms n := by
  have hts := hC.2.2.2.2
  refine ⟨hrc, hrs, hf, hlo, fun w hw a' U hW => tw_warm hW hts w (by rw [List.mem_singleton.mp hw]; exact hcode), List.mem_cons_self, hts _ hcode, hts _ hini, ⟨hd.1, hd.2.1⟩, fun sig h => ?_, hts _ hlink⟩
  have h2 := hd.2.2
  rw [h] at h2
  exact (Option.some.inj h2).symm
theorem mkN {host : String} (hC : CallFix p m c cc nL s args tws own) (n : Nat) (hcode : Cond.code y b maxL ret ∈ tws) (hini : Cond.initialized y.cls ∈ tws) (hlink : Cond.methodLinkNest own index y host ∈ tws) (hrc : rm.cells = mc) (hrs : rm.slots = ms) (hd : y.cls ≠ "java/lang/invoke/MethodHandle" ∧ y.cls ≠ "java/lang/invoke/VarHandle" ∧ (parseMethodDescriptor y.desc).map (fun d => d.parameters.length) = some n) (hf : rm.frames + 1 ≤ R.frames) (hlo : 8 + (maxL + 11) + rm.locals ≤ R.locals) : va_CN R s args own index y host b maxL ret [.code y b maxL ret] rm mc ms n := by
  have hts := hC.2.2.2.2
  refine ⟨⟨hrc, hrs, hf, hlo, fun w hw a' U hW => tw_warm hW hts w (by rw [List.mem_singleton.mp hw]; exact hcode), List.mem_cons_self⟩, hts _ hcode, hts _ hini, ⟨hd.1, hd.2.1⟩, fun sig h => ?_, hts _ hlink⟩
  have h2 := hd.2.2
  rw [h] at h2
  exact (Option.some.inj h2).symm
/-- a call of an instance method of one of the world's objects -/
theorem ca_V {C : String} {ci q : Nat} {fs : List Value} {T : u_T} {N : Nat} (hC : CallFix p m c cc nL s args tws own) (hw : wh G S s H locs) (hM : Met l y [.code y b maxL ret] rm (va_Pc (.ref (G.2.1 q) :: As) (fun U => wu G S U)) Qc mc ms free) (cw : CallW R s args own C index y b maxL ret [.code y b maxL ret] rm mc ms n) (hq : q < 45) (he : cellOf G q (S q) = .inr (ci, fs)) (hc : cls_all[ci]? = some (C, T, N))
    (hn : As.length = n) (hsize : ls.size = nL) (hstack : st0 = As.reverse ++ .ref (G.2.1 q) :: rest) (hroom : (rest.map fun v => v.category).sum ≤ 8) (hdg : decode cc pc = .ok (.invokevirtual index, 3)) (hf : cells + mc ≤ R.cells ∧ slots + ms ≤ R.slots) :
    va_Run p l e R s m args below meth c H locs cells slots mc ms (F0 m pc ls st0) rest (Qc (Value.ref (G.2.1 q) :: As).toArray) free :=
  va_runV hC hM cw ⟨wu_blind _ G S, va_recv hw.1 hw.2.1 hc (by rw [wd_at G S hq, he]), fun U hU hW => ⟨rfl, wu_of hw hC.2.2.2.2 hU hW⟩⟩ rfl hn hsize hstack (lv_room hroom) hdg hf
theorem ca_S (hC : CallFix p m c cc nL s args tws own) (hw : wh G S s H locs) (hM : Met l y [.code y b maxL ret] rm (va_Pc As (fun U => wu G S U)) Qc mc ms free) (cw : CallB R s args own index y b maxL ret [.code y b maxL ret] rm mc ms n ∧ (Cond.static y).before args s = true)
    (hn : As.length = n) (hsize : ls.size = nL) (hstack : st0 = As.reverse ++ rest) (hroom : (rest.map fun v => v.category).sum ≤ 8) (hdg : decode cc pc = .ok (.invokestatic index, 3)) (hf : cells + mc ≤ R.cells ∧ slots + ms ≤ R.slots) :
    va_Run p l e R s m args below meth c H locs cells slots mc ms (F0 m pc ls st0) rest (Qc As.toArray) free :=
  va_runS hC hM cw ⟨wu_blind _ G S, fun U hU hW => ⟨rfl, wu_of hw hC.2.2.2.2 hU hW⟩⟩ rfl hn hsize hstack (lv_room hroom) hdg hf
theorem ca_N {host : String} (hC : CallFix p m c cc nL s args tws own) (hw : wh G S s H locs) (hM : Met l y [.code y b maxL ret] rm (va_Pc As (fun U => wu G S U)) Qc mc ms free) (cw : va_CN R s args own index y host b maxL ret [.code y b maxL ret] rm mc ms n ∧ (Cond.static y).before args s = true ∧ True)
    (hn : As.length = n) (hsize : ls.size = nL) (hstack : st0 = As.reverse ++ rest) (hroom : (rest.map fun v => v.category).sum ≤ 8) (hdg : decode cc pc = .ok (.invokestatic index, 3)) (hf : cells + mc ≤ R.cells ∧ slots + ms ≤ R.slots) :
    va_Run p l e R s m args below meth c H locs cells slots mc ms (F0 m pc ls st0) rest (Qc As.toArray) free :=
  va_runSN hC hM cw ⟨wu_blind _ G S, fun U hU hW => ⟨rfl, wu_of hw hC.2.2.2.2 hU hW⟩⟩ rfl hn hsize hstack (lv_room hroom) hdg hf
end CL
end
section
section LK
variable {p : Program} {R : Room} {s : State} {m : MethodId} {args : Array Value} {c : Code} {cc : ByteArray} {nL mc ms : Nat} {rm : Room}
theorem cv_cr_74 (hC : CallFix p m c cc nL s args tws "ChannelRules") (hrc : rm.cells = mc) (hrs : rm.slots = ms) (hf : rm.frames + 1 ≤ R.frames) (hlo : 8 + (2 + 11) + rm.locals ≤ R.locals) : CallW R s args "ChannelRules" "ChannelRules$Pieces" 74 y_pc_has b_pc_has 2 (some .boolean) [.code y_pc_has b_pc_has 2 (some .boolean)] rm mc ms 1 := ⟨mkB hC 1 tw_154 tw_2 tw_151 hrc hrs (by decide +kernel) hf hlo, hC.2.2.2.2 _ tw_152, hC.2.2.2.2 _ tw_153⟩
theorem cv_cr_56 (hC : CallFix p m c cc nL s args tws "ChannelRules") (hrc : rm.cells = mc) (hrs : rm.slots = ms) (hf : rm.frames + 1 ≤ R.frames) (hlo : 8 + (3 + 11) + rm.locals ≤ R.locals) : CallB R s args "ChannelRules" 56 y_cr_isWithin b_cr_isWithin 3 (some .boolean) [.code y_cr_isWithin b_cr_isWithin 3 (some .boolean)] rm mc ms 3 ∧ (Cond.static y_cr_isWithin).before args s = true := ⟨mkB hC 3 tw_157 tw_1 tw_158 hrc hrs (by decide +kernel) hf hlo, hC.2.2.2.2 _ tw_156⟩
theorem cv_cr_80 (hC : CallFix p m c cc nL s args tws "ChannelRules") (hrc : rm.cells = mc) (hrs : rm.slots = ms) (hf : rm.frames + 1 ≤ R.frames) (hlo : 8 + (4 + 11) + rm.locals ≤ R.locals) : CallW R s args "ChannelRules" "ChannelRules$Pieces" 80 y_pc_setRule b_pc_setRule 4 none [.code y_pc_setRule b_pc_setRule 4 none] rm mc ms 3 := ⟨mkB hC 3 tw_164 tw_2 tw_161 hrc hrs (by decide +kernel) hf hlo, hC.2.2.2.2 _ tw_162, hC.2.2.2.2 _ tw_163⟩
theorem cv_pc_40 (hC : CallFix p m c cc nL s args tws "ChannelRules$Pieces") (hrc : rm.cells = mc) (hrs : rm.slots = ms) (hf : rm.frames + 1 ≤ R.frames) (hlo : 8 + (3 + 11) + rm.locals ≤ R.locals) : va_CN R s args "ChannelRules$Pieces" 40 y_cr_isWithin "ChannelRules" b_cr_isWithin 3 (some .boolean) [.code y_cr_isWithin b_cr_isWithin 3 (some .boolean)] rm mc ms 3 ∧ (Cond.static y_cr_isWithin).before args s = true ∧ True := ⟨mkN hC 3 tw_157 tw_1 tw_155 hrc hrs (by decide +kernel) hf hlo, hC.2.2.2.2 _ tw_156, trivial⟩
theorem cv_cr_134 (hC : CallFix p m c cc nL s args tws "ChannelRules") (hrc : rm.cells = mc) (hrs : rm.slots = ms) (hf : rm.frames + 1 ≤ R.frames) (hlo : 8 + (2 + 11) + rm.locals ≤ R.locals) : CallW R s args "ChannelRules" "ChannelRules$Passages" 134 y_ps_hasSlot b_ps_hasSlot 2 (some .boolean) [.code y_ps_hasSlot b_ps_hasSlot 2 (some .boolean)] rm mc ms 1 := ⟨mkB hC 1 tw_176 tw_4 tw_173 hrc hrs (by decide +kernel) hf hlo, hC.2.2.2.2 _ tw_174, hC.2.2.2.2 _ tw_175⟩
theorem cv_cr_139 (hC : CallFix p m c cc nL s args tws "ChannelRules") (hrc : rm.cells = mc) (hrs : rm.slots = ms) (hf : rm.frames + 1 ≤ R.frames) (hlo : 8 + (2 + 11) + rm.locals ≤ R.locals) : CallW R s args "ChannelRules" "ChannelRules" 139 y_cr_isStillToBegin b_cr_isStillToBegin 2 (some .boolean) [.code y_cr_isStillToBegin b_cr_isStillToBegin 2 (some .boolean)] rm mc ms 1 := ⟨mkB hC 1 tw_181 tw_1 tw_178 hrc hrs (by decide +kernel) hf hlo, hC.2.2.2.2 _ tw_180, hC.2.2.2.2 _ ts_cr_isStillToBegin⟩
theorem cv_ps_41 (hC : CallFix p m c cc nL s args tws "ChannelRules$Passages") (hrc : rm.cells = mc) (hrs : rm.slots = ms) (hf : rm.frames + 1 ≤ R.frames) (hlo : 8 + (3 + 11) + rm.locals ≤ R.locals) : va_CN R s args "ChannelRules$Passages" 41 y_cr_isWithin "ChannelRules" b_cr_isWithin 3 (some .boolean) [.code y_cr_isWithin b_cr_isWithin 3 (some .boolean)] rm mc ms 3 ∧ (Cond.static y_cr_isWithin).before args s = true ∧ True := ⟨mkN hC 3 tw_157 tw_1 tw_177 hrc hrs (by decide +kernel) hf hlo, hC.2.2.2.2 _ tw_156, trivial⟩
theorem cv_cr_179 (hC : CallFix p m c cc nL s args tws "ChannelRules") (hrc : rm.cells = mc) (hrs : rm.slots = ms) (hf : rm.frames + 1 ≤ R.frames) (hlo : 8 + (3 + 11) + rm.locals ≤ R.locals) : CallW R s args "ChannelRules" "ChannelRules$Passages" 179 y_ps_givenSlots b_ps_givenSlots 3 (some .int) [.code y_ps_givenSlots b_ps_givenSlots 3 (some .int)] rm mc ms 0 := ⟨mkB hC 0 tw_194 tw_4 tw_191 hrc hrs (by decide +kernel) hf hlo, hC.2.2.2.2 _ tw_192, hC.2.2.2.2 _ tw_193⟩
theorem cv_cr_161 (hC : CallFix p m c cc nL s args tws "ChannelRules") (hrc : rm.cells = mc) (hrs : rm.slots = ms) (hf : rm.frames + 1 ≤ R.frames) (hlo : 8 + (5 + 11) + rm.locals ≤ R.locals) : CallW R s args "ChannelRules" "ChannelRules" 161 y_cr_seekConflict b_cr_seekConflict 5 (some .int) [.code y_cr_seekConflict b_cr_seekConflict 5 (some .int)] rm mc ms 1 := ⟨mkB hC 1 tw_198 tw_1 tw_195 hrc hrs (by decide +kernel) hf hlo, hC.2.2.2.2 _ tw_197, hC.2.2.2.2 _ ts_cr_seekConflict⟩
theorem cv_cr_182 (hC : CallFix p m c cc nL s args tws "ChannelRules") (hrc : rm.cells = mc) (hrs : rm.slots = ms) (hf : rm.frames + 1 ≤ R.frames) (hlo : 8 + (2 + 11) + rm.locals ≤ R.locals) : CallW R s args "ChannelRules" "ChannelRules" 182 y_cr_givenMark b_cr_givenMark 2 (some .int) [.code y_cr_givenMark b_cr_givenMark 2 (some .int)] rm mc ms 1 := ⟨mkB hC 1 tw_243 tw_1 tw_240 hrc hrs (by decide +kernel) hf hlo, hC.2.2.2.2 _ tw_242, hC.2.2.2.2 _ ts_cr_givenMark⟩
theorem cv_cr_288 (hC : CallFix p m c cc nL s args tws "ChannelRules") (hrc : rm.cells = mc) (hrs : rm.slots = ms) (hf : rm.frames + 1 ≤ R.frames) (hlo : 8 + (8 + 11) + rm.locals ≤ R.locals) : CallW R s args "ChannelRules" "ChannelRules" 288 y_cr_seekConflictOfPair b_cr_seekConflictOfPair 8 (some .int) [.code y_cr_seekConflictOfPair b_cr_seekConflictOfPair 8 (some .int)] rm mc ms 4 := ⟨mkB hC 4 tw_202 tw_1 tw_199 hrc hrs (by decide +kernel) hf hlo, hC.2.2.2.2 _ tw_201, hC.2.2.2.2 _ ts_cr_seekConflictOfPair⟩
theorem cv_cr_257 (hC : CallFix p m c cc nL s args tws "ChannelRules") (hrc : rm.cells = mc) (hrs : rm.slots = ms) (hf : rm.frames + 1 ≤ R.frames) (hlo : 8 + (10 + 11) + rm.locals ≤ R.locals) : CallW R s args "ChannelRules" "ChannelRules" 257 y_cr_conflictWith b_cr_conflictWith 10 (some .int) [.code y_cr_conflictWith b_cr_conflictWith 10 (some .int)] rm mc ms 3 := ⟨mkB hC 3 tw_206 tw_1 tw_203 hrc hrs (by decide +kernel) hf hlo, hC.2.2.2.2 _ tw_205, hC.2.2.2.2 _ ts_cr_conflictWith⟩
theorem cv_cr_100 (hC : CallFix p m c cc nL s args tws "ChannelRules") (hrc : rm.cells = mc) (hrs : rm.slots = ms) (hf : rm.frames + 1 ≤ R.frames) (hlo : 8 + (3 + 11) + rm.locals ≤ R.locals) : CallW R s args "ChannelRules" "ChannelRules$Passages" 100 y_ps_pieceOf b_ps_pieceOf 3 (some .int) [.code y_ps_pieceOf b_ps_pieceOf 3 (some .int)] rm mc ms 2 := ⟨mkB hC 2 tw_210 tw_4 tw_207 hrc hrs (by decide +kernel) hf hlo, hC.2.2.2.2 _ tw_208, hC.2.2.2.2 _ tw_209⟩
theorem cv_cr_260 (hC : CallFix p m c cc nL s args tws "ChannelRules") (hrc : rm.cells = mc) (hrs : rm.slots = ms) (hf : rm.frames + 1 ≤ R.frames) (hlo : 8 + (3 + 11) + rm.locals ≤ R.locals) : CallW R s args "ChannelRules" "ChannelRules$Passages" 260 y_ps_stayOn b_ps_stayOn 3 (some .int) [.code y_ps_stayOn b_ps_stayOn 3 (some .int)] rm mc ms 2 := ⟨mkB hC 2 tw_214 tw_4 tw_211 hrc hrs (by decide +kernel) hf hlo, hC.2.2.2.2 _ tw_212, hC.2.2.2.2 _ tw_213⟩
theorem cv_cr_169 (hC : CallFix p m c cc nL s args tws "ChannelRules") (hrc : rm.cells = mc) (hrs : rm.slots = ms) (hf : rm.frames + 1 ≤ R.frames) (hlo : 8 + (3 + 11) + rm.locals ≤ R.locals) : CallW R s args "ChannelRules" "ChannelRules$Passages" 169 y_ps_entersAt b_ps_entersAt 3 (some .int) [.code y_ps_entersAt b_ps_entersAt 3 (some .int)] rm mc ms 2 := ⟨mkB hC 2 tw_218 tw_4 tw_215 hrc hrs (by decide +kernel) hf hlo, hC.2.2.2.2 _ tw_216, hC.2.2.2.2 _ tw_217⟩
theorem cv_cr_172 (hC : CallFix p m c cc nL s args tws "ChannelRules") (hrc : rm.cells = mc) (hrs : rm.slots = ms) (hf : rm.frames + 1 ≤ R.frames) (hlo : 8 + (3 + 11) + rm.locals ≤ R.locals) : CallW R s args "ChannelRules" "ChannelRules$Passages" 172 y_ps_leavesAt b_ps_leavesAt 3 (some .int) [.code y_ps_leavesAt b_ps_leavesAt 3 (some .int)] rm mc ms 2 := ⟨mkB hC 2 tw_222 tw_4 tw_219 hrc hrs (by decide +kernel) hf hlo, hC.2.2.2.2 _ tw_220, hC.2.2.2.2 _ tw_221⟩
theorem cv_cr_263 (hC : CallFix p m c cc nL s args tws "ChannelRules") (hrc : rm.cells = mc) (hrs : rm.slots = ms) (hf : rm.frames + 1 ≤ R.frames) (hlo : 8 + (4 + 11) + rm.locals ≤ R.locals) : CallB R s args "ChannelRules" 263 y_cr_shareMinute b_cr_shareMinute 4 (some .boolean) [.code y_cr_shareMinute b_cr_shareMinute 4 (some .boolean)] rm mc ms 4 ∧ (Cond.static y_cr_shareMinute).before args s = true := ⟨mkB hC 4 tw_225 tw_1 tw_223 hrc hrs (by decide +kernel) hf hlo, hC.2.2.2.2 _ tw_224⟩
theorem cv_cr_175 (hC : CallFix p m c cc nL s args tws "ChannelRules") (hrc : rm.cells = mc) (hrs : rm.slots = ms) (hf : rm.frames + 1 ≤ R.frames) (hlo : 8 + (3 + 11) + rm.locals ≤ R.locals) : CallW R s args "ChannelRules" "ChannelRules$Passages" 175 y_ps_isForward b_ps_isForward 3 (some .boolean) [.code y_ps_isForward b_ps_isForward 3 (some .boolean)] rm mc ms 2 := ⟨mkB hC 2 tw_229 tw_4 tw_226 hrc hrs (by decide +kernel) hf hlo, hC.2.2.2.2 _ tw_227, hC.2.2.2.2 _ tw_228⟩
theorem cv_cr_248 (hC : CallFix p m c cc nL s args tws "ChannelRules") (hrc : rm.cells = mc) (hrs : rm.slots = ms) (hf : rm.frames + 1 ≤ R.frames) (hlo : 8 + (3 + 11) + rm.locals ≤ R.locals) : CallW R s args "ChannelRules" "ChannelRules$Pieces" 248 y_pc_ruleOf b_pc_ruleOf 3 (some .int) [.code y_pc_ruleOf b_pc_ruleOf 3 (some .int)] rm mc ms 2 := ⟨mkB hC 2 tw_233 tw_2 tw_230 hrc hrs (by decide +kernel) hf hlo, hC.2.2.2.2 _ tw_231, hC.2.2.2.2 _ tw_232⟩
theorem cv_cr_267 (hC : CallFix p m c cc nL s args tws "ChannelRules") (hrc : rm.cells = mc) (hrs : rm.slots = ms) (hf : rm.frames + 1 ≤ R.frames) (hlo : 8 + (9 + 11) + rm.locals ≤ R.locals) : CallW R s args "ChannelRules" "ChannelRules$Passages" 267 y_ps_isOvertaking b_ps_isOvertaking 9 (some .boolean) [.code y_ps_isOvertaking b_ps_isOvertaking 9 (some .boolean)] rm mc ms 4 := ⟨mkB hC 4 tw_237 tw_4 tw_234 hrc hrs (by decide +kernel) hf hlo, hC.2.2.2.2 _ tw_235, hC.2.2.2.2 _ tw_236⟩
theorem cv_ps_45 (hC : CallFix p m c cc nL s args tws "ChannelRules$Passages") (hrc : rm.cells = mc) (hrs : rm.slots = ms) (hf : rm.frames + 1 ≤ R.frames) (hlo : 8 + (3 + 11) + rm.locals ≤ R.locals) : CallW R s args "ChannelRules$Passages" "ChannelRules$Passages" 45 y_ps_entersAt b_ps_entersAt 3 (some .int) [.code y_ps_entersAt b_ps_entersAt 3 (some .int)] rm mc ms 2 := ⟨mkB hC 2 tw_218 tw_4 tw_238 hrc hrs (by decide +kernel) hf hlo, hC.2.2.2.2 _ tw_216, hC.2.2.2.2 _ tw_217⟩
theorem cv_ps_49 (hC : CallFix p m c cc nL s args tws "ChannelRules$Passages") (hrc : rm.cells = mc) (hrs : rm.slots = ms) (hf : rm.frames + 1 ≤ R.frames) (hlo : 8 + (3 + 11) + rm.locals ≤ R.locals) : CallW R s args "ChannelRules$Passages" "ChannelRules$Passages" 49 y_ps_leavesAt b_ps_leavesAt 3 (some .int) [.code y_ps_leavesAt b_ps_leavesAt 3 (some .int)] rm mc ms 2 := ⟨mkB hC 2 tw_222 tw_4 tw_239 hrc hrs (by decide +kernel) hf hlo, hC.2.2.2.2 _ tw_220, hC.2.2.2.2 _ tw_221⟩
theorem cv_lw_7 (hC : CallFix p m c cc nL s args tws "ChannelRulesLaw") (hrc : rm.cells = mc) (hrs : rm.slots = ms) (hf : rm.frames + 1 ≤ R.frames) (hlo : 8 + (5 + 11) + rm.locals ≤ R.locals) : CallW R s args "ChannelRulesLaw" "ChannelRules" 7 y_cr_piece b_cr_piece 5 (some .int) [.code y_cr_piece b_cr_piece 5 (some .int)] rm mc ms 4 := ⟨mkB hC 4 tw_252 tw_1 tw_249 hrc hrs (by decide +kernel) hf hlo, hC.2.2.2.2 _ tw_250, hC.2.2.2.2 _ tw_251⟩
theorem cv_cr_45 (hC : CallFix p m c cc nL s args tws "ChannelRules") (hrc : rm.cells = mc) (hrs : rm.slots = ms) (hf : rm.frames + 1 ≤ R.frames) (hlo : 8 + (1 + 11) + rm.locals ≤ R.locals) : CallB R s args "ChannelRules" 45 y_cr_isPoint b_cr_isPoint 1 (some .boolean) [.code y_cr_isPoint b_cr_isPoint 1 (some .boolean)] rm mc ms 1 ∧ (Cond.static y_cr_isPoint).before args s = true := ⟨mkB hC 1 tw_255 tw_1 tw_253 hrc hrs (by decide +kernel) hf hlo, hC.2.2.2.2 _ tw_254⟩
theorem cv_cr_70 (hC : CallFix p m c cc nL s args tws "ChannelRules") (hrc : rm.cells = mc) (hrs : rm.slots = ms) (hf : rm.frames + 1 ≤ R.frames) (hlo : 8 + (6 + 11) + rm.locals ≤ R.locals) : CallW R s args "ChannelRules" "ChannelRules$Pieces" 70 y_pc_add b_pc_add 6 (some .int) [.code y_pc_add b_pc_add 6 (some .int)] rm mc ms 4 := ⟨mkB hC 4 tw_344 tw_2 tw_341 hrc hrs (by decide +kernel) hf hlo, hC.2.2.2.2 _ tw_342, hC.2.2.2.2 _ tw_343⟩
theorem cv_pc_44 (hC : CallFix p m c cc nL s args tws "ChannelRules$Pieces") (hrc : rm.cells = mc) (hrs : rm.slots = ms) (hf : rm.frames + 1 ≤ R.frames) (hlo : 8 + (4 + 11) + rm.locals ≤ R.locals) : CallW R s args "ChannelRules$Pieces" "ChannelRules$Pieces" 44 y_pc_setRule b_pc_setRule 4 none [.code y_pc_setRule b_pc_setRule 4 none] rm mc ms 3 := ⟨mkB hC 3 tw_164 tw_2 tw_345 hrc hrs (by decide +kernel) hf hlo, hC.2.2.2.2 _ tw_162, hC.2.2.2.2 _ tw_163⟩
theorem cv_lw_17 (hC : CallFix p m c cc nL s args tws "ChannelRulesLaw") (hrc : rm.cells = mc) (hrs : rm.slots = ms) (hf : rm.frames + 1 ≤ R.frames) (hlo : 8 + (4 + 11) + rm.locals ≤ R.locals) : CallW R s args "ChannelRulesLaw" "ChannelRules" 17 y_cr_ship b_cr_ship 4 (some .int) [.code y_cr_ship b_cr_ship 4 (some .int)] rm mc ms 3 := ⟨mkB hC 3 tw_352 tw_1 tw_349 hrc hrs (by decide +kernel) hf hlo, hC.2.2.2.2 _ tw_350, hC.2.2.2.2 _ tw_351⟩
theorem cv_cr_89 (hC : CallFix p m c cc nL s args tws "ChannelRules") (hrc : rm.cells = mc) (hrs : rm.slots = ms) (hf : rm.frames + 1 ≤ R.frames) (hlo : 8 + (5 + 11) + rm.locals ≤ R.locals) : CallW R s args "ChannelRules" "ChannelRules$Ships" 89 y_sh_add b_sh_add 5 (some .int) [.code y_sh_add b_sh_add 5 (some .int)] rm mc ms 3 := ⟨mkB hC 3 tw_358 tw_3 tw_355 hrc hrs (by decide +kernel) hf hlo, hC.2.2.2.2 _ tw_356, hC.2.2.2.2 _ tw_357⟩
theorem cv_lw_21 (hC : CallFix p m c cc nL s args tws "ChannelRulesLaw") (hrc : rm.cells = mc) (hrs : rm.slots = ms) (hf : rm.frames + 1 ≤ R.frames) (hlo : 8 + (5 + 11) + rm.locals ≤ R.locals) : CallW R s args "ChannelRulesLaw" "ChannelRules" 21 y_cr_route b_cr_route 5 (some .int) [.code y_cr_route b_cr_route 5 (some .int)] rm mc ms 4 := ⟨mkB hC 4 tw_365 tw_1 tw_362 hrc hrs (by decide +kernel) hf hlo, hC.2.2.2.2 _ tw_363, hC.2.2.2.2 _ tw_364⟩
theorem cv_cr_92 (hC : CallFix p m c cc nL s args tws "ChannelRules") (hrc : rm.cells = mc) (hrs : rm.slots = ms) (hf : rm.frames + 1 ≤ R.frames) (hlo : 8 + (4 + 11) + rm.locals ≤ R.locals) : CallW R s args "ChannelRules" "ChannelRules" 92 y_cr_isVoyage b_cr_isVoyage 4 (some .boolean) [.code y_cr_isVoyage b_cr_isVoyage 4 (some .boolean)] rm mc ms 3 := ⟨mkB hC 3 tw_369 tw_1 tw_366 hrc hrs (by decide +kernel) hf hlo, hC.2.2.2.2 _ tw_368, hC.2.2.2.2 _ ts_cr_isVoyage⟩
theorem cv_cr_97 (hC : CallFix p m c cc nL s args tws "ChannelRules") (hrc : rm.cells = mc) (hrs : rm.slots = ms) (hf : rm.frames + 1 ≤ R.frames) (hlo : 8 + (7 + 11) + rm.locals ≤ R.locals) : CallW R s args "ChannelRules" "ChannelRules" 97 y_cr_planRoute b_cr_planRoute 7 (some .boolean) [.code y_cr_planRoute b_cr_planRoute 7 (some .boolean)] rm mc ms 3 := ⟨mkB hC 3 tw_379 tw_1 tw_376 hrc hrs (by decide +kernel) hf hlo, hC.2.2.2.2 _ tw_378, hC.2.2.2.2 _ ts_cr_planRoute⟩
theorem cv_cr_185 (hC : CallFix p m c cc nL s args tws "ChannelRules") (hrc : rm.cells = mc) (hrs : rm.slots = ms) (hf : rm.frames + 1 ≤ R.frames) (hlo : 8 + (2 + 11) + rm.locals ≤ R.locals) : CallW R s args "ChannelRules" "ChannelRules$Ships" 185 y_sh_has b_sh_has 2 (some .boolean) [.code y_sh_has b_sh_has 2 (some .boolean)] rm mc ms 1 := ⟨mkB hC 1 tw_373 tw_3 tw_370 hrc hrs (by decide +kernel) hf hlo, hC.2.2.2.2 _ tw_371, hC.2.2.2.2 _ tw_372⟩
theorem cv_sh_25 (hC : CallFix p m c cc nL s args tws "ChannelRules$Ships") (hrc : rm.cells = mc) (hrs : rm.slots = ms) (hf : rm.frames + 1 ≤ R.frames) (hlo : 8 + (3 + 11) + rm.locals ≤ R.locals) : va_CN R s args "ChannelRules$Ships" 25 y_cr_isWithin "ChannelRules" b_cr_isWithin 3 (some .boolean) [.code y_cr_isWithin b_cr_isWithin 3 (some .boolean)] rm mc ms 3 ∧ (Cond.static y_cr_isWithin).before args s = true ∧ True := ⟨mkN hC 3 tw_157 tw_1 tw_374 hrc hrs (by decide +kernel) hf hlo, hC.2.2.2.2 _ tw_156, trivial⟩
theorem cv_cr_186 (hC : CallFix p m c cc nL s args tws "ChannelRules") (hrc : rm.cells = mc) (hrs : rm.slots = ms) (hf : rm.frames + 1 ≤ R.frames) (hlo : 8 + (3 + 11) + rm.locals ≤ R.locals) : CallW R s args "ChannelRules" "ChannelRules$Passages" 186 y_ps_startPlan b_ps_startPlan 3 none [.code y_ps_startPlan b_ps_startPlan 3 none] rm mc ms 1 := ⟨mkB hC 1 tw_383 tw_4 tw_380 hrc hrs (by decide +kernel) hf hlo, hC.2.2.2.2 _ tw_381, hC.2.2.2.2 _ tw_382⟩
theorem cv_cr_190 (hC : CallFix p m c cc nL s args tws "ChannelRules") (hrc : rm.cells = mc) (hrs : rm.slots = ms) (hf : rm.frames + 1 ≤ R.frames) (hlo : 8 + (5 + 11) + rm.locals ≤ R.locals) : CallW R s args "ChannelRules" "ChannelRules" 190 y_cr_measureTimeLeft b_cr_measureTimeLeft 5 none [.code y_cr_measureTimeLeft b_cr_measureTimeLeft 5 none] rm mc ms 2 := ⟨mkB hC 2 tw_387 tw_1 tw_384 hrc hrs (by decide +kernel) hf hlo, hC.2.2.2.2 _ tw_386, hC.2.2.2.2 _ ts_cr_measureTimeLeft⟩
theorem cv_cr_194 (hC : CallFix p m c cc nL s args tws "ChannelRules") (hrc : rm.cells = mc) (hrs : rm.slots = ms) (hf : rm.frames + 1 ≤ R.frames) (hlo : 8 + (5 + 11) + rm.locals ≤ R.locals) : CallW R s args "ChannelRules" "ChannelRules" 194 y_cr_nextPiece b_cr_nextPiece 5 (some .int) [.code y_cr_nextPiece b_cr_nextPiece 5 (some .int)] rm mc ms 2 := ⟨mkB hC 2 tw_407 tw_1 tw_404 hrc hrs (by decide +kernel) hf hlo, hC.2.2.2.2 _ tw_406, hC.2.2.2.2 _ ts_cr_nextPiece⟩
theorem cv_cr_200 (hC : CallFix p m c cc nL s args tws "ChannelRules") (hrc : rm.cells = mc) (hrs : rm.slots = ms) (hf : rm.frames + 1 ≤ R.frames) (hlo : 8 + (4 + 11) + rm.locals ≤ R.locals) : CallW R s args "ChannelRules" "ChannelRules" 200 y_cr_travelTime b_cr_travelTime 4 (some .int) [.code y_cr_travelTime b_cr_travelTime 4 (some .int)] rm mc ms 2 := ⟨mkB hC 2 tw_396 tw_1 tw_393 hrc hrs (by decide +kernel) hf hlo, hC.2.2.2.2 _ tw_395, hC.2.2.2.2 _ ts_cr_travelTime⟩
theorem cv_cr_203 (hC : CallFix p m c cc nL s args tws "ChannelRules") (hrc : rm.cells = mc) (hrs : rm.slots = ms) (hf : rm.frames + 1 ≤ R.frames) (hlo : 8 + (5 + 11) + rm.locals ≤ R.locals) : CallW R s args "ChannelRules" "ChannelRules$Passages" 203 y_ps_addStay b_ps_addStay 5 none [.code y_ps_addStay b_ps_addStay 5 none] rm mc ms 3 := ⟨mkB hC 3 tw_415 tw_4 tw_412 hrc hrs (by decide +kernel) hf hlo, hC.2.2.2.2 _ tw_413, hC.2.2.2.2 _ tw_414⟩
theorem cv_cr_207 (hC : CallFix p m c cc nL s args tws "ChannelRules") (hrc : rm.cells = mc) (hrs : rm.slots = ms) (hf : rm.frames + 1 ≤ R.frames) (hlo : 8 + (3 + 11) + rm.locals ≤ R.locals) : CallW R s args "ChannelRules" "ChannelRules$Pieces" 207 y_pc_otherEnd b_pc_otherEnd 3 (some .int) [.code y_pc_otherEnd b_pc_otherEnd 3 (some .int)] rm mc ms 2 := ⟨mkB hC 2 tw_411 tw_2 tw_408 hrc hrs (by decide +kernel) hf hlo, hC.2.2.2.2 _ tw_409, hC.2.2.2.2 _ tw_410⟩
theorem cv_cr_211 (hC : CallFix p m c cc nL s args tws "ChannelRules") (hrc : rm.cells = mc) (hrs : rm.slots = ms) (hf : rm.frames + 1 ≤ R.frames) (hlo : 8 + (3 + 11) + rm.locals ≤ R.locals) : CallW R s args "ChannelRules" "ChannelRules" 211 y_cr_fits b_cr_fits 3 (some .boolean) [.code y_cr_fits b_cr_fits 3 (some .boolean)] rm mc ms 2 := ⟨mkB hC 2 tw_392 tw_1 tw_389 hrc hrs (by decide +kernel) hf hlo, hC.2.2.2.2 _ tw_391, hC.2.2.2.2 _ ts_cr_fits⟩
theorem cv_cr_214 (hC : CallFix p m c cc nL s args tws "ChannelRules") (hrc : rm.cells = mc) (hrs : rm.slots = ms) (hf : rm.frames + 1 ≤ R.frames) (hlo : 8 + (5 + 11) + rm.locals ≤ R.locals) : CallW R s args "ChannelRules" "ChannelRules" 214 y_cr_shortenBy b_cr_shortenBy 5 none [.code y_cr_shortenBy b_cr_shortenBy 5 none] rm mc ms 2 := ⟨mkB hC 2 tw_400 tw_1 tw_397 hrc hrs (by decide +kernel) hf hlo, hC.2.2.2.2 _ tw_399, hC.2.2.2.2 _ ts_cr_shortenBy⟩
theorem cv_lw_24 (hC : CallFix p m c cc nL s args tws "ChannelRulesLaw") (hrc : rm.cells = mc) (hrs : rm.slots = ms) (hf : rm.frames + 1 ≤ R.frames) (hlo : 8 + (6 + 11) + rm.locals ≤ R.locals) : CallW R s args "ChannelRulesLaw" "ChannelRules" 24 y_cr_ask b_cr_ask 6 (some .int) [.code y_cr_ask b_cr_ask 6 (some .int)] rm mc ms 4 := ⟨mkB hC 4 tw_422 tw_1 tw_419 hrc hrs (by decide +kernel) hf hlo, hC.2.2.2.2 _ tw_420, hC.2.2.2.2 _ tw_421⟩
theorem cv_cr_118 (hC : CallFix p m c cc nL s args tws "ChannelRules") (hrc : rm.cells = mc) (hrs : rm.slots = ms) (hf : rm.frames + 1 ≤ R.frames) (hlo : 8 + (4 + 11) + rm.locals ≤ R.locals) : CallW R s args "ChannelRules" "ChannelRules" 118 y_cr_firstBar b_cr_firstBar 4 (some .int) [.code y_cr_firstBar b_cr_firstBar 4 (some .int)] rm mc ms 1 := ⟨mkB hC 1 tw_428 tw_1 tw_425 hrc hrs (by decide +kernel) hf hlo, hC.2.2.2.2 _ tw_427, hC.2.2.2.2 _ ts_cr_firstBar⟩
theorem cv_cr_122 (hC : CallFix p m c cc nL s args tws "ChannelRules") (hrc : rm.cells = mc) (hrs : rm.slots = ms) (hf : rm.frames + 1 ≤ R.frames) (hlo : 8 + (3 + 11) + rm.locals ≤ R.locals) : CallW R s args "ChannelRules" "ChannelRules$Passages" 122 y_ps_giveSlot b_ps_giveSlot 3 (some .int) [.code y_ps_giveSlot b_ps_giveSlot 3 (some .int)] rm mc ms 0 := ⟨mkB hC 0 tw_460 tw_4 tw_457 hrc hrs (by decide +kernel) hf hlo, hC.2.2.2.2 _ tw_458, hC.2.2.2.2 _ tw_459⟩
theorem cv_cr_230 (hC : CallFix p m c cc nL s args tws "ChannelRules") (hrc : rm.cells = mc) (hrs : rm.slots = ms) (hf : rm.frames + 1 ≤ R.frames) (hlo : 8 + (6 + 11) + rm.locals ≤ R.locals) : CallW R s args "ChannelRules" "ChannelRules" 230 y_cr_barByPiece b_cr_barByPiece 6 (some .int) [.code y_cr_barByPiece b_cr_barByPiece 6 (some .int)] rm mc ms 2 := ⟨mkB hC 2 tw_432 tw_1 tw_429 hrc hrs (by decide +kernel) hf hlo, hC.2.2.2.2 _ tw_431, hC.2.2.2.2 _ ts_cr_barByPiece⟩
theorem cv_cr_233 (hC : CallFix p m c cc nL s args tws "ChannelRules") (hrc : rm.cells = mc) (hrs : rm.slots = ms) (hf : rm.frames + 1 ≤ R.frames) (hlo : 8 + (6 + 11) + rm.locals ≤ R.locals) : CallW R s args "ChannelRules" "ChannelRules" 233 y_cr_barBySlots b_cr_barBySlots 6 (some .int) [.code y_cr_barBySlots b_cr_barBySlots 6 (some .int)] rm mc ms 2 := ⟨mkB hC 2 tw_456 tw_1 tw_453 hrc hrs (by decide +kernel) hf hlo, hC.2.2.2.2 _ tw_455, hC.2.2.2.2 _ ts_cr_barBySlots⟩
theorem cv_cr_236 (hC : CallFix p m c cc nL s args tws "ChannelRules") (hrc : rm.cells = mc) (hrs : rm.slots = ms) (hf : rm.frames + 1 ≤ R.frames) (hlo : 8 + (4 + 11) + rm.locals ≤ R.locals) : CallW R s args "ChannelRules" "ChannelRules" 236 y_cr_isAgainstOneWay b_cr_isAgainstOneWay 4 (some .boolean) [.code y_cr_isAgainstOneWay b_cr_isAgainstOneWay 4 (some .boolean)] rm mc ms 2 := ⟨mkB hC 2 tw_436 tw_1 tw_433 hrc hrs (by decide +kernel) hf hlo, hC.2.2.2.2 _ tw_435, hC.2.2.2.2 _ ts_cr_isAgainstOneWay⟩
theorem cv_cr_239 (hC : CallFix p m c cc nL s args tws "ChannelRules") (hrc : rm.cells = mc) (hrs : rm.slots = ms) (hf : rm.frames + 1 ≤ R.frames) (hlo : 8 + (7 + 11) + rm.locals ≤ R.locals) : CallW R s args "ChannelRules" "ChannelRules" 239 y_cr_isBarredAtNight b_cr_isBarredAtNight 7 (some .boolean) [.code y_cr_isBarredAtNight b_cr_isBarredAtNight 7 (some .boolean)] rm mc ms 2 := ⟨mkB hC 2 tw_440 tw_1 tw_437 hrc hrs (by decide +kernel) hf hlo, hC.2.2.2.2 _ tw_439, hC.2.2.2.2 _ ts_cr_isBarredAtNight⟩
theorem cv_cr_242 (hC : CallFix p m c cc nL s args tws "ChannelRules") (hrc : rm.cells = mc) (hrs : rm.slots = ms) (hf : rm.frames + 1 ≤ R.frames) (hlo : 8 + (4 + 11) + rm.locals ≤ R.locals) : CallW R s args "ChannelRules" "ChannelRules" 242 y_cr_isBarredInWind b_cr_isBarredInWind 4 (some .boolean) [.code y_cr_isBarredInWind b_cr_isBarredInWind 4 (some .boolean)] rm mc ms 2 := ⟨mkB hC 2 tw_444 tw_1 tw_441 hrc hrs (by decide +kernel) hf hlo, hC.2.2.2.2 _ tw_443, hC.2.2.2.2 _ ts_cr_isBarredInWind⟩
theorem cv_cr_245 (hC : CallFix p m c cc nL s args tws "ChannelRules") (hrc : rm.cells = mc) (hrs : rm.slots = ms) (hf : rm.frames + 1 ≤ R.frames) (hlo : 8 + (7 + 11) + rm.locals ≤ R.locals) : CallW R s args "ChannelRules" "ChannelRules$Pieces" 245 y_pc_closedFor b_pc_closedFor 7 (some .int) [.code y_pc_closedFor b_pc_closedFor 7 (some .int)] rm mc ms 3 := ⟨mkB hC 3 tw_448 tw_2 tw_445 hrc hrs (by decide +kernel) hf hlo, hC.2.2.2.2 _ tw_446, hC.2.2.2.2 _ tw_447⟩
theorem cv_pc_48 (hC : CallFix p m c cc nL s args tws "ChannelRules$Pieces") (hrc : rm.cells = mc) (hrs : rm.slots = ms) (hf : rm.frames + 1 ≤ R.frames) (hlo : 8 + (4 + 11) + rm.locals ≤ R.locals) : va_CN R s args "ChannelRules$Pieces" 48 y_cr_shareMinute "ChannelRules" b_cr_shareMinute 4 (some .boolean) [.code y_cr_shareMinute b_cr_shareMinute 4 (some .boolean)] rm mc ms 4 ∧ (Cond.static y_cr_shareMinute).before args s = true ∧ True := ⟨mkN hC 4 tw_225 tw_1 tw_449 hrc hrs (by decide +kernel) hf hlo, hC.2.2.2.2 _ tw_224, trivial⟩
theorem cv_ps_52 (hC : CallFix p m c cc nL s args tws "ChannelRules$Passages") (hrc : rm.cells = mc) (hrs : rm.slots = ms) (hf : rm.frames + 1 ≤ R.frames) (hlo : 8 + (3 + 11) + rm.locals ≤ R.locals) : CallW R s args "ChannelRules$Passages" "ChannelRules$Passages" 52 y_ps_pieceOf b_ps_pieceOf 3 (some .int) [.code y_ps_pieceOf b_ps_pieceOf 3 (some .int)] rm mc ms 2 := ⟨mkB hC 2 tw_210 tw_4 tw_461 hrc hrs (by decide +kernel) hf hlo, hC.2.2.2.2 _ tw_208, hC.2.2.2.2 _ tw_209⟩
theorem cv_ps_55 (hC : CallFix p m c cc nL s args tws "ChannelRules$Passages") (hrc : rm.cells = mc) (hrs : rm.slots = ms) (hf : rm.frames + 1 ≤ R.frames) (hlo : 8 + (3 + 11) + rm.locals ≤ R.locals) : CallW R s args "ChannelRules$Passages" "ChannelRules$Passages" 55 y_ps_isForward b_ps_isForward 3 (some .boolean) [.code y_ps_isForward b_ps_isForward 3 (some .boolean)] rm mc ms 2 := ⟨mkB hC 2 tw_229 tw_4 tw_462 hrc hrs (by decide +kernel) hf hlo, hC.2.2.2.2 _ tw_227, hC.2.2.2.2 _ tw_228⟩
theorem cv_lw_27 (hC : CallFix p m c cc nL s args tws "ChannelRulesLaw") (hrc : rm.cells = mc) (hrs : rm.slots = ms) (hf : rm.frames + 1 ≤ R.frames) (hlo : 8 + (8 + 11) + rm.locals ≤ R.locals) : CallW R s args "ChannelRulesLaw" "ChannelRules" 27 y_cr_earliest b_cr_earliest 8 (some .int) [.code y_cr_earliest b_cr_earliest 8 (some .int)] rm mc ms 4 := ⟨mkB hC 4 tw_469 tw_1 tw_466 hrc hrs (by decide +kernel) hf hlo, hC.2.2.2.2 _ tw_467, hC.2.2.2.2 _ tw_468⟩
theorem cv_cr_131 (hC : CallFix p m c cc nL s args tws "ChannelRules") (hrc : rm.cells = mc) (hrs : rm.slots = ms) (hf : rm.frames + 1 ≤ R.frames) (hlo : 8 + (3 + 11) + rm.locals ≤ R.locals) : CallW R s args "ChannelRules" "ChannelRules" 131 y_cr_planWait b_cr_planWait 3 (some .int) [.code y_cr_planWait b_cr_planWait 3 (some .int)] rm mc ms 0 := ⟨mkB hC 0 tw_473 tw_1 tw_470 hrc hrs (by decide +kernel) hf hlo, hC.2.2.2.2 _ tw_472, hC.2.2.2.2 _ ts_cr_planWait⟩
theorem cv_cr_270 (hC : CallFix p m c cc nL s args tws "ChannelRules") (hrc : rm.cells = mc) (hrs : rm.slots = ms) (hf : rm.frames + 1 ≤ R.frames) (hlo : 8 + (5 + 11) + rm.locals ≤ R.locals) : CallW R s args "ChannelRules" "ChannelRules" 270 y_cr_planWaitByPiece b_cr_planWaitByPiece 5 (some .int) [.code y_cr_planWaitByPiece b_cr_planWaitByPiece 5 (some .int)] rm mc ms 1 := ⟨mkB hC 1 tw_477 tw_1 tw_474 hrc hrs (by decide +kernel) hf hlo, hC.2.2.2.2 _ tw_476, hC.2.2.2.2 _ ts_cr_planWaitByPiece⟩
theorem cv_cr_273 (hC : CallFix p m c cc nL s args tws "ChannelRules") (hrc : rm.cells = mc) (hrs : rm.slots = ms) (hf : rm.frames + 1 ≤ R.frames) (hlo : 8 + (4 + 11) + rm.locals ≤ R.locals) : CallW R s args "ChannelRules" "ChannelRules" 273 y_cr_planWaitBySlots b_cr_planWaitBySlots 4 (some .int) [.code y_cr_planWaitBySlots b_cr_planWaitBySlots 4 (some .int)] rm mc ms 1 := ⟨mkB hC 1 tw_488 tw_1 tw_485 hrc hrs (by decide +kernel) hf hlo, hC.2.2.2.2 _ tw_487, hC.2.2.2.2 _ ts_cr_planWaitBySlots⟩
theorem cv_cr_279 (hC : CallFix p m c cc nL s args tws "ChannelRules") (hrc : rm.cells = mc) (hrs : rm.slots = ms) (hf : rm.frames + 1 ≤ R.frames) (hlo : 8 + (1 + 11) + rm.locals ≤ R.locals) : CallB R s args "ChannelRules" 279 y_cr_minutesToMorning b_cr_minutesToMorning 1 (some .int) [.code y_cr_minutesToMorning b_cr_minutesToMorning 1 (some .int)] rm mc ms 1 ∧ (Cond.static y_cr_minutesToMorning).before args s = true := ⟨mkB hC 1 tw_480 tw_1 tw_478 hrc hrs (by decide +kernel) hf hlo, hC.2.2.2.2 _ tw_479⟩
theorem cv_cr_285 (hC : CallFix p m c cc nL s args tws "ChannelRules") (hrc : rm.cells = mc) (hrs : rm.slots = ms) (hf : rm.frames + 1 ≤ R.frames) (hlo : 8 + (8 + 11) + rm.locals ≤ R.locals) : CallW R s args "ChannelRules" "ChannelRules" 285 y_cr_planWaitFor b_cr_planWaitFor 8 (some .int) [.code y_cr_planWaitFor b_cr_planWaitFor 8 (some .int)] rm mc ms 2 := ⟨mkB hC 2 tw_492 tw_1 tw_489 hrc hrs (by decide +kernel) hf hlo, hC.2.2.2.2 _ tw_491, hC.2.2.2.2 _ ts_cr_planWaitFor⟩
theorem cv_lw_30 (hC : CallFix p m c cc nL s args tws "ChannelRulesLaw") (hrc : rm.cells = mc) (hrs : rm.slots = ms) (hf : rm.frames + 1 ≤ R.frames) (hlo : 8 + (4 + 11) + rm.locals ≤ R.locals) : CallW R s args "ChannelRulesLaw" "ChannelRules" 30 y_cr_change b_cr_change 4 (some .int) [.code y_cr_change b_cr_change 4 (some .int)] rm mc ms 2 := ⟨mkB hC 2 tw_499 tw_1 tw_496 hrc hrs (by decide +kernel) hf hlo, hC.2.2.2.2 _ tw_497, hC.2.2.2.2 _ tw_498⟩
theorem cv_lw_34 (hC : CallFix p m c cc nL s args tws "ChannelRulesLaw") (hrc : rm.cells = mc) (hrs : rm.slots = ms) (hf : rm.frames + 1 ≤ R.frames) (hlo : 8 + (4 + 11) + rm.locals ≤ R.locals) : CallW R s args "ChannelRulesLaw" "ChannelRules" 34 y_cr_close b_cr_close 4 (some .int) [.code y_cr_close b_cr_close 4 (some .int)] rm mc ms 3 := ⟨mkB hC 3 tw_507 tw_1 tw_504 hrc hrs (by decide +kernel) hf hlo, hC.2.2.2.2 _ tw_505, hC.2.2.2.2 _ tw_506⟩
theorem cv_cr_153 (hC : CallFix p m c cc nL s args tws "ChannelRules") (hrc : rm.cells = mc) (hrs : rm.slots = ms) (hf : rm.frames + 1 ≤ R.frames) (hlo : 8 + (5 + 11) + rm.locals ≤ R.locals) : CallW R s args "ChannelRules" "ChannelRules$Pieces" 153 y_pc_addSpan b_pc_addSpan 5 none [.code y_pc_addSpan b_pc_addSpan 5 none] rm mc ms 3 := ⟨mkB hC 3 tw_513 tw_2 tw_510 hrc hrs (by decide +kernel) hf hlo, hC.2.2.2.2 _ tw_511, hC.2.2.2.2 _ tw_512⟩
theorem cv_cr_156 (hC : CallFix p m c cc nL s args tws "ChannelRules") (hrc : rm.cells = mc) (hrs : rm.slots = ms) (hf : rm.frames + 1 ≤ R.frames) (hlo : 8 + (7 + 11) + rm.locals ≤ R.locals) : CallW R s args "ChannelRules" "ChannelRules" 156 y_cr_endSlotsOn b_cr_endSlotsOn 7 (some .int) [.code y_cr_endSlotsOn b_cr_endSlotsOn 7 (some .int)] rm mc ms 3 := ⟨mkB hC 3 tw_517 tw_1 tw_514 hrc hrs (by decide +kernel) hf hlo, hC.2.2.2.2 _ tw_516, hC.2.2.2.2 _ ts_cr_endSlotsOn⟩
theorem cv_lw_37 (hC : CallFix p m c cc nL s args tws "ChannelRulesLaw") (hrc : rm.cells = mc) (hrs : rm.slots = ms) (hf : rm.frames + 1 ≤ R.frames) (hlo : 8 + (3 + 11) + rm.locals ≤ R.locals) : CallW R s args "ChannelRulesLaw" "ChannelRules" 37 y_cr_conflict b_cr_conflict 3 (some .int) [.code y_cr_conflict b_cr_conflict 3 (some .int)] rm mc ms 2 := ⟨mkB hC 2 tw_524 tw_1 tw_521 hrc hrs (by decide +kernel) hf hlo, hC.2.2.2.2 _ tw_522, hC.2.2.2.2 _ tw_523⟩
theorem cv_lw_40 (hC : CallFix p m c cc nL s args tws "ChannelRulesLaw") (hrc : rm.cells = mc) (hrs : rm.slots = ms) (hf : rm.frames + 1 ≤ R.frames) (hlo : 8 + (4 + 11) + rm.locals ≤ R.locals) : CallW R s args "ChannelRulesLaw" "ChannelRules" 40 y_cr_at b_cr_at 4 (some .int) [.code y_cr_at b_cr_at 4 (some .int)] rm mc ms 3 := ⟨mkB hC 3 tw_533 tw_1 tw_530 hrc hrs (by decide +kernel) hf hlo, hC.2.2.2.2 _ tw_531, hC.2.2.2.2 _ tw_532⟩
theorem cv_md_82 (hC : CallFix p m c cc nL s args tws "ChannelRulesModel") (hrc : rm.cells = mc) (hrs : rm.slots = ms) (hf : rm.frames + 1 ≤ R.frames) (hlo : 8 + (1 + 11) + rm.locals ≤ R.locals) : CallB R s args "ChannelRulesModel" 82 y_md_isPoint b_md_isPoint 1 (some .boolean) [.code y_md_isPoint b_md_isPoint 1 (some .boolean)] rm mc ms 1 ∧ (Cond.static y_md_isPoint).before args s = true := ⟨mkB hC 1 tw_639 tw_5 tw_637 hrc hrs (by decide +kernel) hf hlo, hC.2.2.2.2 _ tw_638⟩
theorem cv_md_86 (hC : CallFix p m c cc nL s args tws "ChannelRulesModel") (hrc : rm.cells = mc) (hrs : rm.slots = ms) (hf : rm.frames + 1 ≤ R.frames) (hlo : 8 + (3 + 11) + rm.locals ≤ R.locals) : CallB R s args "ChannelRulesModel" 86 y_md_in b_md_in 3 (some .boolean) [.code y_md_in b_md_in 3 (some .boolean)] rm mc ms 3 ∧ (Cond.static y_md_in).before args s = true := ⟨mkB hC 3 tw_642 tw_5 tw_640 hrc hrs (by decide +kernel) hf hlo, hC.2.2.2.2 _ tw_641⟩
theorem cv_md_90 (hC : CallFix p m c cc nL s args tws "ChannelRulesModel") (hrc : rm.cells = mc) (hrs : rm.slots = ms) (hf : rm.frames + 1 ≤ R.frames) (hlo : 8 + (2 + 11) + rm.locals ≤ R.locals) : CallW R s args "ChannelRulesModel" "ChannelRulesModel" 90 y_md_fails b_md_fails 2 (some .int) [.code y_md_fails b_md_fails 2 (some .int)] rm mc ms 1 := ⟨mkB hC 1 tw_646 tw_5 tw_643 hrc hrs (by decide +kernel) hf hlo, hC.2.2.2.2 _ tw_645, hC.2.2.2.2 _ ts_md_fails⟩
theorem cv_md_94 (hC : CallFix p m c cc nL s args tws "ChannelRulesModel") (hrc : rm.cells = mc) (hrs : rm.slots = ms) (hf : rm.frames + 1 ≤ R.frames) (hlo : 8 + (2 + 11) + rm.locals ≤ R.locals) : CallW R s args "ChannelRulesModel" "ChannelRulesModel" 94 y_md_isPiece b_md_isPiece 2 (some .boolean) [.code y_md_isPiece b_md_isPiece 2 (some .boolean)] rm mc ms 1 := ⟨mkB hC 1 tw_654 tw_5 tw_651 hrc hrs (by decide +kernel) hf hlo, hC.2.2.2.2 _ tw_653, hC.2.2.2.2 _ ts_md_isPiece⟩
theorem cv_md_113 (hC : CallFix p m c cc nL s args tws "ChannelRulesModel") (hrc : rm.cells = mc) (hrs : rm.slots = ms) (hf : rm.frames + 1 ≤ R.frames) (hlo : 8 + (2 + 11) + rm.locals ≤ R.locals) : CallW R s args "ChannelRulesModel" "ChannelRulesModel" 113 y_md_isShip b_md_isShip 2 (some .boolean) [.code y_md_isShip b_md_isShip 2 (some .boolean)] rm mc ms 1 := ⟨mkB hC 1 tw_670 tw_5 tw_667 hrc hrs (by decide +kernel) hf hlo, hC.2.2.2.2 _ tw_669, hC.2.2.2.2 _ ts_md_isShip⟩
theorem cv_md_116 (hC : CallFix p m c cc nL s args tws "ChannelRulesModel") (hrc : rm.cells = mc) (hrs : rm.slots = ms) (hf : rm.frames + 1 ≤ R.frames) (hlo : 8 + (6 + 11) + rm.locals ≤ R.locals) : CallW R s args "ChannelRulesModel" "ChannelRulesModel" 116 y_md_lays b_md_lays 6 (some .boolean) [.code y_md_lays b_md_lays 6 (some .boolean)] rm mc ms 3 := ⟨mkB hC 3 tw_674 tw_5 tw_671 hrc hrs (by decide +kernel) hf hlo, hC.2.2.2.2 _ tw_673, hC.2.2.2.2 _ ts_md_lays⟩
theorem cv_md_106 (hC : CallFix p m c cc nL s args tws "ChannelRulesModel") (hrc : rm.cells = mc) (hrs : rm.slots = ms) (hf : rm.frames + 1 ≤ R.frames) (hlo : 8 + (8 + 11) + rm.locals ≤ R.locals) : CallW R s args "ChannelRulesModel" "ChannelRulesModel" 106 y_md_timesTo b_md_timesTo 8 none [.code y_md_timesTo b_md_timesTo 8 none] rm mc ms 2 := ⟨mkB hC 2 tw_678 tw_5 tw_675 hrc hrs (by decide +kernel) hf hlo, hC.2.2.2.2 _ tw_677, hC.2.2.2.2 _ ts_md_timesTo⟩
theorem cv_md_110 (hC : CallFix p m c cc nL s args tws "ChannelRulesModel") (hrc : rm.cells = mc) (hrs : rm.slots = ms) (hf : rm.frames + 1 ≤ R.frames) (hlo : 8 + (7 + 11) + rm.locals ≤ R.locals) : CallW R s args "ChannelRulesModel" "ChannelRulesModel" 110 y_md_next b_md_next 7 (some .int) [.code y_md_next b_md_next 7 (some .int)] rm mc ms 2 := ⟨mkB hC 2 tw_687 tw_5 tw_684 hrc hrs (by decide +kernel) hf hlo, hC.2.2.2.2 _ tw_686, hC.2.2.2.2 _ ts_md_next⟩
theorem cv_md_102 (hC : CallFix p m c cc nL s args tws "ChannelRulesModel") (hrc : rm.cells = mc) (hrs : rm.slots = ms) (hf : rm.frames + 1 ≤ R.frames) (hlo : 8 + (3 + 11) + rm.locals ≤ R.locals) : CallW R s args "ChannelRulesModel" "ChannelRulesModel" 102 y_md_takes b_md_takes 3 (some .int) [.code y_md_takes b_md_takes 3 (some .int)] rm mc ms 2 := ⟨mkB hC 2 tw_683 tw_5 tw_680 hrc hrs (by decide +kernel) hf hlo, hC.2.2.2.2 _ tw_682, hC.2.2.2.2 _ ts_md_takes⟩
theorem cv_md_143 (hC : CallFix p m c cc nL s args tws "ChannelRulesModel") (hrc : rm.cells = mc) (hrs : rm.slots = ms) (hf : rm.frames + 1 ≤ R.frames) (hlo : 8 + (5 + 11) + rm.locals ≤ R.locals) : CallW R s args "ChannelRulesModel" "ChannelRulesModel" 143 y_md_isPassage b_md_isPassage 5 (some .boolean) [.code y_md_isPassage b_md_isPassage 5 (some .boolean)] rm mc ms 4 := ⟨mkB hC 4 tw_695 tw_5 tw_692 hrc hrs (by decide +kernel) hf hlo, hC.2.2.2.2 _ tw_694, hC.2.2.2.2 _ ts_md_isPassage⟩
theorem cv_md_147 (hC : CallFix p m c cc nL s args tws "ChannelRulesModel") (hrc : rm.cells = mc) (hrs : rm.slots = ms) (hf : rm.frames + 1 ≤ R.frames) (hlo : 8 + (7 + 11) + rm.locals ≤ R.locals) : CallW R s args "ChannelRulesModel" "ChannelRulesModel" 147 y_md_against b_md_against 7 (some .int) [.code y_md_against b_md_against 7 (some .int)] rm mc ms 2 := ⟨mkB hC 2 tw_704 tw_5 tw_701 hrc hrs (by decide +kernel) hf hlo, hC.2.2.2.2 _ tw_703, hC.2.2.2.2 _ ts_md_against⟩
theorem cv_md_140 (hC : CallFix p m c cc nL s args tws "ChannelRulesModel") (hrc : rm.cells = mc) (hrs : rm.slots = ms) (hf : rm.frames + 1 ≤ R.frames) (hlo : 8 + (2 + 11) + rm.locals ≤ R.locals) : CallW R s args "ChannelRulesModel" "ChannelRulesModel" 140 y_md_isTime b_md_isTime 2 (some .boolean) [.code y_md_isTime b_md_isTime 2 (some .boolean)] rm mc ms 1 := ⟨mkB hC 1 tw_699 tw_5 tw_696 hrc hrs (by decide +kernel) hf hlo, hC.2.2.2.2 _ tw_698, hC.2.2.2.2 _ ts_md_isTime⟩
theorem cv_md_133 (hC : CallFix p m c cc nL s args tws "ChannelRulesModel") (hrc : rm.cells = mc) (hrs : rm.slots = ms) (hf : rm.frames + 1 ≤ R.frames) (hlo : 8 + (9 + 11) + rm.locals ≤ R.locals) : CallW R s args "ChannelRulesModel" "ChannelRulesModel" 133 y_md_barred b_md_barred 9 (some .int) [.code y_md_barred b_md_barred 9 (some .int)] rm mc ms 2 := ⟨mkB hC 2 tw_708 tw_5 tw_705 hrc hrs (by decide +kernel) hf hlo, hC.2.2.2.2 _ tw_707, hC.2.2.2.2 _ ts_md_barred⟩
theorem cv_md_136 (hC : CallFix p m c cc nL s args tws "ChannelRulesModel") (hrc : rm.cells = mc) (hrs : rm.slots = ms) (hf : rm.frames + 1 ≤ R.frames) (hlo : 8 + (6 + 11) + rm.locals ≤ R.locals) : CallW R s args "ChannelRulesModel" "ChannelRulesModel" 136 y_md_with b_md_with 6 (some .int) [.code y_md_with b_md_with 6 (some .int)] rm mc ms 3 := ⟨mkB hC 3 tw_723 tw_5 tw_720 hrc hrs (by decide +kernel) hf hlo, hC.2.2.2.2 _ tw_722, hC.2.2.2.2 _ ts_md_with⟩
theorem cv_md_119 (hC : CallFix p m c cc nL s args tws "ChannelRulesModel") (hrc : rm.cells = mc) (hrs : rm.slots = ms) (hf : rm.frames + 1 ≤ R.frames) (hlo : 8 + (5 + 11) + rm.locals ≤ R.locals) : CallW R s args "ChannelRulesModel" "ChannelRulesModel" 119 y_md_enters b_md_enters 5 (some .int) [.code y_md_enters b_md_enters 5 (some .int)] rm mc ms 2 := ⟨mkB hC 2 tw_712 tw_5 tw_709 hrc hrs (by decide +kernel) hf hlo, hC.2.2.2.2 _ tw_711, hC.2.2.2.2 _ ts_md_enters⟩
theorem cv_md_122 (hC : CallFix p m c cc nL s args tws "ChannelRulesModel") (hrc : rm.cells = mc) (hrs : rm.slots = ms) (hf : rm.frames + 1 ≤ R.frames) (hlo : 8 + (3 + 11) + rm.locals ≤ R.locals) : CallW R s args "ChannelRulesModel" "ChannelRulesModel" 122 y_md_leaves b_md_leaves 3 (some .int) [.code y_md_leaves b_md_leaves 3 (some .int)] rm mc ms 2 := ⟨mkB hC 2 tw_716 tw_5 tw_713 hrc hrs (by decide +kernel) hf hlo, hC.2.2.2.2 _ tw_715, hC.2.2.2.2 _ ts_md_leaves⟩
theorem cv_md_125 (hC : CallFix p m c cc nL s args tws "ChannelRulesModel") (hrc : rm.cells = mc) (hrs : rm.slots = ms) (hf : rm.frames + 1 ≤ R.frames) (hlo : 8 + (4 + 11) + rm.locals ≤ R.locals) : CallB R s args "ChannelRulesModel" 125 y_md_isNight b_md_isNight 4 (some .boolean) [.code y_md_isNight b_md_isNight 4 (some .boolean)] rm mc ms 2 ∧ (Cond.static y_md_isNight).before args s = true := ⟨mkB hC 2 tw_719 tw_5 tw_717 hrc hrs (by decide +kernel) hf hlo, hC.2.2.2.2 _ tw_718⟩
theorem cv_md_129 (hC : CallFix p m c cc nL s args tws "ChannelRulesModel") (hrc : rm.cells = mc) (hrs : rm.slots = ms) (hf : rm.frames + 1 ≤ R.frames) (hlo : 8 + (12 + 11) + rm.locals ≤ R.locals) : CallW R s args "ChannelRulesModel" "ChannelRulesModel" 129 y_md_between b_md_between 12 (some .int) [.code y_md_between b_md_between 12 (some .int)] rm mc ms 4 := ⟨mkB hC 4 tw_727 tw_5 tw_724 hrc hrs (by decide +kernel) hf hlo, hC.2.2.2.2 _ tw_726, hC.2.2.2.2 _ ts_md_between⟩
theorem cv_md_150 (hC : CallFix p m c cc nL s args tws "ChannelRulesModel") (hrc : rm.cells = mc) (hrs : rm.slots = ms) (hf : rm.frames + 1 ≤ R.frames) (hlo : 8 + (2 + 11) + rm.locals ≤ R.locals) : CallW R s args "ChannelRulesModel" "ChannelRulesModel" 150 y_md_isSlot b_md_isSlot 2 (some .boolean) [.code y_md_isSlot b_md_isSlot 2 (some .boolean)] rm mc ms 1 := ⟨mkB hC 1 tw_739 tw_5 tw_736 hrc hrs (by decide +kernel) hf hlo, hC.2.2.2.2 _ tw_738, hC.2.2.2.2 _ ts_md_isSlot⟩
theorem cv_md_153 (hC : CallFix p m c cc nL s args tws "ChannelRulesModel") (hrc : rm.cells = mc) (hrs : rm.slots = ms) (hf : rm.frames + 1 ≤ R.frames) (hlo : 8 + (8 + 11) + rm.locals ≤ R.locals) : CallW R s args "ChannelRulesModel" "ChannelRulesModel" 153 y_md_conflicts b_md_conflicts 8 (some .int) [.code y_md_conflicts b_md_conflicts 8 (some .int)] rm mc ms 2 := ⟨mkB hC 2 tw_759 tw_5 tw_756 hrc hrs (by decide +kernel) hf hlo, hC.2.2.2.2 _ tw_758, hC.2.2.2.2 _ ts_md_conflicts⟩
theorem cv_lw_54 (hC : CallFix p m c cc nL s args tws "ChannelRulesLaw") (hrc : rm.cells = mc) (hrs : rm.slots = ms) (hf : rm.frames + 1 ≤ R.frames) (hlo : 8 + (5 + 11) + rm.locals ≤ R.locals) : CallW R s args "ChannelRulesLaw" "ChannelRulesModel" 54 y_md_piece b_md_piece 5 (some .int) [.code y_md_piece b_md_piece 5 (some .int)] rm mc ms 4 := ⟨mkB hC 4 tw_636 tw_5 tw_633 hrc hrs (by decide +kernel) hf hlo, hC.2.2.2.2 _ tw_634, hC.2.2.2.2 _ tw_635⟩
theorem cv_lw_55 (hC : CallFix p m c cc nL s args tws "ChannelRulesLaw") (hrc : rm.cells = mc) (hrs : rm.slots = ms) (hf : rm.frames + 1 ≤ R.frames) (hlo : 8 + (1 + 11) + rm.locals ≤ R.locals) : CallW R s args "ChannelRulesLaw" "ChannelRulesModel" 55 y_md_thrown b_md_thrown 1 (some .int) [.code y_md_thrown b_md_thrown 1 (some .int)] rm mc ms 0 := ⟨mkB hC 0 tw_632 tw_5 tw_629 hrc hrs (by decide +kernel) hf hlo, hC.2.2.2.2 _ tw_630, hC.2.2.2.2 _ tw_631⟩
theorem cv_lw_59 (hC : CallFix p m c cc nL s args tws "ChannelRulesLaw") (hrc : rm.cells = mc) (hrs : rm.slots = ms) (hf : rm.frames + 1 ≤ R.frames) (hlo : 8 + (4 + 11) + rm.locals ≤ R.locals) : CallW R s args "ChannelRulesLaw" "ChannelRules" 59 y_cr_rule b_cr_rule 4 (some .boolean) [.code y_cr_rule b_cr_rule 4 (some .boolean)] rm mc ms 3 := ⟨mkB hC 3 tw_150 tw_1 tw_147 hrc hrs (by decide +kernel) hf hlo, hC.2.2.2.2 _ tw_148, hC.2.2.2.2 _ tw_149⟩
theorem cv_lw_63 (hC : CallFix p m c cc nL s args tws "ChannelRulesLaw") (hrc : rm.cells = mc) (hrs : rm.slots = ms) (hf : rm.frames + 1 ≤ R.frames) (hlo : 8 + (5 + 11) + rm.locals ≤ R.locals) : CallW R s args "ChannelRulesLaw" "ChannelRulesModel" 63 y_md_rule b_md_rule 5 (some .boolean) [.code y_md_rule b_md_rule 5 (some .boolean)] rm mc ms 3 := ⟨mkB hC 3 tw_650 tw_5 tw_647 hrc hrs (by decide +kernel) hf hlo, hC.2.2.2.2 _ tw_648, hC.2.2.2.2 _ tw_649⟩
theorem cv_lw_64 (hC : CallFix p m c cc nL s args tws "ChannelRulesLaw") (hrc : rm.cells = mc) (hrs : rm.slots = ms) (hf : rm.frames + 1 ≤ R.frames) (hlo : 8 + (2 + 11) + rm.locals ≤ R.locals) : CallW R s args "ChannelRulesLaw" "ChannelRules" 64 y_cr_wind b_cr_wind 2 (some .boolean) [.code y_cr_wind b_cr_wind 2 (some .boolean)] rm mc ms 1 := ⟨mkB hC 1 tw_168 tw_1 tw_165 hrc hrs (by decide +kernel) hf hlo, hC.2.2.2.2 _ tw_166, hC.2.2.2.2 _ tw_167⟩
theorem cv_lw_68 (hC : CallFix p m c cc nL s args tws "ChannelRulesLaw") (hrc : rm.cells = mc) (hrs : rm.slots = ms) (hf : rm.frames + 1 ≤ R.frames) (hlo : 8 + (3 + 11) + rm.locals ≤ R.locals) : CallW R s args "ChannelRulesLaw" "ChannelRulesModel" 68 y_md_wind b_md_wind 3 (some .boolean) [.code y_md_wind b_md_wind 3 (some .boolean)] rm mc ms 1 := ⟨mkB hC 1 tw_658 tw_5 tw_655 hrc hrs (by decide +kernel) hf hlo, hC.2.2.2.2 _ tw_656, hC.2.2.2.2 _ tw_657⟩
theorem cv_lw_72 (hC : CallFix p m c cc nL s args tws "ChannelRulesLaw") (hrc : rm.cells = mc) (hrs : rm.slots = ms) (hf : rm.frames + 1 ≤ R.frames) (hlo : 8 + (4 + 11) + rm.locals ≤ R.locals) : CallW R s args "ChannelRulesLaw" "ChannelRulesModel" 72 y_md_ship b_md_ship 4 (some .int) [.code y_md_ship b_md_ship 4 (some .int)] rm mc ms 3 := ⟨mkB hC 3 tw_662 tw_5 tw_659 hrc hrs (by decide +kernel) hf hlo, hC.2.2.2.2 _ tw_660, hC.2.2.2.2 _ tw_661⟩
theorem cv_lw_75 (hC : CallFix p m c cc nL s args tws "ChannelRulesLaw") (hrc : rm.cells = mc) (hrs : rm.slots = ms) (hf : rm.frames + 1 ≤ R.frames) (hlo : 8 + (5 + 11) + rm.locals ≤ R.locals) : CallW R s args "ChannelRulesLaw" "ChannelRulesModel" 75 y_md_route b_md_route 5 (some .int) [.code y_md_route b_md_route 5 (some .int)] rm mc ms 4 := ⟨mkB hC 4 tw_666 tw_5 tw_663 hrc hrs (by decide +kernel) hf hlo, hC.2.2.2.2 _ tw_664, hC.2.2.2.2 _ tw_665⟩
theorem cv_lw_78 (hC : CallFix p m c cc nL s args tws "ChannelRulesLaw") (hrc : rm.cells = mc) (hrs : rm.slots = ms) (hf : rm.frames + 1 ≤ R.frames) (hlo : 8 + (7 + 11) + rm.locals ≤ R.locals) : CallW R s args "ChannelRulesLaw" "ChannelRulesModel" 78 y_md_ask b_md_ask 7 (some .int) [.code y_md_ask b_md_ask 7 (some .int)] rm mc ms 4 := ⟨mkB hC 4 tw_691 tw_5 tw_688 hrc hrs (by decide +kernel) hf hlo, hC.2.2.2.2 _ tw_689, hC.2.2.2.2 _ tw_690⟩
theorem cv_lw_81 (hC : CallFix p m c cc nL s args tws "ChannelRulesLaw") (hrc : rm.cells = mc) (hrs : rm.slots = ms) (hf : rm.frames + 1 ≤ R.frames) (hlo : 8 + (6 + 11) + rm.locals ≤ R.locals) : CallW R s args "ChannelRulesLaw" "ChannelRulesModel" 81 y_md_earliest b_md_earliest 6 (some .int) [.code y_md_earliest b_md_earliest 6 (some .int)] rm mc ms 4 := ⟨mkB hC 4 tw_731 tw_5 tw_728 hrc hrs (by decide +kernel) hf hlo, hC.2.2.2.2 _ tw_729, hC.2.2.2.2 _ tw_730⟩
theorem cv_lw_85 (hC : CallFix p m c cc nL s args tws "ChannelRulesLaw") (hrc : rm.cells = mc) (hrs : rm.slots = ms) (hf : rm.frames + 1 ≤ R.frames) (hlo : 8 + (4 + 11) + rm.locals ≤ R.locals) : CallW R s args "ChannelRulesLaw" "ChannelRulesModel" 85 y_md_change b_md_change 4 (some .int) [.code y_md_change b_md_change 4 (some .int)] rm mc ms 2 := ⟨mkB hC 2 tw_735 tw_5 tw_732 hrc hrs (by decide +kernel) hf hlo, hC.2.2.2.2 _ tw_733, hC.2.2.2.2 _ tw_734⟩
theorem cv_lw_86 (hC : CallFix p m c cc nL s args tws "ChannelRulesLaw") (hrc : rm.cells = mc) (hrs : rm.slots = ms) (hf : rm.frames + 1 ≤ R.frames) (hlo : 8 + (2 + 11) + rm.locals ≤ R.locals) : CallW R s args "ChannelRulesLaw" "ChannelRules" 86 y_cr_back b_cr_back 2 (some .boolean) [.code y_cr_back b_cr_back 2 (some .boolean)] rm mc ms 1 := ⟨mkB hC 1 tw_172 tw_1 tw_169 hrc hrs (by decide +kernel) hf hlo, hC.2.2.2.2 _ tw_170, hC.2.2.2.2 _ tw_171⟩
theorem cv_lw_90 (hC : CallFix p m c cc nL s args tws "ChannelRulesLaw") (hrc : rm.cells = mc) (hrs : rm.slots = ms) (hf : rm.frames + 1 ≤ R.frames) (hlo : 8 + (2 + 11) + rm.locals ≤ R.locals) : CallW R s args "ChannelRulesLaw" "ChannelRulesModel" 90 y_md_back b_md_back 2 (some .boolean) [.code y_md_back b_md_back 2 (some .boolean)] rm mc ms 1 := ⟨mkB hC 1 tw_743 tw_5 tw_740 hrc hrs (by decide +kernel) hf hlo, hC.2.2.2.2 _ tw_741, hC.2.2.2.2 _ tw_742⟩
theorem cv_lw_93 (hC : CallFix p m c cc nL s args tws "ChannelRulesLaw") (hrc : rm.cells = mc) (hrs : rm.slots = ms) (hf : rm.frames + 1 ≤ R.frames) (hlo : 8 + (8 + 11) + rm.locals ≤ R.locals) : CallW R s args "ChannelRulesLaw" "ChannelRulesModel" 93 y_md_close b_md_close 8 (some .int) [.code y_md_close b_md_close 8 (some .int)] rm mc ms 3 := ⟨mkB hC 3 tw_747 tw_5 tw_744 hrc hrs (by decide +kernel) hf hlo, hC.2.2.2.2 _ tw_745, hC.2.2.2.2 _ tw_746⟩
theorem cv_lw_94 (hC : CallFix p m c cc nL s args tws "ChannelRulesLaw") (hrc : rm.cells = mc) (hrs : rm.slots = ms) (hf : rm.frames + 1 ≤ R.frames) (hlo : 8 + (2 + 11) + rm.locals ≤ R.locals) : CallW R s args "ChannelRulesLaw" "ChannelRules" 94 y_cr_tick b_cr_tick 2 (some .boolean) [.code y_cr_tick b_cr_tick 2 (some .boolean)] rm mc ms 1 := ⟨mkB hC 1 tw_185 tw_1 tw_182 hrc hrs (by decide +kernel) hf hlo, hC.2.2.2.2 _ tw_183, hC.2.2.2.2 _ tw_184⟩
theorem cv_lw_97 (hC : CallFix p m c cc nL s args tws "ChannelRulesLaw") (hrc : rm.cells = mc) (hrs : rm.slots = ms) (hf : rm.frames + 1 ≤ R.frames) (hlo : 8 + (2 + 11) + rm.locals ≤ R.locals) : CallW R s args "ChannelRulesLaw" "ChannelRulesModel" 97 y_md_tick b_md_tick 2 (some .boolean) [.code y_md_tick b_md_tick 2 (some .boolean)] rm mc ms 1 := ⟨mkB hC 1 tw_751 tw_5 tw_748 hrc hrs (by decide +kernel) hf hlo, hC.2.2.2.2 _ tw_749, hC.2.2.2.2 _ tw_750⟩
theorem cv_lw_100 (hC : CallFix p m c cc nL s args tws "ChannelRulesLaw") (hrc : rm.cells = mc) (hrs : rm.slots = ms) (hf : rm.frames + 1 ≤ R.frames) (hlo : 8 + (3 + 11) + rm.locals ≤ R.locals) : CallW R s args "ChannelRulesLaw" "ChannelRulesModel" 100 y_md_conflict b_md_conflict 3 (some .int) [.code y_md_conflict b_md_conflict 3 (some .int)] rm mc ms 2 := ⟨mkB hC 2 tw_755 tw_5 tw_752 hrc hrs (by decide +kernel) hf hlo, hC.2.2.2.2 _ tw_753, hC.2.2.2.2 _ tw_754⟩
theorem cv_lw_103 (hC : CallFix p m c cc nL s args tws "ChannelRulesLaw") (hrc : rm.cells = mc) (hrs : rm.slots = ms) (hf : rm.frames + 1 ≤ R.frames) (hlo : 8 + (4 + 11) + rm.locals ≤ R.locals) : CallW R s args "ChannelRulesLaw" "ChannelRulesModel" 103 y_md_at b_md_at 4 (some .int) [.code y_md_at b_md_at 4 (some .int)] rm mc ms 3 := ⟨mkB hC 3 tw_763 tw_5 tw_760 hrc hrs (by decide +kernel) hf hlo, hC.2.2.2.2 _ tw_761, hC.2.2.2.2 _ tw_762⟩
theorem cv_lw_104 (hC : CallFix p m c cc nL s args tws "ChannelRulesLaw") (hrc : rm.cells = mc) (hrs : rm.slots = ms) (hf : rm.frames + 1 ≤ R.frames) (hlo : 8 + (2 + 11) + rm.locals ≤ R.locals) : CallW R s args "ChannelRulesLaw" "ChannelRules" 104 y_cr_count b_cr_count 2 (some .int) [.code y_cr_count b_cr_count 2 (some .int)] rm mc ms 1 := ⟨mkB hC 1 tw_190 tw_1 tw_187 hrc hrs (by decide +kernel) hf hlo, hC.2.2.2.2 _ tw_188, hC.2.2.2.2 _ tw_189⟩
theorem cv_lw_108 (hC : CallFix p m c cc nL s args tws "ChannelRulesLaw") (hrc : rm.cells = mc) (hrs : rm.slots = ms) (hf : rm.frames + 1 ≤ R.frames) (hlo : 8 + (4 + 11) + rm.locals ≤ R.locals) : CallW R s args "ChannelRulesLaw" "ChannelRulesModel" 108 y_md_count b_md_count 4 (some .int) [.code y_md_count b_md_count 4 (some .int)] rm mc ms 1 := ⟨mkB hC 1 tw_767 tw_5 tw_764 hrc hrs (by decide +kernel) hf hlo, hC.2.2.2.2 _ tw_765, hC.2.2.2.2 _ tw_766⟩
end LK
end
section
/-! further rows: truth values, constants, switches, Math -/
def bI (x : Bool) : Int := if x = true then 1 else 0
theorem bI_t : bI true = 1 := rfl
theorem bI_f : bI false = 0 := rfl
theorem bI_01 (x : Bool) : bI x = 0 ∨ bI x = 1 := by cases x <;> simp [bI]
theorem bI_b (x : Bool) : 0 ≤ bI x ∧ bI x ≤ 1 := by cases x <;> simp [bI]
theorem bI_eq {x y : Bool} : bI x = bI y ↔ x = y := by cases x <;> cases y <;> simp [bI]
theorem bI_0 {x : Bool} : bI x = 0 ↔ x = false := by cases x <;> simp [bI]
theorem bI_1 {x : Bool} : bI x = 1 ↔ x = true := by cases x <;> simp [bI]
section R8
variable {p : Program} {l : Launch} {e : Env} {R : Room} {s : State} {m : MethodId} {args : Array Value} {below : List Frame} {meth : Method} {c : Code} {H : Heap} {locs : List Loc} {cells slots : Nat} {Q : State → Prop}
variable {cc : ByteArray} {pc nL : Nat} {ls : Array Slot} {rest : List Value} {G : Gt} {S : St} {own : String}
theorem ir_beq (hC : CallFix p m c cc nL s args tws own) {x : Bool} {off : Int} {tgt : Nat} (hdg : decode cc pc = .ok (.ifCond .eq off, 3)) (ht : (pc : Int) + off = (tgt : Int))
    (kt : x = false → W p l e R s m args below meth c H locs cells slots Q (F0 m tgt ls rest)) (kf : x = true → W p l e R s m args below meth c H locs cells slots Q (F0 m (pc + 3) ls rest)) : W p l e R s m args below meth c H locs cells slots Q (F0 m pc ls (.int (iI (bI x)) :: rest)) := by
  have hb := bI_b x
  exact ir_if_eq hC.1 hC.2.1 hdg ht ⟨by omega, by omega⟩ (fun q => kt (bI_0.mp q)) (fun q => kf (by cases x; exact absurd rfl q; rfl))
theorem ir_bne (hC : CallFix p m c cc nL s args tws own) {x : Bool} {off : Int} {tgt : Nat} (hdg : decode cc pc = .ok (.ifCond .ne off, 3)) (ht : (pc : Int) + off = (tgt : Int))
    (kt : x = true → W p l e R s m args below meth c H locs cells slots Q (F0 m tgt ls rest)) (kf : x = false → W p l e R s m args below meth c H locs cells slots Q (F0 m (pc + 3) ls rest)) : W p l e R s m args below meth c H locs cells slots Q (F0 m pc ls (.int (iI (bI x)) :: rest)) := by
  have hb := bI_b x
  exact ir_if_ne hC.1 hC.2.1 hdg ht ⟨by omega, by omega⟩ (fun q => kt (by cases x; exact absurd rfl q; rfl)) (fun q => kf (bI_0.mp q))
theorem ir_ldc (hC : CallFix p m c cc nL s args tws own) {index : Nat} {v : Int32} (z : Int) (hm : Cond.constant own index v ∈ tws) (hv : v = iI z) (hdg : decode cc pc = .ok (.ldc index, 2)) (k : W p l e R s m args below meth c H locs cells slots Q (F0 m (pc + 2) ls (.int (iI z) :: rest))) : W p l e R s m args below meth c H locs cells slots Q (F0 m pc ls rest) := by
  subst hv
  exact lv_ldc hC.1 hC.2.1 hC.2.2.2.1 (hC.2.2.2.2 _ hm) hdg k
theorem ir_tin (hC : CallFix p m c cc nL s args tws own) {dflt lo hi : Int} {offs : Array Int} {len : Nat} {a : Int} {off : Int} {tgt : Nat} (hdg : decode cc pc = .ok (.tableswitch dflt lo hi offs, len)) (ha : i32 a) (k : Nat) (hk : a = lo + k) (hh : a ≤ hi) (ho : offs[k]? = some off) (ht : (pc : Int) + off = (tgt : Int))
    (kk : W p l e R s m args below meth c H locs cells slots Q (F0 m tgt ls rest)) : W p l e R s m args below meth c H locs cells slots Q (F0 m pc ls (.int (iI a) :: rest)) :=
  lv_tableIn hC.1 hC.2.1 hdg (by rw [iI_toInt ha]; omega) (by rw [iI_toInt ha]; omega) (by rw [iI_toInt ha, show (a - lo).toNat = k by omega]; exact ho) ht kk
theorem ir_tout (hC : CallFix p m c cc nL s args tws own) {dflt lo hi : Int} {offs : Array Int} {len : Nat} {a : Int} {tgt : Nat} (hdg : decode cc pc = .ok (.tableswitch dflt lo hi offs, len)) (ha : i32 a) (h : a < lo ∨ hi < a) (ht : (pc : Int) + dflt = (tgt : Int))
    (kk : W p l e R s m args below meth c H locs cells slots Q (F0 m tgt ls rest)) : W p l e R s m args below meth c H locs cells slots Q (F0 m pc ls (.int (iI a) :: rest)) :=
  lv_tableOut hC.1 hC.2.1 hdg (by rw [iI_toInt ha]; exact h) ht kk
theorem ir_look (hC : CallFix p m c cc nL s args tws own) {dflt : Int} {ps : Array (Int × Int)} {len : Nat} {a : Int} {off : Int} {tgt : Nat} (hdg : decode cc pc = .ok (.lookupswitch dflt ps, len)) (hp : (ps.toList.zip (ps.toList.drop 1)).all (fun (a, next) => a.1 < next.1) = true) (ha : i32 a) (ho : Op.lookupswitch.offset ps.toList dflt a = off) (ht : (pc : Int) + off = (tgt : Int))
    (kk : W p l e R s m args below meth c H locs cells slots Q (F0 m tgt ls rest)) : W p l e R s m args below meth c H locs cells slots Q (F0 m pc ls (.int (iI a) :: rest)) :=
  lv_lookup hC.1 hC.2.1 hdg hp (by rw [iI_toInt ha]; exact ho) ht kk
theorem ir_max (hC : CallFix p m c cc nL s args tws own) {index : Nat} (hlink : Cond.methodLink own index Lib.Math.max.name ∈ tws) (hstat : Cond.static Lib.Math.max.name ∈ tws) (hini : Cond.initialized "java/lang/Math" ∈ tws) (hcode : Cond.code Lib.Math.max.name Lib.Math.max.code 2 (some .int) ∈ tws) (hsize : ls.size = nL)
    (hframes : 1 ≤ R.frames) (hlocals : (rest.map fun v => v.category).sum + 13 ≤ R.locals) (hc : cells ≤ R.cells) (hs : slots ≤ R.slots) {a b : Int} (ha : i32 a) (hb : i32 b) (hdg : decode cc pc = .ok (.invokestatic index, 3))
    (kk : W p l e R s m args below meth c H locs cells slots Q (F0 m (pc + 3) ls (.int (iI (max a b)) :: rest))) : W p l e R s m args below meth c H locs cells slots Q (F0 m pc ls (.int (iI b) :: .int (iI a) :: rest)) := by
  refine va_mmax hC.1 hC.2.1 (by rw [hC.2.2.1, hsize]) hC.2.2.2.1 (hC.2.2.2.2 _ hlink) (hC.2.2.2.2 _ hstat) (hC.2.2.2.2 _ hini) (hC.2.2.2.2 _ hcode) hframes hlocals hc hs hdg ?_
  have e : (if iI a < iI b then iI b else iI a) = iI (max a b) := by
    by_cases h : a < b
    · rw [if_pos ((iI_lt ha hb).mpr h), Int.max_eq_right (by omega)]
    · rw [if_neg (fun z => h ((iI_lt ha hb).mp z)), Int.max_eq_left (by omega)]
  rw [e]
  exact kk
theorem ir_min (hC : CallFix p m c cc nL s args tws own) {index : Nat} (hlink : Cond.methodLink own index Lib.Math.min.name ∈ tws) (hstat : Cond.static Lib.Math.min.name ∈ tws) (hini : Cond.initialized "java/lang/Math" ∈ tws) (hcode : Cond.code Lib.Math.min.name Lib.Math.min.code 2 (some .int) ∈ tws) (hsize : ls.size = nL)
    (hframes : 1 ≤ R.frames) (hlocals : (rest.map fun v => v.category).sum + 13 ≤ R.locals) (hc : cells ≤ R.cells) (hs : slots ≤ R.slots) {a b : Int} (ha : i32 a) (hb : i32 b) (hdg : decode cc pc = .ok (.invokestatic index, 3))
    (kk : W p l e R s m args below meth c H locs cells slots Q (F0 m (pc + 3) ls (.int (iI (min a b)) :: rest))) : W p l e R s m args below meth c H locs cells slots Q (F0 m pc ls (.int (iI b) :: .int (iI a) :: rest)) := by
  refine va_mmin hC.1 hC.2.1 (by rw [hC.2.2.1, hsize]) hC.2.2.2.1 (hC.2.2.2.2 _ hlink) (hC.2.2.2.2 _ hstat) (hC.2.2.2.2 _ hini) (hC.2.2.2.2 _ hcode) hframes hlocals hc hs hdg ?_
  have e : (if iI b < iI a then iI b else iI a) = iI (min a b) := by
    by_cases h : b < a
    · rw [if_pos ((iI_lt hb ha).mpr h), Int.min_eq_right (by omega)]
    · rw [if_neg (fun z => h ((iI_lt hb ha).mp z)), Int.min_eq_left (by omega)]
  rw [e]
  exact kk
end R8
end
section
/-! what every cell's numbers stay within -/
def hiB (q j : Nat) : Int := match q with
  | 0 => if j = 5 then 1 else 100000
  | 1 => 12
  | 2 => 12
  | 3 => 30
  | 4 => 1000000
  | 5 => 30
  | 6 => 7
  | 7 => 7
  | 8 => 100
  | 9 => 100
  | 10 => 100
  | 11 => 4
  | 12 => 100000
  | 13 => 100000
  | 14 => 100
  | 15 => 20
  | 16 => 2
  | 17 => 1
  | 18 => 11
  | 19 => 100000
  | 20 => 7
  | 21 => 11
  | 22 => 1
  | 23 => 100 * ((j % 8 : Nat) : Int)
  | 24 => 7
  | 25 => if j = 0 then 2 else if j = 1 then 12 else if j = 10 then 12 else if j = 14 then 1 else if j = 15 then 100000 else 30
  | 26 => 7
  | 27 => 7
  | 28 => 100
  | 29 => 100
  | 30 => 100
  | 31 => 4
  | 32 => 100000
  | 33 => 100000
  | 34 => 100
  | 35 => 20
  | 36 => 2
  | 37 => 11
  | 38 => 100000
  | 39 => 1
  | 40 => 7
  | 41 => 11
  | 42 => 1
  | 43 => 1000000
  | _ => 0
def Inv (S : St) : Prop := ∀ q j : Nat, q < 44 → 0 ≤ S q j ∧ S q j ≤ hiB q j
theorem Inv.up {S : St} (h : Inv S) {q i : Nat} {x : Int} (h0 : 0 ≤ x) (h1 : x ≤ hiB q i) : Inv (s_up S q i x) := by
  intro k j hk
  rw [s_up_at]
  by_cases hc : k = q ∧ j = i
  · rw [if_pos hc, hc.1, hc.2]
    exact ⟨h0, h1⟩
  · rw [if_neg hc]
    exact h k j hk
theorem iv_0 {S : St} (h : Inv S) (j : Nat) : 0 ≤ S 0 j ∧ S 0 j ≤ 100000 := by
  have h1 := h 0 j (by decide)
  have h2 : hiB 0 j ≤ 100000 := by
    show (if j = 5 then (1 : Int) else 100000) ≤ 100000
    split <;> omega
  exact ⟨h1.1, by omega⟩
theorem iv_0z {S : St} (h : Inv S) : 0 ≤ S 0 5 ∧ S 0 5 ≤ 1 := h 0 5 (by decide)
theorem iv_23 {S : St} (h : Inv S) (j : Nat) : 0 ≤ S 23 j ∧ S 23 j ≤ 700 := by
  have h1 := h 23 j (by decide)
  have h2 : hiB 23 j = 100 * ((j % 8 : Nat) : Int) := rfl
  have h3 : j % 8 < 8 := Nat.mod_lt _ (by decide)
  exact ⟨h1.1, by omega⟩
theorem iv_23x {S : St} (h : Inv S) (j : Nat) : 0 ≤ S 23 j ∧ S 23 j ≤ 100 * ((j % 8 : Nat) : Int) := h 23 j (by decide)
theorem iv_25 {S : St} (h : Inv S) (j : Nat) : 0 ≤ S 25 j ∧ S 25 j ≤ 100000 := by
  have h1 := h 25 j (by decide)
  have h2 : hiB 25 j ≤ 100000 := by
    show (if j = 0 then (2 : Int) else if j = 1 then 12 else if j = 10 then 12 else if j = 14 then 1 else if j = 15 then 100000 else 30) ≤ 100000
    repeat (first | omega | split)
  exact ⟨h1.1, by omega⟩
theorem iv_25p {S : St} (h : Inv S) : 0 ≤ S 25 1 ∧ S 25 1 ≤ 12 := h 25 1 (by decide)
theorem iv_25s {S : St} (h : Inv S) : 0 ≤ S 25 10 ∧ S 25 10 ≤ 12 := h 25 10 (by decide)
theorem iv_25w {S : St} (h : Inv S) : 0 ≤ S 25 14 ∧ S 25 14 ≤ 1 := h 25 14 (by decide)
theorem iv_25k {S : St} (h : Inv S) : 0 ≤ S 25 16 ∧ S 25 16 ≤ 30 := h 25 16 (by decide)
theorem iv_25t {S : St} (h : Inv S) : 0 ≤ S 25 0 ∧ S 25 0 ≤ 2 := h 25 0 (by decide)
theorem iv_1 {S : St} (h : Inv S) (j : Nat) : 0 ≤ S 1 j ∧ S 1 j ≤ 12 := h 1 j (by decide)
theorem iv_2 {S : St} (h : Inv S) (j : Nat) : 0 ≤ S 2 j ∧ S 2 j ≤ 12 := h 2 j (by decide)
theorem iv_3 {S : St} (h : Inv S) (j : Nat) : 0 ≤ S 3 j ∧ S 3 j ≤ 30 := h 3 j (by decide)
theorem iv_4 {S : St} (h : Inv S) (j : Nat) : 0 ≤ S 4 j ∧ S 4 j ≤ 1000000 := h 4 j (by decide)
theorem iv_5 {S : St} (h : Inv S) (j : Nat) : 0 ≤ S 5 j ∧ S 5 j ≤ 30 := h 5 j (by decide)
theorem iv_6 {S : St} (h : Inv S) (j : Nat) : 0 ≤ S 6 j ∧ S 6 j ≤ 7 := h 6 j (by decide)
theorem iv_7 {S : St} (h : Inv S) (j : Nat) : 0 ≤ S 7 j ∧ S 7 j ≤ 7 := h 7 j (by decide)
theorem iv_8 {S : St} (h : Inv S) (j : Nat) : 0 ≤ S 8 j ∧ S 8 j ≤ 100 := h 8 j (by decide)
theorem iv_9 {S : St} (h : Inv S) (j : Nat) : 0 ≤ S 9 j ∧ S 9 j ≤ 100 := h 9 j (by decide)
theorem iv_10 {S : St} (h : Inv S) (j : Nat) : 0 ≤ S 10 j ∧ S 10 j ≤ 100 := h 10 j (by decide)
theorem iv_11 {S : St} (h : Inv S) (j : Nat) : 0 ≤ S 11 j ∧ S 11 j ≤ 4 := h 11 j (by decide)
theorem iv_12 {S : St} (h : Inv S) (j : Nat) : 0 ≤ S 12 j ∧ S 12 j ≤ 100000 := h 12 j (by decide)
theorem iv_13 {S : St} (h : Inv S) (j : Nat) : 0 ≤ S 13 j ∧ S 13 j ≤ 100000 := h 13 j (by decide)
theorem iv_14 {S : St} (h : Inv S) (j : Nat) : 0 ≤ S 14 j ∧ S 14 j ≤ 100 := h 14 j (by decide)
theorem iv_15 {S : St} (h : Inv S) (j : Nat) : 0 ≤ S 15 j ∧ S 15 j ≤ 20 := h 15 j (by decide)
theorem iv_16 {S : St} (h : Inv S) (j : Nat) : 0 ≤ S 16 j ∧ S 16 j ≤ 2 := h 16 j (by decide)
theorem iv_17 {S : St} (h : Inv S) (j : Nat) : 0 ≤ S 17 j ∧ S 17 j ≤ 1 := h 17 j (by decide)
theorem iv_18 {S : St} (h : Inv S) (j : Nat) : 0 ≤ S 18 j ∧ S 18 j ≤ 11 := h 18 j (by decide)
theorem iv_19 {S : St} (h : Inv S) (j : Nat) : 0 ≤ S 19 j ∧ S 19 j ≤ 100000 := h 19 j (by decide)
theorem iv_20 {S : St} (h : Inv S) (j : Nat) : 0 ≤ S 20 j ∧ S 20 j ≤ 7 := h 20 j (by decide)
theorem iv_21 {S : St} (h : Inv S) (j : Nat) : 0 ≤ S 21 j ∧ S 21 j ≤ 11 := h 21 j (by decide)
theorem iv_22 {S : St} (h : Inv S) (j : Nat) : 0 ≤ S 22 j ∧ S 22 j ≤ 1 := h 22 j (by decide)
theorem iv_24 {S : St} (h : Inv S) (j : Nat) : 0 ≤ S 24 j ∧ S 24 j ≤ 7 := h 24 j (by decide)
theorem iv_26 {S : St} (h : Inv S) (j : Nat) : 0 ≤ S 26 j ∧ S 26 j ≤ 7 := h 26 j (by decide)
theorem iv_27 {S : St} (h : Inv S) (j : Nat) : 0 ≤ S 27 j ∧ S 27 j ≤ 7 := h 27 j (by decide)
theorem iv_28 {S : St} (h : Inv S) (j : Nat) : 0 ≤ S 28 j ∧ S 28 j ≤ 100 := h 28 j (by decide)
theorem iv_29 {S : St} (h : Inv S) (j : Nat) : 0 ≤ S 29 j ∧ S 29 j ≤ 100 := h 29 j (by decide)
theorem iv_30 {S : St} (h : Inv S) (j : Nat) : 0 ≤ S 30 j ∧ S 30 j ≤ 100 := h 30 j (by decide)
theorem iv_31 {S : St} (h : Inv S) (j : Nat) : 0 ≤ S 31 j ∧ S 31 j ≤ 4 := h 31 j (by decide)
theorem iv_32 {S : St} (h : Inv S) (j : Nat) : 0 ≤ S 32 j ∧ S 32 j ≤ 100000 := h 32 j (by decide)
theorem iv_33 {S : St} (h : Inv S) (j : Nat) : 0 ≤ S 33 j ∧ S 33 j ≤ 100000 := h 33 j (by decide)
theorem iv_34 {S : St} (h : Inv S) (j : Nat) : 0 ≤ S 34 j ∧ S 34 j ≤ 100 := h 34 j (by decide)
theorem iv_35 {S : St} (h : Inv S) (j : Nat) : 0 ≤ S 35 j ∧ S 35 j ≤ 20 := h 35 j (by decide)
theorem iv_36 {S : St} (h : Inv S) (j : Nat) : 0 ≤ S 36 j ∧ S 36 j ≤ 2 := h 36 j (by decide)
theorem iv_37 {S : St} (h : Inv S) (j : Nat) : 0 ≤ S 37 j ∧ S 37 j ≤ 11 := h 37 j (by decide)
theorem iv_38 {S : St} (h : Inv S) (j : Nat) : 0 ≤ S 38 j ∧ S 38 j ≤ 100000 := h 38 j (by decide)
theorem iv_39 {S : St} (h : Inv S) (j : Nat) : 0 ≤ S 39 j ∧ S 39 j ≤ 1 := h 39 j (by decide)
theorem iv_40 {S : St} (h : Inv S) (j : Nat) : 0 ≤ S 40 j ∧ S 40 j ≤ 7 := h 40 j (by decide)
theorem iv_41 {S : St} (h : Inv S) (j : Nat) : 0 ≤ S 41 j ∧ S 41 j ≤ 11 := h 41 j (by decide)
theorem iv_42 {S : St} (h : Inv S) (j : Nat) : 0 ≤ S 42 j ∧ S 42 j ≤ 1 := h 42 j (by decide)
theorem iv_43 {S : St} (h : Inv S) (j : Nat) : 0 ≤ S 43 j ∧ S 43 j ≤ 1000000 := h 43 j (by decide)
end
section
/-! the class, as functions of the state -/
def wn (v a b : Int) : Bool := decide (a ≤ v) && decide (v ≤ b)
def shm (a b c d : Int) : Bool := decide (a < d) && decide (c < b)
def pOf (S : St) (row i : Int) : Int := S 21 (row * 7 + i).toNat
def fOf (S : St) (row i : Int) : Int := S 22 (row * 7 + i).toNat
def enA (S : St) (row i : Int) : Int := S 19 row.toNat + S 23 (row * 8 + i).toNat
def lvA (S : St) (row i : Int) : Int := S 19 row.toNat + S 23 (row * 8 + i + 1).toNat
def stO (S : St) (row q : Int) : Int := S 24 (row * 12 + q).toNat - 1
def rOf (S : St) (q k : Int) : Int := S 10 (q * 5 + k).toNat
def ovt (S : St) (row i ro j : Int) : Bool := !(decide (enA S row i - enA S ro j < 0) && decide (lvA S row i - lvA S ro j < 0)) && !(decide (0 < enA S row i - enA S ro j) && decide (0 < lvA S row i - lvA S ro j))
def gSum (S : St) : Nat → Int
  | 0 => 0
  | k + 1 => gSum S k + S 17 (k + 1)
theorem gSum_s (S : St) (k : Nat) : gSum S (k + 1) = gSum S k + S 17 (k + 1) := rfl
def oEnd (S : St) (q t : Int) : Int := if S 6 q.toNat = t then S 7 q.toNat else if S 7 q.toNat = t then S 6 q.toNat else -1
theorem pOf_b {S : St} (h : Inv S) (row i : Int) : 0 ≤ pOf S row i ∧ pOf S row i ≤ 11 := iv_21 h _
theorem fOf_b {S : St} (h : Inv S) (row i : Int) : 0 ≤ fOf S row i ∧ fOf S row i ≤ 1 := iv_22 h _
theorem rOf_b {S : St} (h : Inv S) (q k : Int) : 0 ≤ rOf S q k ∧ rOf S q k ≤ 100 := iv_10 h _
theorem enA_b {S : St} (h : Inv S) (row i : Int) : 0 ≤ enA S row i ∧ enA S row i ≤ 100700 := by
  have h1 := iv_19 h row.toNat
  have h2 := iv_23 h (row * 8 + i).toNat
  unfold enA
  omega
theorem lvA_b {S : St} (h : Inv S) (row i : Int) : 0 ≤ lvA S row i ∧ lvA S row i ≤ 100700 := by
  have h1 := iv_19 h row.toNat
  have h2 := iv_23 h (row * 8 + i + 1).toNat
  unfold lvA
  omega
theorem stO_b {S : St} (h : Inv S) (row q : Int) : -1 ≤ stO S row q ∧ stO S row q ≤ 6 := by
  have h1 := iv_24 h (row * 12 + q).toNat
  unfold stO
  omega
theorem oEnd_b {S : St} (h : Inv S) (q t : Int) : -1 ≤ oEnd S q t ∧ oEnd S q t ≤ 7 := by
  have h1 := iv_6 h q.toNat
  have h2 := iv_7 h q.toNat
  unfold oEnd
  split
  · omega
  · split <;> omega
theorem gSum_b {S : St} (h : Inv S) (k : Nat) : 0 ≤ gSum S k ∧ gSum S k ≤ k := by
  induction k with
  | zero => simp [gSum]
  | succ k ih =>
    have h1 := iv_17 h (k + 1)
    simp only [gSum]
    omega
set_option maxHeartbeats 4000000 in
set_option maxRecDepth 100000 in
theorem c_cr_isWithin (l : Launch) (G : Gt) (S : St) (v : Int) (a : Int) (b : Int) (hv : i32 v) (ha : i32 a) (hb : i32 b) : Met l y_cr_isWithin [.code y_cr_isWithin b_cr_isWithin 3 (some .boolean)] { frames := 0, cells := 0, slots := 0, locals := 0 } (va_Pc [.int (iI (v)), .int (iI (a)), .int (iI (b))] (fun U => wu G S U)) (qR (bI (wn v a b))) 0 0 (fun _ => False) := by
  refine mt_of (by decide +kernel) (Nat.le_of_ble_eq_true rfl) ?_
  intro p e s m below meth c ls hadm hC hr hlk hex hw hl
  have hC : CallFix p m c b_cr_isWithin 3 s _ tws "ChannelRules" := hC
  have hl : lv_has ls 3 [(0, .int (iI (v))), (1, .int (iI (a))), (2, .int (iI (b)))] := hl
  refine lv_iload_n hC.1 hC.2.1 d_cr_isWithin_0 rfl (lv_at hl 0 rfl) ?_
  refine lv_iload_n hC.1 hC.2.1 d_cr_isWithin_1 rfl (lv_at hl 1 rfl) ?_
  refine ir_lt (tgt := 14) hC.1 hC.2.1 d_cr_isWithin_2 (by decide) ⟨by omega, by omega⟩ ⟨by omega, by omega⟩ (fun c_1 => ?_) (fun c_1 => ?_)
  · skip
    refine lv_iconst (v := iI 0) hC.1 hC.2.1 d_cr_isWithin_14 rfl ?_
    exact rt_RZ hC hr hlk (by decide) (by first | rfl | (simp [wn, bI, c_1]; done) | (simp [wn, bI, c_1]; omega) | (simp [wn, bI, c_1] <;> split <;> omega) | omega) d_cr_isWithin_15
  · skip
    refine lv_iload_n hC.1 hC.2.1 d_cr_isWithin_5 rfl (lv_at hl 0 rfl) ?_
    refine lv_iload_n hC.1 hC.2.1 d_cr_isWithin_6 rfl (lv_at hl 2 rfl) ?_
    refine ir_gt (tgt := 14) hC.1 hC.2.1 d_cr_isWithin_7 (by decide) ⟨by omega, by omega⟩ ⟨by omega, by omega⟩ (fun c_2 => ?_) (fun c_2 => ?_)
    · skip
      refine lv_iconst (v := iI 0) hC.1 hC.2.1 d_cr_isWithin_14 rfl ?_
      exact rt_RZ hC hr hlk (by decide) (by first | rfl | (simp [wn, bI, c_1, c_2]; done) | (simp [wn, bI, c_1, c_2]; omega) | (simp [wn, bI, c_1, c_2] <;> split <;> omega) | omega) d_cr_isWithin_15
    · skip
      refine lv_iconst (v := iI 1) hC.1 hC.2.1 d_cr_isWithin_10 rfl ?_
      refine lv_goto (tgt := 15) hC.1 hC.2.1 d_cr_isWithin_11 (by decide) ?_
      exact rt_RZ hC hr hlk (by decide) (by first | rfl | (simp [wn, bI, c_1, c_2]; done) | (simp [wn, bI, c_1, c_2]; omega) | (simp [wn, bI, c_1, c_2] <;> split <;> omega) | omega) d_cr_isWithin_15
set_option maxHeartbeats 4000000 in
set_option maxRecDepth 100000 in
theorem c_cr_shareMinute (l : Launch) (G : Gt) (S : St) (a : Int) (b : Int) (c1 : Int) (d1 : Int) (ha : i32 a) (hb : i32 b) (hc1 : i32 c1) (hd1 : i32 d1) : Met l y_cr_shareMinute [.code y_cr_shareMinute b_cr_shareMinute 4 (some .boolean)] { frames := 0, cells := 0, slots := 0, locals := 0 } (va_Pc [.int (iI (a)), .int (iI (b)), .int (iI (c1)), .int (iI (d1))] (fun U => wu G S U)) (qR (bI (shm a b c1 d1))) 0 0 (fun _ => False) := by
  refine mt_of (by decide +kernel) (Nat.le_of_ble_eq_true rfl) ?_
  intro p e s m below meth c ls hadm hC hr hlk hex hw hl
  have hC : CallFix p m c b_cr_shareMinute 4 s _ tws "ChannelRules" := hC
  have hl : lv_has ls 4 [(0, .int (iI (a))), (1, .int (iI (b))), (2, .int (iI (c1))), (3, .int (iI (d1)))] := hl
  refine lv_iload_n hC.1 hC.2.1 d_cr_shareMinute_0 rfl (lv_at hl 0 rfl) ?_
  refine lv_iload_n hC.1 hC.2.1 d_cr_shareMinute_1 rfl (lv_at hl 3 rfl) ?_
  refine ir_ge (tgt := 14) hC.1 hC.2.1 d_cr_shareMinute_2 (by decide) ⟨by omega, by omega⟩ ⟨by omega, by omega⟩ (fun c_1 => ?_) (fun c_1 => ?_)
  · skip
    refine lv_iconst (v := iI 0) hC.1 hC.2.1 d_cr_shareMinute_14 rfl ?_
    exact rt_RZ hC hr hlk (by decide) (by first | rfl | (simp [shm, bI, c_1]; done) | (simp [shm, bI, c_1]; omega) | (simp [shm, bI, c_1] <;> split <;> omega) | omega) d_cr_shareMinute_15
  · skip
    refine lv_iload_n hC.1 hC.2.1 d_cr_shareMinute_5 rfl (lv_at hl 2 rfl) ?_
    refine lv_iload_n hC.1 hC.2.1 d_cr_shareMinute_6 rfl (lv_at hl 1 rfl) ?_
    refine ir_ge (tgt := 14) hC.1 hC.2.1 d_cr_shareMinute_7 (by decide) ⟨by omega, by omega⟩ ⟨by omega, by omega⟩ (fun c_2 => ?_) (fun c_2 => ?_)
    · skip
      refine lv_iconst (v := iI 0) hC.1 hC.2.1 d_cr_shareMinute_14 rfl ?_
      exact rt_RZ hC hr hlk (by decide) (by first | rfl | (simp [shm, bI, c_1, c_2]; done) | (simp [shm, bI, c_1, c_2]; omega) | (simp [shm, bI, c_1, c_2] <;> split <;> omega) | omega) d_cr_shareMinute_15
    · skip
      refine lv_iconst (v := iI 1) hC.1 hC.2.1 d_cr_shareMinute_10 rfl ?_
      refine lv_goto (tgt := 15) hC.1 hC.2.1 d_cr_shareMinute_11 (by decide) ?_
      exact rt_RZ hC hr hlk (by decide) (by first | rfl | (simp [shm, bI, c_1, c_2]; done) | (simp [shm, bI, c_1, c_2]; omega) | (simp [shm, bI, c_1, c_2] <;> split <;> omega) | omega) d_cr_shareMinute_15
set_option maxHeartbeats 4000000 in
set_option maxRecDepth 100000 in
theorem c_cr_isPoint (l : Launch) (G : Gt) (S : St) (v : Int) (hv : i32 v) : Met l y_cr_isPoint [.code y_cr_isPoint b_cr_isPoint 1 (some .boolean)] { frames := 1, cells := 0, slots := 0, locals := 22 } (va_Pc [.int (iI (v))] (fun U => wu G S U)) (qR (bI (wn v 0 7))) 0 0 (fun _ => False) := by
  refine mt_of (by decide +kernel) (Nat.le_of_ble_eq_true rfl) ?_
  intro p e s m below meth c ls hadm hC hr hlk hex hw hl
  have hC : CallFix p m c b_cr_isPoint 1 s _ tws "ChannelRules" := hC
  have hl : lv_has ls 1 [(0, .int (iI (v)))] := hl
  refine lv_iload_n hC.1 hC.2.1 d_cr_isPoint_0 rfl (lv_at hl 0 rfl) ?_
  refine lv_iconst (v := iI 0) hC.1 hC.2.1 d_cr_isPoint_1 rfl ?_
  refine lv_bipush (v := iI 7) hC.1 hC.2.1 d_cr_isPoint_2 (by decide +kernel) ?_
  refine go_R (ca_S (As := [.int (iI (v)), .int (iI (0)), .int (iI (7))]) (rest := []) hC hw (c_cr_isWithin l G S v 0 7 (by omega) (by omega) (by omega)) (cv_cr_56 hC rfl rfl (Nat.le_of_ble_eq_true rfl) (Nat.le_of_ble_eq_true rfl)) rfl hl.1 rfl (Nat.le_of_ble_eq_true rfl) d_cr_isPoint_4 ⟨Nat.le_of_ble_eq_true rfl, Nat.le_of_ble_eq_true rfl⟩) ?_
  exact rt_RZ hC hr hlk (bI_01 _) (by first | rfl | (simp [wn, bI]; done) | (simp [wn, bI]; omega) | (simp [wn, bI] <;> split <;> omega) | omega) d_cr_isPoint_7
set_option maxHeartbeats 4000000 in
set_option maxRecDepth 100000 in
theorem c_ps_hasSlot (l : Launch) (G : Gt) (S : St) (k : Int) (hI : Inv S) (hk : i32 k) : Met l y_ps_hasSlot [.code y_ps_hasSlot b_ps_hasSlot 2 (some .boolean)] { frames := 1, cells := 0, slots := 0, locals := 22 } (va_Pc [.ref (G.2.1 3), .int (iI (k))] (fun U => wu G S U)) (qR (bI (wn k 1 (S 3 0)))) 0 0 (fun _ => False) := by
  refine mt_of (by decide +kernel) (Nat.le_of_ble_eq_true rfl) ?_
  intro p e s m below meth c ls hadm hC hr hlk hex hw hl
  have hC : CallFix p m c b_ps_hasSlot 2 s _ tws "ChannelRules$Passages" := hC
  have hl : lv_has ls 2 [(0, .ref (G.2.1 3)), (1, .int (iI (k)))] := hl
  refine lv_iload_n hC.1 hC.2.1 d_ps_hasSlot_0 rfl (lv_at hl 1 rfl) ?_
  refine lv_iconst (v := iI 1) hC.1 hC.2.1 d_ps_hasSlot_1 rfl ?_
  refine lv_aload_n hC.1 hC.2.1 d_ps_hasSlot_2 rfl (lv_at hl 0 rfl) ?_
  refine gf_ps_9 hC hw d_ps_hasSlot_3 ?_
  have b_1 := iv_3 hI 0
  refine go_R (ca_N (As := [.int (iI (k)), .int (iI (1)), .int (iI (S 3 0))]) (rest := []) hC hw (c_cr_isWithin l G S k 1 (S 3 0) (by omega) (by omega) (by omega)) (cv_ps_41 hC rfl rfl (Nat.le_of_ble_eq_true rfl) (Nat.le_of_ble_eq_true rfl)) rfl hl.1 rfl (Nat.le_of_ble_eq_true rfl) d_ps_hasSlot_6 ⟨Nat.le_of_ble_eq_true rfl, Nat.le_of_ble_eq_true rfl⟩) ?_
  exact rt_RZ hC hr hlk (bI_01 _) (by first | rfl | (simp [wn, bI]; done) | (simp [wn, bI]; omega) | (simp [wn, bI] <;> split <;> omega) | omega) d_ps_hasSlot_9
set_option maxHeartbeats 4000000 in
set_option maxRecDepth 100000 in
theorem c_ps_pieceOf (l : Launch) (G : Gt) (S : St) (row : Int) (i : Int) (hI : Inv S) (hrow : 0 ≤ row ∧ row ≤ 30) (hi : 0 ≤ i ∧ i < 7) : Met l y_ps_pieceOf [.code y_ps_pieceOf b_ps_pieceOf 3 (some .int)] { frames := 0, cells := 0, slots := 0, locals := 0 } (va_Pc [.ref (G.2.1 3), .int (iI (row)), .int (iI (i))] (fun U => wu G S U)) (qR (pOf S row i)) 0 0 (fun _ => False) := by
  refine mt_of (by decide +kernel) (Nat.le_of_ble_eq_true rfl) ?_
  intro p e s m below meth c ls hadm hC hr hlk hex hw hl
  have hC : CallFix p m c b_ps_pieceOf 3 s _ tws "ChannelRules$Passages" := hC
  have hl : lv_has ls 3 [(0, .ref (G.2.1 3)), (1, .int (iI (row))), (2, .int (iI (i)))] := hl
  refine lv_aload_n hC.1 hC.2.1 d_ps_pieceOf_0 rfl (lv_at hl 0 rfl) ?_
  refine gf_ps_29 hC hw d_ps_pieceOf_1 ?_
  refine lv_iload_n hC.1 hC.2.1 d_ps_pieceOf_4 rfl (lv_at hl 1 rfl) ?_
  refine lv_bipush (v := iI 7) hC.1 hC.2.1 d_ps_pieceOf_5 (by decide +kernel) ?_
  refine ir_mul hC.1 hC.2.1 d_ps_pieceOf_7 ?_
  refine lv_iload_n hC.1 hC.2.1 d_ps_pieceOf_8 rfl (lv_at hl 2 rfl) ?_
  refine ir_add hC.1 hC.2.1 d_ps_pieceOf_9 ?_
  refine ld_21 hC hw (by omega) (by omega) d_ps_pieceOf_10 ?_
  have b_1 := iv_21 hI (((row * 7) + i).toNat)
  exact rt_R hC hr hlk (by first | rfl | (simp [pOf]; done) | (simp [pOf]; omega) | (simp [pOf] <;> split <;> omega) | omega) d_ps_pieceOf_11
set_option maxHeartbeats 4000000 in
set_option maxRecDepth 100000 in
theorem c_ps_isForward (l : Launch) (G : Gt) (S : St) (row : Int) (i : Int) (hI : Inv S) (hrow : 0 ≤ row ∧ row ≤ 30) (hi : 0 ≤ i ∧ i < 7) : Met l y_ps_isForward [.code y_ps_isForward b_ps_isForward 3 (some .boolean)] { frames := 0, cells := 0, slots := 0, locals := 0 } (va_Pc [.ref (G.2.1 3), .int (iI (row)), .int (iI (i))] (fun U => wu G S U)) (qR (fOf S row i)) 0 0 (fun _ => False) := by
  refine mt_of (by decide +kernel) (Nat.le_of_ble_eq_true rfl) ?_
  intro p e s m below meth c ls hadm hC hr hlk hex hw hl
  have hC : CallFix p m c b_ps_isForward 3 s _ tws "ChannelRules$Passages" := hC
  have hl : lv_has ls 3 [(0, .ref (G.2.1 3)), (1, .int (iI (row))), (2, .int (iI (i)))] := hl
  refine lv_aload_n hC.1 hC.2.1 d_ps_isForward_0 rfl (lv_at hl 0 rfl) ?_
  refine gf_ps_32 hC hw d_ps_isForward_1 ?_
  refine lv_iload_n hC.1 hC.2.1 d_ps_isForward_4 rfl (lv_at hl 1 rfl) ?_
  refine lv_bipush (v := iI 7) hC.1 hC.2.1 d_ps_isForward_5 (by decide +kernel) ?_
  refine ir_mul hC.1 hC.2.1 d_ps_isForward_7 ?_
  refine lv_iload_n hC.1 hC.2.1 d_ps_isForward_8 rfl (lv_at hl 2 rfl) ?_
  refine ir_add hC.1 hC.2.1 d_ps_isForward_9 ?_
  refine ld_22 hC hw (by omega) (by omega) d_ps_isForward_10 ?_
  have b_1 := iv_22 hI (((row * 7) + i).toNat)
  exact rt_RZ hC hr hlk (by omega) (by first | rfl | (simp [fOf]; done) | (simp [fOf]; omega) | (simp [fOf] <;> split <;> omega) | omega) d_ps_isForward_11
set_option maxHeartbeats 4000000 in
set_option maxRecDepth 100000 in
theorem c_ps_entersAt (l : Launch) (G : Gt) (S : St) (row : Int) (i : Int) (hI : Inv S) (hrow : 0 ≤ row ∧ row ≤ 30) (hi : 0 ≤ i ∧ i < 7) : Met l y_ps_entersAt [.code y_ps_entersAt b_ps_entersAt 3 (some .int)] { frames := 0, cells := 0, slots := 0, locals := 0 } (va_Pc [.ref (G.2.1 3), .int (iI (row)), .int (iI (i))] (fun U => wu G S U)) (qR (enA S row i)) 0 0 (fun _ => False) := by
  refine mt_of (by decide +kernel) (Nat.le_of_ble_eq_true rfl) ?_
  intro p e s m below meth c ls hadm hC hr hlk hex hw hl
  have hC : CallFix p m c b_ps_entersAt 3 s _ tws "ChannelRules$Passages" := hC
  have hl : lv_has ls 3 [(0, .ref (G.2.1 3)), (1, .int (iI (row))), (2, .int (iI (i)))] := hl
  refine lv_aload_n hC.1 hC.2.1 d_ps_entersAt_0 rfl (lv_at hl 0 rfl) ?_
  refine gf_ps_23 hC hw d_ps_entersAt_1 ?_
  refine lv_iload_n hC.1 hC.2.1 d_ps_entersAt_4 rfl (lv_at hl 1 rfl) ?_
  refine ld_19 hC hw (by omega) (by omega) d_ps_entersAt_5 ?_
  have b_1 := iv_19 hI row.toNat
  refine lv_aload_n hC.1 hC.2.1 d_ps_entersAt_6 rfl (lv_at hl 0 rfl) ?_
  refine gf_ps_35 hC hw d_ps_entersAt_7 ?_
  refine lv_iload_n hC.1 hC.2.1 d_ps_entersAt_10 rfl (lv_at hl 1 rfl) ?_
  refine lv_bipush (v := iI 8) hC.1 hC.2.1 d_ps_entersAt_11 (by decide +kernel) ?_
  refine ir_mul hC.1 hC.2.1 d_ps_entersAt_13 ?_
  refine lv_iload_n hC.1 hC.2.1 d_ps_entersAt_14 rfl (lv_at hl 2 rfl) ?_
  refine ir_add hC.1 hC.2.1 d_ps_entersAt_15 ?_
  refine ld_23 hC hw (by omega) (by omega) d_ps_entersAt_16 ?_
  have b_2 := iv_23 hI (((row * 8) + i).toNat)
  refine ir_add hC.1 hC.2.1 d_ps_entersAt_17 ?_
  exact rt_R hC hr hlk (by first | rfl | (simp [enA]; done) | (simp [enA]; omega) | (simp [enA] <;> split <;> omega) | omega) d_ps_entersAt_18
set_option maxHeartbeats 4000000 in
set_option maxRecDepth 100000 in
theorem c_ps_leavesAt (l : Launch) (G : Gt) (S : St) (row : Int) (i : Int) (hI : Inv S) (hrow : 0 ≤ row ∧ row ≤ 30) (hi : 0 ≤ i ∧ i < 7) : Met l y_ps_leavesAt [.code y_ps_leavesAt b_ps_leavesAt 3 (some .int)] { frames := 0, cells := 0, slots := 0, locals := 0 } (va_Pc [.ref (G.2.1 3), .int (iI (row)), .int (iI (i))] (fun U => wu G S U)) (qR (lvA S row i)) 0 0 (fun _ => False) := by
  refine mt_of (by decide +kernel) (Nat.le_of_ble_eq_true rfl) ?_
  intro p e s m below meth c ls hadm hC hr hlk hex hw hl
  have hC : CallFix p m c b_ps_leavesAt 3 s _ tws "ChannelRules$Passages" := hC
  have hl : lv_has ls 3 [(0, .ref (G.2.1 3)), (1, .int (iI (row))), (2, .int (iI (i)))] := hl
  refine lv_aload_n hC.1 hC.2.1 d_ps_leavesAt_0 rfl (lv_at hl 0 rfl) ?_
  refine gf_ps_23 hC hw d_ps_leavesAt_1 ?_
  refine lv_iload_n hC.1 hC.2.1 d_ps_leavesAt_4 rfl (lv_at hl 1 rfl) ?_
  refine ld_19 hC hw (by omega) (by omega) d_ps_leavesAt_5 ?_
  have b_1 := iv_19 hI row.toNat
  refine lv_aload_n hC.1 hC.2.1 d_ps_leavesAt_6 rfl (lv_at hl 0 rfl) ?_
  refine gf_ps_35 hC hw d_ps_leavesAt_7 ?_
  refine lv_iload_n hC.1 hC.2.1 d_ps_leavesAt_10 rfl (lv_at hl 1 rfl) ?_
  refine lv_bipush (v := iI 8) hC.1 hC.2.1 d_ps_leavesAt_11 (by decide +kernel) ?_
  refine ir_mul hC.1 hC.2.1 d_ps_leavesAt_13 ?_
  refine lv_iload_n hC.1 hC.2.1 d_ps_leavesAt_14 rfl (lv_at hl 2 rfl) ?_
  refine ir_add hC.1 hC.2.1 d_ps_leavesAt_15 ?_
  refine lv_iconst (v := iI 1) hC.1 hC.2.1 d_ps_leavesAt_16 rfl ?_
  refine ir_add hC.1 hC.2.1 d_ps_leavesAt_17 ?_
  refine ld_23 hC hw (by omega) (by omega) d_ps_leavesAt_18 ?_
  have b_2 := iv_23 hI ((((row * 8) + i) + 1).toNat)
  refine ir_add hC.1 hC.2.1 d_ps_leavesAt_19 ?_
  exact rt_R hC hr hlk (by first | rfl | (simp [lvA]; done) | (simp [lvA]; omega) | (simp [lvA] <;> split <;> omega) | omega) d_ps_leavesAt_20
set_option maxHeartbeats 4000000 in
set_option maxRecDepth 100000 in
theorem c_ps_stayOn (l : Launch) (G : Gt) (S : St) (row : Int) (q : Int) (hI : Inv S) (hrow : 0 ≤ row ∧ row ≤ 30) (hq : 0 ≤ q ∧ q < 12) : Met l y_ps_stayOn [.code y_ps_stayOn b_ps_stayOn 3 (some .int)] { frames := 0, cells := 0, slots := 0, locals := 0 } (va_Pc [.ref (G.2.1 3), .int (iI (row)), .int (iI (q))] (fun U => wu G S U)) (qR (stO S row q)) 0 0 (fun _ => False) := by
  refine mt_of (by decide +kernel) (Nat.le_of_ble_eq_true rfl) ?_
  intro p e s m below meth c ls hadm hC hr hlk hex hw hl
  have hC : CallFix p m c b_ps_stayOn 3 s _ tws "ChannelRules$Passages" := hC
  have hl : lv_has ls 3 [(0, .ref (G.2.1 3)), (1, .int (iI (row))), (2, .int (iI (q)))] := hl
  refine lv_aload_n hC.1 hC.2.1 d_ps_stayOn_0 rfl (lv_at hl 0 rfl) ?_
  refine gf_ps_38 hC hw d_ps_stayOn_1 ?_
  refine lv_iload_n hC.1 hC.2.1 d_ps_stayOn_4 rfl (lv_at hl 1 rfl) ?_
  refine lv_bipush (v := iI 12) hC.1 hC.2.1 d_ps_stayOn_5 (by decide +kernel) ?_
  refine ir_mul hC.1 hC.2.1 d_ps_stayOn_7 ?_
  refine lv_iload_n hC.1 hC.2.1 d_ps_stayOn_8 rfl (lv_at hl 2 rfl) ?_
  refine ir_add hC.1 hC.2.1 d_ps_stayOn_9 ?_
  refine ld_24 hC hw (by omega) (by omega) d_ps_stayOn_10 ?_
  have b_1 := iv_24 hI (((row * 12) + q).toNat)
  refine lv_iconst (v := iI 1) hC.1 hC.2.1 d_ps_stayOn_11 rfl ?_
  refine ir_sub hC.1 hC.2.1 d_ps_stayOn_12 ?_
  exact rt_R hC hr hlk (by first | rfl | (simp [stO]; done) | (simp [stO]; omega) | (simp [stO] <;> split <;> omega) | omega) d_ps_stayOn_13
set_option maxHeartbeats 4000000 in
set_option maxRecDepth 100000 in
theorem c_ps_isOvertaking (l : Launch) (G : Gt) (S : St) (row : Int) (i : Int) (ro : Int) (j : Int) (hI : Inv S) (hrow : 0 ≤ row ∧ row ≤ 30) (hi : 0 ≤ i ∧ i < 7) (hro : 0 ≤ ro ∧ ro ≤ 30) (hj : 0 ≤ j ∧ j < 7) : Met l y_ps_isOvertaking [.code y_ps_isOvertaking b_ps_isOvertaking 9 (some .boolean)] { frames := 1, cells := 0, slots := 0, locals := 22 } (va_Pc [.ref (G.2.1 3), .int (iI (row)), .int (iI (i)), .int (iI (ro)), .int (iI (j))] (fun U => wu G S U)) (qR (bI (ovt S row i ro j))) 0 0 (fun _ => False) := by
  refine mt_of (by decide +kernel) (Nat.le_of_ble_eq_true rfl) ?_
  intro p e s m below meth c ls hadm hC hr hlk hex hw hl
  have hC : CallFix p m c b_ps_isOvertaking 9 s _ tws "ChannelRules$Passages" := hC
  have hl : lv_has ls 9 [(0, .ref (G.2.1 3)), (1, .int (iI (row))), (2, .int (iI (i))), (3, .int (iI (ro))), (4, .int (iI (j)))] := hl
  refine lv_aload_n hC.1 hC.2.1 d_ps_isOvertaking_0 rfl (lv_at hl 0 rfl) ?_
  refine lv_iload_n hC.1 hC.2.1 d_ps_isOvertaking_1 rfl (lv_at hl 1 rfl) ?_
  refine lv_iload_n hC.1 hC.2.1 d_ps_isOvertaking_2 rfl (lv_at hl 2 rfl) ?_
  refine go_R (ca_V (As := [.int (iI (row)), .int (iI (i))]) (rest := []) hC hw (c_ps_entersAt l G S row i hI (by omega) (by omega)) (cv_ps_45 hC rfl rfl (Nat.le_of_ble_eq_true rfl) (Nat.le_of_ble_eq_true rfl)) (by decide) rfl rfl rfl hl.1 rfl (Nat.le_of_ble_eq_true rfl) d_ps_isOvertaking_3 ⟨Nat.le_of_ble_eq_true rfl, Nat.le_of_ble_eq_true rfl⟩) ?_
  have r_1 := enA_b hI row i
  refine lv_aload_n hC.1 hC.2.1 d_ps_isOvertaking_6 rfl (lv_at hl 0 rfl) ?_
  refine lv_iload_n hC.1 hC.2.1 d_ps_isOvertaking_7 rfl (lv_at hl 3 rfl) ?_
  refine lv_iload hC.1 hC.2.1 d_ps_isOvertaking_8 (lv_at hl 4 rfl) ?_
  refine go_R (ca_V (As := [.int (iI (ro)), .int (iI (j))]) (rest := [.int (iI (enA S row i))]) hC hw (c_ps_entersAt l G S ro j hI (by omega) (by omega)) (cv_ps_45 hC rfl rfl (Nat.le_of_ble_eq_true rfl) (Nat.le_of_ble_eq_true rfl)) (by decide) rfl rfl rfl hl.1 rfl (Nat.le_of_ble_eq_true rfl) d_ps_isOvertaking_10 ⟨Nat.le_of_ble_eq_true rfl, Nat.le_of_ble_eq_true rfl⟩) ?_
  have r_2 := enA_b hI ro j
  refine ir_sub hC.1 hC.2.1 d_ps_isOvertaking_13 ?_
  refine lv_istore (lv' := [(5, .int (iI ((enA S row i) - (enA S ro j)))), (0, .ref (G.2.1 3)), (1, .int (iI (row))), (2, .int (iI (i))), (3, .int (iI (ro))), (4, .int (iI (j)))]) hC.1 hC.2.1 d_ps_isOvertaking_14 hl (by decide) rfl (fun ls hl => ?_)
  refine lv_aload_n hC.1 hC.2.1 d_ps_isOvertaking_16 rfl (lv_at hl 1 rfl) ?_
  refine lv_iload_n hC.1 hC.2.1 d_ps_isOvertaking_17 rfl (lv_at hl 2 rfl) ?_
  refine lv_iload_n hC.1 hC.2.1 d_ps_isOvertaking_18 rfl (lv_at hl 3 rfl) ?_
  refine go_R (ca_V (As := [.int (iI (row)), .int (iI (i))]) (rest := []) hC hw (c_ps_leavesAt l G S row i hI (by omega) (by omega)) (cv_ps_49 hC rfl rfl (Nat.le_of_ble_eq_true rfl) (Nat.le_of_ble_eq_true rfl)) (by decide) rfl rfl rfl hl.1 rfl (Nat.le_of_ble_eq_true rfl) d_ps_isOvertaking_19 ⟨Nat.le_of_ble_eq_true rfl, Nat.le_of_ble_eq_true rfl⟩) ?_
  have r_3 := lvA_b hI row i
  refine lv_aload_n hC.1 hC.2.1 d_ps_isOvertaking_22 rfl (lv_at hl 1 rfl) ?_
  refine lv_iload_n hC.1 hC.2.1 d_ps_isOvertaking_23 rfl (lv_at hl 4 rfl) ?_
  refine lv_iload hC.1 hC.2.1 d_ps_isOvertaking_24 (lv_at hl 5 rfl) ?_
  refine go_R (ca_V (As := [.int (iI (ro)), .int (iI (j))]) (rest := [.int (iI (lvA S row i))]) hC hw (c_ps_leavesAt l G S ro j hI (by omega) (by omega)) (cv_ps_49 hC rfl rfl (Nat.le_of_ble_eq_true rfl) (Nat.le_of_ble_eq_true rfl)) (by decide) rfl rfl rfl hl.1 rfl (Nat.le_of_ble_eq_true rfl) d_ps_isOvertaking_26 ⟨Nat.le_of_ble_eq_true rfl, Nat.le_of_ble_eq_true rfl⟩) ?_
  have r_4 := lvA_b hI ro j
  refine ir_sub hC.1 hC.2.1 d_ps_isOvertaking_29 ?_
  refine lv_istore (lv' := [(6, .int (iI ((lvA S row i) - (lvA S ro j)))), (5, .int (iI ((enA S row i) - (enA S ro j)))), (0, .ref (G.2.1 3)), (1, .int (iI (row))), (2, .int (iI (i))), (3, .int (iI (ro))), (4, .int (iI (j)))]) hC.1 hC.2.1 d_ps_isOvertaking_30 hl (by decide) rfl (fun ls hl => ?_)
  refine lv_iload hC.1 hC.2.1 d_ps_isOvertaking_32 (lv_at hl 1 rfl) ?_
  refine ir_if_ge (tgt := 46) hC.1 hC.2.1 d_ps_isOvertaking_34 (by decide) ⟨by omega, by omega⟩ (fun c_5 => ?_) (fun c_5 => ?_)
  · skip
    refine lv_iconst (v := iI 0) hC.1 hC.2.1 d_ps_isOvertaking_46 rfl ?_
    refine lv_istore (lv' := [(7, .int (iI (0))), (6, .int (iI ((lvA S row i) - (lvA S ro j)))), (5, .int (iI ((enA S row i) - (enA S ro j)))), (0, .ref (G.2.1 3)), (1, .int (iI (row))), (2, .int (iI (i))), (3, .int (iI (ro))), (4, .int (iI (j)))]) hC.1 hC.2.1 d_ps_isOvertaking_47 hl (by decide) rfl (fun ls hl => ?_)
    refine lv_iload hC.1 hC.2.1 d_ps_isOvertaking_49 (lv_at hl 2 rfl) ?_
    refine ir_if_le (tgt := 63) hC.1 hC.2.1 d_ps_isOvertaking_51 (by decide) ⟨by omega, by omega⟩ (fun c_6 => ?_) (fun c_6 => ?_)
    · skip
      refine lv_iconst (v := iI 0) hC.1 hC.2.1 d_ps_isOvertaking_63 rfl ?_
      refine lv_istore (lv' := [(8, .int (iI (0))), (7, .int (iI (0))), (6, .int (iI ((lvA S row i) - (lvA S ro j)))), (5, .int (iI ((enA S row i) - (enA S ro j)))), (0, .ref (G.2.1 3)), (1, .int (iI (row))), (2, .int (iI (i))), (3, .int (iI (ro))), (4, .int (iI (j)))]) hC.1 hC.2.1 d_ps_isOvertaking_64 hl (by decide) rfl (fun ls hl => ?_)
      refine lv_iload hC.1 hC.2.1 d_ps_isOvertaking_66 (lv_at hl 1 rfl) ?_
      refine ir_if_ne (tgt := 80) hC.1 hC.2.1 d_ps_isOvertaking_68 (by decide) (by decide) (fun c_7 => ?_) (fun c_7 => ?_)
      · exact absurd c_7 (by decide)
      · skip
        refine lv_iload hC.1 hC.2.1 d_ps_isOvertaking_71 (lv_at hl 0 rfl) ?_
        refine ir_if_ne (tgt := 80) hC.1 hC.2.1 d_ps_isOvertaking_73 (by decide) (by decide) (fun c_8 => ?_) (fun c_8 => ?_)
        · exact absurd c_8 (by decide)
        · skip
          refine lv_iconst (v := iI 1) hC.1 hC.2.1 d_ps_isOvertaking_76 rfl ?_
          refine lv_goto (tgt := 81) hC.1 hC.2.1 d_ps_isOvertaking_77 (by decide) ?_
          exact rt_RZ hC hr hlk (by decide) (by first | rfl | (simp [ovt, bI, c_5, c_6]; done) | (simp [ovt, bI, c_5, c_6]; omega) | (simp [ovt, bI, c_5, c_6] <;> split <;> omega) | omega) d_ps_isOvertaking_81
    · skip
      refine lv_iload hC.1 hC.2.1 d_ps_isOvertaking_54 (lv_at hl 1 rfl) ?_
      refine ir_if_le (tgt := 63) hC.1 hC.2.1 d_ps_isOvertaking_56 (by decide) ⟨by omega, by omega⟩ (fun c_9 => ?_) (fun c_9 => ?_)
      · skip
        refine lv_iconst (v := iI 0) hC.1 hC.2.1 d_ps_isOvertaking_63 rfl ?_
        refine lv_istore (lv' := [(8, .int (iI (0))), (7, .int (iI (0))), (6, .int (iI ((lvA S row i) - (lvA S ro j)))), (5, .int (iI ((enA S row i) - (enA S ro j)))), (0, .ref (G.2.1 3)), (1, .int (iI (row))), (2, .int (iI (i))), (3, .int (iI (ro))), (4, .int (iI (j)))]) hC.1 hC.2.1 d_ps_isOvertaking_64 hl (by decide) rfl (fun ls hl => ?_)
        refine lv_iload hC.1 hC.2.1 d_ps_isOvertaking_66 (lv_at hl 1 rfl) ?_
        refine ir_if_ne (tgt := 80) hC.1 hC.2.1 d_ps_isOvertaking_68 (by decide) (by decide) (fun c_10 => ?_) (fun c_10 => ?_)
        · exact absurd c_10 (by decide)
        · skip
          refine lv_iload hC.1 hC.2.1 d_ps_isOvertaking_71 (lv_at hl 0 rfl) ?_
          refine ir_if_ne (tgt := 80) hC.1 hC.2.1 d_ps_isOvertaking_73 (by decide) (by decide) (fun c_11 => ?_) (fun c_11 => ?_)
          · exact absurd c_11 (by decide)
          · skip
            refine lv_iconst (v := iI 1) hC.1 hC.2.1 d_ps_isOvertaking_76 rfl ?_
            refine lv_goto (tgt := 81) hC.1 hC.2.1 d_ps_isOvertaking_77 (by decide) ?_
            exact rt_RZ hC hr hlk (by decide) (by first | rfl | (simp [ovt, bI, c_5, c_6, c_9]; done) | (simp [ovt, bI, c_5, c_6, c_9]; omega) | (simp [ovt, bI, c_5, c_6, c_9] <;> split <;> omega) | omega) d_ps_isOvertaking_81
      · skip
        refine lv_iconst (v := iI 1) hC.1 hC.2.1 d_ps_isOvertaking_59 rfl ?_
        refine lv_goto (tgt := 64) hC.1 hC.2.1 d_ps_isOvertaking_60 (by decide) ?_
        refine lv_istore (lv' := [(8, .int (iI (1))), (7, .int (iI (0))), (6, .int (iI ((lvA S row i) - (lvA S ro j)))), (5, .int (iI ((enA S row i) - (enA S ro j)))), (0, .ref (G.2.1 3)), (1, .int (iI (row))), (2, .int (iI (i))), (3, .int (iI (ro))), (4, .int (iI (j)))]) hC.1 hC.2.1 d_ps_isOvertaking_64 hl (by decide) rfl (fun ls hl => ?_)
        refine lv_iload hC.1 hC.2.1 d_ps_isOvertaking_66 (lv_at hl 1 rfl) ?_
        refine ir_if_ne (tgt := 80) hC.1 hC.2.1 d_ps_isOvertaking_68 (by decide) (by decide) (fun c_12 => ?_) (fun c_12 => ?_)
        · exact absurd c_12 (by decide)
        · skip
          refine lv_iload hC.1 hC.2.1 d_ps_isOvertaking_71 (lv_at hl 0 rfl) ?_
          refine ir_if_ne (tgt := 80) hC.1 hC.2.1 d_ps_isOvertaking_73 (by decide) (by decide) (fun c_13 => ?_) (fun c_13 => ?_)
          · skip
            refine lv_iconst (v := iI 0) hC.1 hC.2.1 d_ps_isOvertaking_80 rfl ?_
            exact rt_RZ hC hr hlk (by decide) (by first | rfl | (simp [ovt, bI, c_5, c_6, c_9]; done) | (simp [ovt, bI, c_5, c_6, c_9]; omega) | (simp [ovt, bI, c_5, c_6, c_9] <;> split <;> omega) | omega) d_ps_isOvertaking_81
          · exact absurd c_13 (by decide)
  · skip
    refine lv_iload hC.1 hC.2.1 d_ps_isOvertaking_37 (lv_at hl 0 rfl) ?_
    refine ir_if_ge (tgt := 46) hC.1 hC.2.1 d_ps_isOvertaking_39 (by decide) ⟨by omega, by omega⟩ (fun c_14 => ?_) (fun c_14 => ?_)
    · skip
      refine lv_iconst (v := iI 0) hC.1 hC.2.1 d_ps_isOvertaking_46 rfl ?_
      refine lv_istore (lv' := [(7, .int (iI (0))), (6, .int (iI ((lvA S row i) - (lvA S ro j)))), (5, .int (iI ((enA S row i) - (enA S ro j)))), (0, .ref (G.2.1 3)), (1, .int (iI (row))), (2, .int (iI (i))), (3, .int (iI (ro))), (4, .int (iI (j)))]) hC.1 hC.2.1 d_ps_isOvertaking_47 hl (by decide) rfl (fun ls hl => ?_)
      refine lv_iload hC.1 hC.2.1 d_ps_isOvertaking_49 (lv_at hl 2 rfl) ?_
      refine ir_if_le (tgt := 63) hC.1 hC.2.1 d_ps_isOvertaking_51 (by decide) ⟨by omega, by omega⟩ (fun c_15 => ?_) (fun c_15 => ?_)
      · skip
        refine lv_iconst (v := iI 0) hC.1 hC.2.1 d_ps_isOvertaking_63 rfl ?_
        refine lv_istore (lv' := [(8, .int (iI (0))), (7, .int (iI (0))), (6, .int (iI ((lvA S row i) - (lvA S ro j)))), (5, .int (iI ((enA S row i) - (enA S ro j)))), (0, .ref (G.2.1 3)), (1, .int (iI (row))), (2, .int (iI (i))), (3, .int (iI (ro))), (4, .int (iI (j)))]) hC.1 hC.2.1 d_ps_isOvertaking_64 hl (by decide) rfl (fun ls hl => ?_)
        refine lv_iload hC.1 hC.2.1 d_ps_isOvertaking_66 (lv_at hl 1 rfl) ?_
        refine ir_if_ne (tgt := 80) hC.1 hC.2.1 d_ps_isOvertaking_68 (by decide) (by decide) (fun c_16 => ?_) (fun c_16 => ?_)
        · exact absurd c_16 (by decide)
        · skip
          refine lv_iload hC.1 hC.2.1 d_ps_isOvertaking_71 (lv_at hl 0 rfl) ?_
          refine ir_if_ne (tgt := 80) hC.1 hC.2.1 d_ps_isOvertaking_73 (by decide) (by decide) (fun c_17 => ?_) (fun c_17 => ?_)
          · exact absurd c_17 (by decide)
          · skip
            refine lv_iconst (v := iI 1) hC.1 hC.2.1 d_ps_isOvertaking_76 rfl ?_
            refine lv_goto (tgt := 81) hC.1 hC.2.1 d_ps_isOvertaking_77 (by decide) ?_
            exact rt_RZ hC hr hlk (by decide) (by first | rfl | (simp [ovt, bI, c_5, c_14, c_15]; done) | (simp [ovt, bI, c_5, c_14, c_15]; omega) | (simp [ovt, bI, c_5, c_14, c_15] <;> split <;> omega) | omega) d_ps_isOvertaking_81
      · skip
        refine lv_iload hC.1 hC.2.1 d_ps_isOvertaking_54 (lv_at hl 1 rfl) ?_
        refine ir_if_le (tgt := 63) hC.1 hC.2.1 d_ps_isOvertaking_56 (by decide) ⟨by omega, by omega⟩ (fun c_18 => ?_) (fun c_18 => ?_)
        · skip
          refine lv_iconst (v := iI 0) hC.1 hC.2.1 d_ps_isOvertaking_63 rfl ?_
          refine lv_istore (lv' := [(8, .int (iI (0))), (7, .int (iI (0))), (6, .int (iI ((lvA S row i) - (lvA S ro j)))), (5, .int (iI ((enA S row i) - (enA S ro j)))), (0, .ref (G.2.1 3)), (1, .int (iI (row))), (2, .int (iI (i))), (3, .int (iI (ro))), (4, .int (iI (j)))]) hC.1 hC.2.1 d_ps_isOvertaking_64 hl (by decide) rfl (fun ls hl => ?_)
          refine lv_iload hC.1 hC.2.1 d_ps_isOvertaking_66 (lv_at hl 1 rfl) ?_
          refine ir_if_ne (tgt := 80) hC.1 hC.2.1 d_ps_isOvertaking_68 (by decide) (by decide) (fun c_19 => ?_) (fun c_19 => ?_)
          · exact absurd c_19 (by decide)
          · skip
            refine lv_iload hC.1 hC.2.1 d_ps_isOvertaking_71 (lv_at hl 0 rfl) ?_
            refine ir_if_ne (tgt := 80) hC.1 hC.2.1 d_ps_isOvertaking_73 (by decide) (by decide) (fun c_20 => ?_) (fun c_20 => ?_)
            · exact absurd c_20 (by decide)
            · skip
              refine lv_iconst (v := iI 1) hC.1 hC.2.1 d_ps_isOvertaking_76 rfl ?_
              refine lv_goto (tgt := 81) hC.1 hC.2.1 d_ps_isOvertaking_77 (by decide) ?_
              exact rt_RZ hC hr hlk (by decide) (by first | rfl | (simp [ovt, bI, c_5, c_14, c_15, c_18]; done) | (simp [ovt, bI, c_5, c_14, c_15, c_18]; omega) | (simp [ovt, bI, c_5, c_14, c_15, c_18] <;> split <;> omega) | omega) d_ps_isOvertaking_81
        · skip
          refine lv_iconst (v := iI 1) hC.1 hC.2.1 d_ps_isOvertaking_59 rfl ?_
          refine lv_goto (tgt := 64) hC.1 hC.2.1 d_ps_isOvertaking_60 (by decide) ?_
          refine lv_istore (lv' := [(8, .int (iI (1))), (7, .int (iI (0))), (6, .int (iI ((lvA S row i) - (lvA S ro j)))), (5, .int (iI ((enA S row i) - (enA S ro j)))), (0, .ref (G.2.1 3)), (1, .int (iI (row))), (2, .int (iI (i))), (3, .int (iI (ro))), (4, .int (iI (j)))]) hC.1 hC.2.1 d_ps_isOvertaking_64 hl (by decide) rfl (fun ls hl => ?_)
          refine lv_iload hC.1 hC.2.1 d_ps_isOvertaking_66 (lv_at hl 1 rfl) ?_
          refine ir_if_ne (tgt := 80) hC.1 hC.2.1 d_ps_isOvertaking_68 (by decide) (by decide) (fun c_21 => ?_) (fun c_21 => ?_)
          · exact absurd c_21 (by decide)
          · skip
            refine lv_iload hC.1 hC.2.1 d_ps_isOvertaking_71 (lv_at hl 0 rfl) ?_
            refine ir_if_ne (tgt := 80) hC.1 hC.2.1 d_ps_isOvertaking_73 (by decide) (by decide) (fun c_22 => ?_) (fun c_22 => ?_)
            · skip
              refine lv_iconst (v := iI 0) hC.1 hC.2.1 d_ps_isOvertaking_80 rfl ?_
              exact rt_RZ hC hr hlk (by decide) (by first | rfl | (simp [ovt, bI, c_5, c_14, c_15, c_18]; done) | (simp [ovt, bI, c_5, c_14, c_15, c_18]; omega) | (simp [ovt, bI, c_5, c_14, c_15, c_18] <;> split <;> omega) | omega) d_ps_isOvertaking_81
            · exact absurd c_22 (by decide)
    · skip
      refine lv_iconst (v := iI 1) hC.1 hC.2.1 d_ps_isOvertaking_42 rfl ?_
      refine lv_goto (tgt := 47) hC.1 hC.2.1 d_ps_isOvertaking_43 (by decide) ?_
      refine lv_istore (lv' := [(7, .int (iI (1))), (6, .int (iI ((lvA S row i) - (lvA S ro j)))), (5, .int (iI ((enA S row i) - (enA S ro j)))), (0, .ref (G.2.1 3)), (1, .int (iI (row))), (2, .int (iI (i))), (3, .int (iI (ro))), (4, .int (iI (j)))]) hC.1 hC.2.1 d_ps_isOvertaking_47 hl (by decide) rfl (fun ls hl => ?_)
      refine lv_iload hC.1 hC.2.1 d_ps_isOvertaking_49 (lv_at hl 2 rfl) ?_
      refine ir_if_le (tgt := 63) hC.1 hC.2.1 d_ps_isOvertaking_51 (by decide) ⟨by omega, by omega⟩ (fun c_23 => ?_) (fun c_23 => ?_)
      · skip
        refine lv_iconst (v := iI 0) hC.1 hC.2.1 d_ps_isOvertaking_63 rfl ?_
        refine lv_istore (lv' := [(8, .int (iI (0))), (7, .int (iI (1))), (6, .int (iI ((lvA S row i) - (lvA S ro j)))), (5, .int (iI ((enA S row i) - (enA S ro j)))), (0, .ref (G.2.1 3)), (1, .int (iI (row))), (2, .int (iI (i))), (3, .int (iI (ro))), (4, .int (iI (j)))]) hC.1 hC.2.1 d_ps_isOvertaking_64 hl (by decide) rfl (fun ls hl => ?_)
        refine lv_iload hC.1 hC.2.1 d_ps_isOvertaking_66 (lv_at hl 1 rfl) ?_
        refine ir_if_ne (tgt := 80) hC.1 hC.2.1 d_ps_isOvertaking_68 (by decide) (by decide) (fun c_24 => ?_) (fun c_24 => ?_)
        · skip
          refine lv_iconst (v := iI 0) hC.1 hC.2.1 d_ps_isOvertaking_80 rfl ?_
          exact rt_RZ hC hr hlk (by decide) (by first | rfl | (simp [ovt, bI, c_5, c_14, c_23]; done) | (simp [ovt, bI, c_5, c_14, c_23]; omega) | (simp [ovt, bI, c_5, c_14, c_23] <;> split <;> omega) | omega) d_ps_isOvertaking_81
        · exact absurd c_24 (by decide)
      · skip
        refine lv_iload hC.1 hC.2.1 d_ps_isOvertaking_54 (lv_at hl 1 rfl) ?_
        refine ir_if_le (tgt := 63) hC.1 hC.2.1 d_ps_isOvertaking_56 (by decide) ⟨by omega, by omega⟩ (fun c_25 => ?_) (fun c_25 => ?_)
        · skip
          refine lv_iconst (v := iI 0) hC.1 hC.2.1 d_ps_isOvertaking_63 rfl ?_
          refine lv_istore (lv' := [(8, .int (iI (0))), (7, .int (iI (1))), (6, .int (iI ((lvA S row i) - (lvA S ro j)))), (5, .int (iI ((enA S row i) - (enA S ro j)))), (0, .ref (G.2.1 3)), (1, .int (iI (row))), (2, .int (iI (i))), (3, .int (iI (ro))), (4, .int (iI (j)))]) hC.1 hC.2.1 d_ps_isOvertaking_64 hl (by decide) rfl (fun ls hl => ?_)
          refine lv_iload hC.1 hC.2.1 d_ps_isOvertaking_66 (lv_at hl 1 rfl) ?_
          refine ir_if_ne (tgt := 80) hC.1 hC.2.1 d_ps_isOvertaking_68 (by decide) (by decide) (fun c_26 => ?_) (fun c_26 => ?_)
          · skip
            refine lv_iconst (v := iI 0) hC.1 hC.2.1 d_ps_isOvertaking_80 rfl ?_
            exact rt_RZ hC hr hlk (by decide) (by first | rfl | (simp [ovt, bI, c_5, c_14, c_23, c_25]; done) | (simp [ovt, bI, c_5, c_14, c_23, c_25]; omega) | (simp [ovt, bI, c_5, c_14, c_23, c_25] <;> split <;> omega) | omega) d_ps_isOvertaking_81
          · exact absurd c_26 (by decide)
        · skip
          refine lv_iconst (v := iI 1) hC.1 hC.2.1 d_ps_isOvertaking_59 rfl ?_
          refine lv_goto (tgt := 64) hC.1 hC.2.1 d_ps_isOvertaking_60 (by decide) ?_
          refine lv_istore (lv' := [(8, .int (iI (1))), (7, .int (iI (1))), (6, .int (iI ((lvA S row i) - (lvA S ro j)))), (5, .int (iI ((enA S row i) - (enA S ro j)))), (0, .ref (G.2.1 3)), (1, .int (iI (row))), (2, .int (iI (i))), (3, .int (iI (ro))), (4, .int (iI (j)))]) hC.1 hC.2.1 d_ps_isOvertaking_64 hl (by decide) rfl (fun ls hl => ?_)
          refine lv_iload hC.1 hC.2.1 d_ps_isOvertaking_66 (lv_at hl 1 rfl) ?_
          refine ir_if_ne (tgt := 80) hC.1 hC.2.1 d_ps_isOvertaking_68 (by decide) (by decide) (fun c_27 => ?_) (fun c_27 => ?_)
          · skip
            refine lv_iconst (v := iI 0) hC.1 hC.2.1 d_ps_isOvertaking_80 rfl ?_
            exact rt_RZ hC hr hlk (by decide) (by first | rfl | (simp [ovt, bI, c_5, c_14, c_23, c_25]; done) | (simp [ovt, bI, c_5, c_14, c_23, c_25]; omega) | (simp [ovt, bI, c_5, c_14, c_23, c_25] <;> split <;> omega) | omega) d_ps_isOvertaking_81
          · exact absurd c_27 (by decide)
set_option maxHeartbeats 4000000 in
set_option maxRecDepth 100000 in
theorem c_pc_has (l : Launch) (G : Gt) (S : St) (q : Int) (hI : Inv S) (hq : i32 q) : Met l y_pc_has [.code y_pc_has b_pc_has 2 (some .boolean)] { frames := 1, cells := 0, slots := 0, locals := 22 } (va_Pc [.ref (G.2.1 1), .int (iI (q))] (fun U => wu G S U)) (qR (bI (wn q 0 (S 1 0 - 1)))) 0 0 (fun _ => False) := by
  refine mt_of (by decide +kernel) (Nat.le_of_ble_eq_true rfl) ?_
  intro p e s m below meth c ls hadm hC hr hlk hex hw hl
  have hC : CallFix p m c b_pc_has 2 s _ tws "ChannelRules$Pieces" := hC
  have hl : lv_has ls 2 [(0, .ref (G.2.1 1)), (1, .int (iI (q)))] := hl
  refine lv_iload_n hC.1 hC.2.1 d_pc_has_0 rfl (lv_at hl 1 rfl) ?_
  refine lv_iconst (v := iI 0) hC.1 hC.2.1 d_pc_has_1 rfl ?_
  refine lv_aload_n hC.1 hC.2.1 d_pc_has_2 rfl (lv_at hl 0 rfl) ?_
  refine gf_pc_9 hC hw d_pc_has_3 ?_
  have b_1 := iv_1 hI 0
  refine lv_iconst (v := iI 1) hC.1 hC.2.1 d_pc_has_6 rfl ?_
  refine ir_sub hC.1 hC.2.1 d_pc_has_7 ?_
  refine go_R (ca_N (As := [.int (iI (q)), .int (iI (0)), .int (iI ((S 1 0) - 1))]) (rest := []) hC hw (c_cr_isWithin l G S q 0 ((S 1 0) - 1) (by omega) (by omega) (by omega)) (cv_pc_40 hC rfl rfl (Nat.le_of_ble_eq_true rfl) (Nat.le_of_ble_eq_true rfl)) rfl hl.1 rfl (Nat.le_of_ble_eq_true rfl) d_pc_has_8 ⟨Nat.le_of_ble_eq_true rfl, Nat.le_of_ble_eq_true rfl⟩) ?_
  exact rt_RZ hC hr hlk (bI_01 _) (by first | rfl | (simp [wn, bI]; done) | (simp [wn, bI]; omega) | (simp [wn, bI] <;> split <;> omega) | omega) d_pc_has_11
set_option maxHeartbeats 4000000 in
set_option maxRecDepth 100000 in
theorem c_pc_otherEnd (l : Launch) (G : Gt) (S : St) (q : Int) (t : Int) (hI : Inv S) (hq : 0 ≤ q ∧ q < 12) (ht : 0 ≤ t ∧ t ≤ 7) : Met l y_pc_otherEnd [.code y_pc_otherEnd b_pc_otherEnd 3 (some .int)] { frames := 0, cells := 0, slots := 0, locals := 0 } (va_Pc [.ref (G.2.1 1), .int (iI (q)), .int (iI (t))] (fun U => wu G S U)) (qR (oEnd S q t)) 0 0 (fun _ => False) := by
  refine mt_of (by decide +kernel) (Nat.le_of_ble_eq_true rfl) ?_
  intro p e s m below meth c ls hadm hC hr hlk hex hw hl
  have hC : CallFix p m c b_pc_otherEnd 3 s _ tws "ChannelRules$Pieces" := hC
  have hl : lv_has ls 3 [(0, .ref (G.2.1 1)), (1, .int (iI (q))), (2, .int (iI (t)))] := hl
  refine lv_aload_n hC.1 hC.2.1 d_pc_otherEnd_0 rfl (lv_at hl 0 rfl) ?_
  refine gf_pc_15 hC hw d_pc_otherEnd_1 ?_
  refine lv_iload_n hC.1 hC.2.1 d_pc_otherEnd_4 rfl (lv_at hl 1 rfl) ?_
  refine ld_6 hC hw (by omega) (by omega) d_pc_otherEnd_5 ?_
  have b_1 := iv_6 hI q.toNat
  refine lv_iload_n hC.1 hC.2.1 d_pc_otherEnd_6 rfl (lv_at hl 2 rfl) ?_
  refine ir_ne (tgt := 17) hC.1 hC.2.1 d_pc_otherEnd_7 (by decide) ⟨by omega, by omega⟩ ⟨by omega, by omega⟩ (fun c_2 => ?_) (fun c_2 => ?_)
  · skip
    refine lv_aload_n hC.1 hC.2.1 d_pc_otherEnd_17 rfl (lv_at hl 0 rfl) ?_
    refine gf_pc_19 hC hw d_pc_otherEnd_18 ?_
    refine lv_iload_n hC.1 hC.2.1 d_pc_otherEnd_21 rfl (lv_at hl 1 rfl) ?_
    refine ld_7 hC hw (by omega) (by omega) d_pc_otherEnd_22 ?_
    have b_3 := iv_7 hI q.toNat
    refine lv_iload_n hC.1 hC.2.1 d_pc_otherEnd_23 rfl (lv_at hl 2 rfl) ?_
    refine ir_ne (tgt := 36) hC.1 hC.2.1 d_pc_otherEnd_24 (by decide) ⟨by omega, by omega⟩ ⟨by omega, by omega⟩ (fun c_4 => ?_) (fun c_4 => ?_)
    · skip
      refine lv_iconst (v := iI (-1)) hC.1 hC.2.1 d_pc_otherEnd_36 rfl ?_
      exact rt_R hC hr hlk (by first | rfl | (simp [oEnd, c_2, c_4]; done) | (simp [oEnd, c_2, c_4]; omega) | (simp [oEnd, c_2, c_4] <;> split <;> omega) | omega) d_pc_otherEnd_37
    · skip
      refine lv_aload_n hC.1 hC.2.1 d_pc_otherEnd_27 rfl (lv_at hl 0 rfl) ?_
      refine gf_pc_15 hC hw d_pc_otherEnd_28 ?_
      refine lv_iload_n hC.1 hC.2.1 d_pc_otherEnd_31 rfl (lv_at hl 1 rfl) ?_
      refine ld_6 hC hw (by omega) (by omega) d_pc_otherEnd_32 ?_
      have b_5 := iv_6 hI q.toNat
      refine lv_goto (tgt := 37) hC.1 hC.2.1 d_pc_otherEnd_33 (by decide) ?_
      exact rt_R hC hr hlk (by first | rfl | (simp [oEnd, c_2, c_4]; done) | (simp [oEnd, c_2, c_4]; omega) | (simp [oEnd, c_2, c_4] <;> split <;> omega) | omega) d_pc_otherEnd_37
  · skip
    refine lv_aload_n hC.1 hC.2.1 d_pc_otherEnd_10 rfl (lv_at hl 0 rfl) ?_
    refine gf_pc_19 hC hw d_pc_otherEnd_11 ?_
    refine lv_iload_n hC.1 hC.2.1 d_pc_otherEnd_14 rfl (lv_at hl 1 rfl) ?_
    refine ld_7 hC hw (by omega) (by omega) d_pc_otherEnd_15 ?_
    have b_6 := iv_7 hI q.toNat
    exact rt_R hC hr hlk (by first | rfl | (simp [oEnd, c_2]; done) | (simp [oEnd, c_2]; omega) | (simp [oEnd, c_2] <;> split <;> omega) | omega) d_pc_otherEnd_16
set_option maxHeartbeats 4000000 in
set_option maxRecDepth 100000 in
theorem c_pc_ruleOf (l : Launch) (G : Gt) (S : St) (q : Int) (k : Int) (hI : Inv S) (hq : 0 ≤ q ∧ q < 12) (hk : 0 ≤ k ∧ k < 5) : Met l y_pc_ruleOf [.code y_pc_ruleOf b_pc_ruleOf 3 (some .int)] { frames := 0, cells := 0, slots := 0, locals := 0 } (va_Pc [.ref (G.2.1 1), .int (iI (q)), .int (iI (k))] (fun U => wu G S U)) (qR (rOf S q k)) 0 0 (fun _ => False) := by
  refine mt_of (by decide +kernel) (Nat.le_of_ble_eq_true rfl) ?_
  intro p e s m below meth c ls hadm hC hr hlk hex hw hl
  have hC : CallFix p m c b_pc_ruleOf 3 s _ tws "ChannelRules$Pieces" := hC
  have hl : lv_has ls 3 [(0, .ref (G.2.1 1)), (1, .int (iI (q))), (2, .int (iI (k)))] := hl
  refine lv_aload_n hC.1 hC.2.1 d_pc_ruleOf_0 rfl (lv_at hl 0 rfl) ?_
  refine gf_pc_28 hC hw d_pc_ruleOf_1 ?_
  refine lv_iload_n hC.1 hC.2.1 d_pc_ruleOf_4 rfl (lv_at hl 1 rfl) ?_
  refine lv_iconst (v := iI 5) hC.1 hC.2.1 d_pc_ruleOf_5 rfl ?_
  refine ir_mul hC.1 hC.2.1 d_pc_ruleOf_6 ?_
  refine lv_iload_n hC.1 hC.2.1 d_pc_ruleOf_7 rfl (lv_at hl 2 rfl) ?_
  refine ir_add hC.1 hC.2.1 d_pc_ruleOf_8 ?_
  refine ld_10 hC hw (by omega) (by omega) d_pc_ruleOf_9 ?_
  have b_1 := iv_10 hI (((q * 5) + k).toNat)
  exact rt_R hC hr hlk (by first | rfl | (simp [rOf]; done) | (simp [rOf]; omega) | (simp [rOf] <;> split <;> omega) | omega) d_pc_ruleOf_10
set_option maxHeartbeats 4000000 in
set_option maxRecDepth 100000 in
theorem c_sh_has (l : Launch) (G : Gt) (S : St) (q : Int) (hI : Inv S) (hq : i32 q) : Met l y_sh_has [.code y_sh_has b_sh_has 2 (some .boolean)] { frames := 1, cells := 0, slots := 0, locals := 22 } (va_Pc [.ref (G.2.1 2), .int (iI (q))] (fun U => wu G S U)) (qR (bI (wn q 0 (S 2 0 - 1)))) 0 0 (fun _ => False) := by
  refine mt_of (by decide +kernel) (Nat.le_of_ble_eq_true rfl) ?_
  intro p e s m below meth c ls hadm hC hr hlk hex hw hl
  have hC : CallFix p m c b_sh_has 2 s _ tws "ChannelRules$Ships" := hC
  have hl : lv_has ls 2 [(0, .ref (G.2.1 2)), (1, .int (iI (q)))] := hl
  refine lv_iload_n hC.1 hC.2.1 d_sh_has_0 rfl (lv_at hl 1 rfl) ?_
  refine lv_iconst (v := iI 0) hC.1 hC.2.1 d_sh_has_1 rfl ?_
  refine lv_aload_n hC.1 hC.2.1 d_sh_has_2 rfl (lv_at hl 0 rfl) ?_
  refine gf_sh_9 hC hw d_sh_has_3 ?_
  have b_1 := iv_2 hI 0
  refine lv_iconst (v := iI 1) hC.1 hC.2.1 d_sh_has_6 rfl ?_
  refine ir_sub hC.1 hC.2.1 d_sh_has_7 ?_
  refine go_R (ca_N (As := [.int (iI (q)), .int (iI (0)), .int (iI ((S 2 0) - 1))]) (rest := []) hC hw (c_cr_isWithin l G S q 0 ((S 2 0) - 1) (by omega) (by omega) (by omega)) (cv_sh_25 hC rfl rfl (Nat.le_of_ble_eq_true rfl) (Nat.le_of_ble_eq_true rfl)) rfl hl.1 rfl (Nat.le_of_ble_eq_true rfl) d_sh_has_8 ⟨Nat.le_of_ble_eq_true rfl, Nat.le_of_ble_eq_true rfl⟩) ?_
  exact rt_RZ hC hr hlk (bI_01 _) (by first | rfl | (simp [wn, bI]; done) | (simp [wn, bI]; omega) | (simp [wn, bI] <;> split <;> omega) | omega) d_sh_has_11
set_option maxHeartbeats 4000000 in
set_option maxRecDepth 100000 in
theorem c_ps_givenSlots (l : Launch) (G : Gt) (S : St) (hI : Inv S) : Met l y_ps_givenSlots [.code y_ps_givenSlots b_ps_givenSlots 3 (some .int)] { frames := 0, cells := 0, slots := 0, locals := 0 } (va_Pc [.ref (G.2.1 3)] (fun U => wu G S U)) (qR (gSum S (S 3 0).toNat)) 0 0 (fun _ => False) := by
  refine mt_of (by decide +kernel) (Nat.le_of_ble_eq_true rfl) ?_
  intro p e s m below meth c ls hadm hC hr hlk hex hw hl
  have hC : CallFix p m c b_ps_givenSlots 3 s _ tws "ChannelRules$Passages" := hC
  have hl : lv_has ls 3 [(0, .ref (G.2.1 3))] := hl
  have i3 := iv_3 hI 0
  refine lv_iconst (v := iI 0) hC.1 hC.2.1 d_ps_givenSlots_0 rfl ?_
  refine lv_istore_n (lv' := [(1, .int (iI (0))), (0, .ref (G.2.1 3))]) hC.1 hC.2.1 d_ps_givenSlots_1 rfl hl (by decide) rfl (fun ls hl => ?_)
  refine lv_iconst (v := iI 1) hC.1 hC.2.1 d_ps_givenSlots_2 rfl ?_
  refine lv_istore_n (lv' := [(2, .int (iI (1))), (1, .int (iI (0))), (0, .ref (G.2.1 3))]) hC.1 hC.2.1 d_ps_givenSlots_3 rfl hl (by decide) rfl (fun ls hl => ?_)
  have loop_4 : ∀ (n : Nat) (k : Nat) (x1 : Int) (x2 : Int), (S 3 0).toNat - k < n → x1 = gSum S k → x2 = (k : Int) + 1 → (k : Int) ≤ S 3 0 → ∀ (ls : Array Slot), lv_has ls 3 [(2, .int (iI (x2))), (1, .int (iI (x1))), (0, .ref (G.2.1 3))] → W p l e { frames := 0, cells := 0, slots := 0, locals := 0 } s m ([.ref (G.2.1 3)] : List Value).toArray below meth c s.heap [] 0 0 (MQ below (qR (gSum S (S 3 0).toNat)) ([.ref (G.2.1 3)] : List Value).toArray s 0 0 (fun _ => False)) (F0 m 4 ls []) := by
    intro n
    induction n with
    | zero => intros; omega
    | succ n ih_4 =>
      intro k x1 x2 hms_4 hx1 hx2 hv0 ls hl
      have ek : x2.toNat = k + 1 := by omega
      refine lv_iload_n hC.1 hC.2.1 d_ps_givenSlots_4 rfl (lv_at hl 0 rfl) ?_
      refine lv_aload_n hC.1 hC.2.1 d_ps_givenSlots_5 rfl (lv_at hl 2 rfl) ?_
      refine gf_ps_9 hC hw d_ps_givenSlots_6 ?_
      have b_1 := iv_3 hI 0
      refine ir_gt (tgt := 30) hC.1 hC.2.1 d_ps_givenSlots_9 (by decide) ⟨by omega, by omega⟩ ⟨by omega, by omega⟩ (fun c_2 => ?_) (fun c_2 => ?_)
      · skip
        refine lv_iload_n hC.1 hC.2.1 d_ps_givenSlots_30 rfl (lv_at hl 1 rfl) ?_
        exact rt_R hC hr hlk (by rw [hx1, show (S 3 0).toNat = k by omega]) d_ps_givenSlots_31
      · skip
        refine lv_aload_n hC.1 hC.2.1 d_ps_givenSlots_12 rfl (lv_at hl 2 rfl) ?_
        refine gf_ps_15 hC hw d_ps_givenSlots_13 ?_
        refine lv_iload_n hC.1 hC.2.1 d_ps_givenSlots_16 rfl (lv_at hl 0 rfl) ?_
        refine ld_17 hC hw (by omega) (by omega) d_ps_givenSlots_17 ?_
        have b_3 := iv_17 hI x2.toNat
        refine ir_if_eq (tgt := 24) hC.1 hC.2.1 d_ps_givenSlots_18 (by decide) ⟨by omega, by omega⟩ (fun c_4 => ?_) (fun c_4 => ?_)
        · skip
          refine lv_iinc (v := iI (x2 + 1)) (lv' := [(2, .int (iI (x2 + 1))), (1, .int (iI (x1))), (0, .ref (G.2.1 3))]) hC.1 hC.2.1 d_ps_givenSlots_24 hl (k := 0) rfl (iI_add _ _) (by decide) rfl (fun ls hl => ?_)
          refine lv_goto (tgt := 4) hC.1 hC.2.1 d_ps_givenSlots_27 (by decide) ?_
          exact ih_4 (k + 1) _ _ (by omega) (by have g := gSum_s S k; rw [← ek] at g ⊢; omega) (by first | rfl | omega) (by omega) _ (lv_sub hl [0, 1, 2] rfl)
        · skip
          refine lv_iinc (v := iI (x1 + 1)) (lv' := [(1, .int (iI (x1 + 1))), (2, .int (iI (x2))), (0, .ref (G.2.1 3))]) hC.1 hC.2.1 d_ps_givenSlots_21 hl (k := 1) rfl (iI_add _ _) (by decide) rfl (fun ls hl => ?_)
          refine lv_iinc (v := iI (x2 + 1)) (lv' := [(2, .int (iI (x2 + 1))), (1, .int (iI (x1 + 1))), (0, .ref (G.2.1 3))]) hC.1 hC.2.1 d_ps_givenSlots_24 hl (k := 1) rfl (iI_add _ _) (by decide) rfl (fun ls hl => ?_)
          refine lv_goto (tgt := 4) hC.1 hC.2.1 d_ps_givenSlots_27 (by decide) ?_
          exact ih_4 (k + 1) _ _ (by omega) (by have g := gSum_s S k; rw [← ek] at g ⊢; omega) (by first | rfl | omega) (by omega) _ (lv_sub hl [0, 1, 2] rfl)
  exact loop_4 _ 0 _ _ (Nat.lt_succ_self _) (by first | rfl | omega) (by first | rfl | omega) (by omega) _ (lv_sub hl [0, 1, 2] rfl)
end
section
/-! the class, as functions of the state: weighing a stay -/
def voy (S : St) (sh a b : Int) : Bool := wn sh 0 (S 2 0 - 1) && (wn a 0 7 && wn b 0 7)
def stB (S : St) (k : Int) : Bool := !decide (S 17 k.toNat = 0) && decide (S 0 6 < S 19 k.toNat)
def gMk (S : St) (k : Int) : Int := if wn k 1 (S 3 0) = true then (if S 17 k.toNat = 0 then 0 else 1) else -1
def fts (S : St) (sh q : Int) : Bool := decide (S 14 sh.toNat ≤ S 9 q.toNat)
def tTm (S : St) (sh q : Int) : Int := if S 15 sh.toNat < 1 then 1000000 else (S 8 q.toNat + S 15 sh.toNat - 1) / S 15 sh.toNat
theorem tTm_b {S : St} (h : Inv S) (sh q : Int) : 0 ≤ tTm S sh q ∧ tTm S sh q ≤ 1000000 := by
  have h1 := iv_15 h sh.toNat
  have h2 := iv_8 h q.toNat
  unfold tTm
  split
  · omega
  · refine ⟨Int.ediv_nonneg (by omega) (by omega), ?_⟩
    have := Int.ediv_le_self (S 15 sh.toNat) (a := S 8 q.toNat + S 15 sh.toNat - 1) (by omega)
    omega
def agW (S : St) (row i : Int) : Bool := decide (rOf S (pOf S row i) 0 = if fOf S row i = 0 then 1 else 2)
def bNt (S : St) (row i : Int) : Bool := !decide (rOf S (pOf S row i) 1 = 0) && (decide (rOf S (pOf S row i) 1 ≤ S 16 (S 18 row.toNat).toNat) && (decide (enA S row i % 1440 < 300) || decide (1200 ≤ enA S row i % 1440 + lvA S row i - enA S row i - 1)))
def bWd (S : St) (row i : Int) : Bool := !decide (S 0 5 = 0) && decide (rOf S (pOf S row i) 2 < S 14 (S 18 row.toNat).toNat)
def clF (S : St) (q a b : Int) : Nat → Int
  | 0 => 0
  | k + 1 => if shm a b (S 12 (q * 4 + (k : Int)).toNat) (S 13 (q * 4 + (k : Int)).toNat) = true then max (clF S q a b k) (S 13 (q * 4 + (k : Int)).toNat - a) else clF S q a b k
theorem clF_s (S : St) (q a b : Int) (k : Nat) : clF S q a b (k + 1) = if shm a b (S 12 (q * 4 + (k : Int)).toNat) (S 13 (q * 4 + (k : Int)).toNat) = true then max (clF S q a b k) (S 13 (q * 4 + (k : Int)).toNat - a) else clF S q a b k := rfl
theorem clF_b {S : St} (h : Inv S) (q a b : Int) (k : Nat) (ha : 0 ≤ a ∧ a ≤ 1000000 := by omega) : 0 ≤ clF S q a b k ∧ clF S q a b k ≤ 100000 := by
  induction k with
  | zero => simp [clF]
  | succ k ih =>
    have h1 := iv_13 h (q * 4 + (k : Int)).toNat
    rw [clF_s]
    split
    · omega
    · exact ih
def bPc (S : St) (row i : Int) : Int := if agW S row i = true then 1 else if bNt S row i = true then 2 else if bWd S row i = true then 3 else if 0 < clF S (pOf S row i) (enA S row i) (lvA S row i) (S 11 (pOf S row i).toNat).toNat then 4 else 0
theorem bPc_b (S : St) (row i : Int) : 0 ≤ bPc S row i ∧ bPc S row i ≤ 4 := by
  unfold bPc
  repeat (first | omega | split)
def tWd (S : St) (a b q : Int) : Bool := decide (S 9 q.toNat < S 14 a.toNat + S 14 b.toNat)
def cfw (S : St) (k row i : Int) : Int :=
  if stO S k (pOf S row i) = -1 then 0
  else if shm (enA S row i) (lvA S row i) (enA S k (stO S k (pOf S row i))) (lvA S k (stO S k (pOf S row i))) = false then 0
  else if S 16 (S 18 row.toNat).toNat = 2 ∨ S 16 (S 18 k.toNat).toNat = 2 then 5
  else if ¬ fOf S row i = fOf S k (stO S k (pOf S row i)) then (if rOf S (pOf S row i) 3 = 1 ∨ S 9 (pOf S row i).toNat < S 14 (S 18 row.toNat).toNat + S 14 (S 18 k.toNat).toNat then 6 else 0)
  else if ovt S row i k (stO S k (pOf S row i)) = true ∧ (¬ rOf S (pOf S row i) 4 = 1 ∨ S 9 (pOf S row i).toNat < S 14 (S 18 row.toNat).toNat + S 14 (S 18 k.toNat).toNat) then 7 else 0
theorem cfw_b (S : St) (k row i : Int) : 0 ≤ cfw S k row i ∧ cfw S k row i ≤ 7 := by
  unfold cfw
  repeat (first | omega | split)
set_option maxHeartbeats 4000000 in
set_option maxRecDepth 100000 in
theorem c_cr_isVoyage (l : Launch) (G : Gt) (S : St) (sh : Int) (a : Int) (b : Int) (hI : Inv S) (hsh : i32 sh) (ha : i32 a) (hb : i32 b) : Met l y_cr_isVoyage [.code y_cr_isVoyage b_cr_isVoyage 4 (some .boolean)] { frames := 2, cells := 0, slots := 0, locals := 43 } (va_Pc [.ref (G.2.1 0), .int (iI (sh)), .int (iI (a)), .int (iI (b))] (fun U => wu G S U)) (qR (bI (voy S sh a b))) 0 0 (fun _ => False) := by
  refine mt_of (by decide +kernel) (Nat.le_of_ble_eq_true rfl) ?_
  intro p e s m below meth c ls hadm hC hr hlk hex hw hl
  have hC : CallFix p m c b_cr_isVoyage 4 s _ tws "ChannelRules" := hC
  have hl : lv_has ls 4 [(0, .ref (G.2.1 0)), (1, .int (iI (sh))), (2, .int (iI (a))), (3, .int (iI (b)))] := hl
  refine lv_aload_n hC.1 hC.2.1 d_cr_isVoyage_0 rfl (lv_at hl 0 rfl) ?_
  refine gf_cr_19 hC hw d_cr_isVoyage_1 ?_
  refine lv_iload_n hC.1 hC.2.1 d_cr_isVoyage_4 rfl (lv_at hl 1 rfl) ?_
  refine go_R (ca_V (As := [.int (iI (sh))]) (rest := []) hC hw (c_sh_has l G S sh hI (by omega)) (cv_cr_185 hC rfl rfl (Nat.le_of_ble_eq_true rfl) (Nat.le_of_ble_eq_true rfl)) (by decide) rfl rfl rfl hl.1 rfl (Nat.le_of_ble_eq_true rfl) d_cr_isVoyage_5 ⟨Nat.le_of_ble_eq_true rfl, Nat.le_of_ble_eq_true rfl⟩) ?_
  refine ir_beq (tgt := 29) hC d_cr_isVoyage_8 (by decide) (fun c_1 => ?_) (fun c_1 => ?_)
  · skip
    refine lv_iconst (v := iI 0) hC.1 hC.2.1 d_cr_isVoyage_29 rfl ?_
    exact rt_RZ hC hr hlk (by decide) (by first | rfl | (simp [voy, bI, c_1]; done) | (simp [voy, bI, c_1]; omega) | (simp [voy, bI, c_1] <;> split <;> omega) | omega) d_cr_isVoyage_30
  · skip
    refine lv_iload_n hC.1 hC.2.1 d_cr_isVoyage_11 rfl (lv_at hl 2 rfl) ?_
    refine go_R (ca_S (As := [.int (iI (a))]) (rest := []) hC hw (c_cr_isPoint l G S a (by omega)) (cv_cr_45 hC rfl rfl (Nat.le_of_ble_eq_true rfl) (Nat.le_of_ble_eq_true rfl)) rfl hl.1 rfl (Nat.le_of_ble_eq_true rfl) d_cr_isVoyage_12 ⟨Nat.le_of_ble_eq_true rfl, Nat.le_of_ble_eq_true rfl⟩) ?_
    refine ir_beq (tgt := 29) hC d_cr_isVoyage_15 (by decide) (fun c_2 => ?_) (fun c_2 => ?_)
    · skip
      refine lv_iconst (v := iI 0) hC.1 hC.2.1 d_cr_isVoyage_29 rfl ?_
      exact rt_RZ hC hr hlk (by decide) (by first | rfl | (simp [voy, bI, c_1, c_2]; done) | (simp [voy, bI, c_1, c_2]; omega) | (simp [voy, bI, c_1, c_2] <;> split <;> omega) | omega) d_cr_isVoyage_30
    · skip
      refine lv_iload_n hC.1 hC.2.1 d_cr_isVoyage_18 rfl (lv_at hl 3 rfl) ?_
      refine go_R (ca_S (As := [.int (iI (b))]) (rest := []) hC hw (c_cr_isPoint l G S b (by omega)) (cv_cr_45 hC rfl rfl (Nat.le_of_ble_eq_true rfl) (Nat.le_of_ble_eq_true rfl)) rfl hl.1 rfl (Nat.le_of_ble_eq_true rfl) d_cr_isVoyage_19 ⟨Nat.le_of_ble_eq_true rfl, Nat.le_of_ble_eq_true rfl⟩) ?_
      refine ir_beq (tgt := 29) hC d_cr_isVoyage_22 (by decide) (fun c_3 => ?_) (fun c_3 => ?_)
      · skip
        refine lv_iconst (v := iI 0) hC.1 hC.2.1 d_cr_isVoyage_29 rfl ?_
        exact rt_RZ hC hr hlk (by decide) (by first | rfl | (simp [voy, bI, c_1, c_2, c_3]; done) | (simp [voy, bI, c_1, c_2, c_3]; omega) | (simp [voy, bI, c_1, c_2, c_3] <;> split <;> omega) | omega) d_cr_isVoyage_30
      · skip
        refine lv_iconst (v := iI 1) hC.1 hC.2.1 d_cr_isVoyage_25 rfl ?_
        refine lv_goto (tgt := 30) hC.1 hC.2.1 d_cr_isVoyage_26 (by decide) ?_
        exact rt_RZ hC hr hlk (by decide) (by first | rfl | (simp [voy, bI, c_1, c_2, c_3]; done) | (simp [voy, bI, c_1, c_2, c_3]; omega) | (simp [voy, bI, c_1, c_2, c_3] <;> split <;> omega) | omega) d_cr_isVoyage_30
set_option maxHeartbeats 4000000 in
set_option maxRecDepth 100000 in
theorem c_cr_isStillToBegin (l : Launch) (G : Gt) (S : St) (k : Int) (hI : Inv S) (hk : 0 ≤ k ∧ k ≤ 30) : Met l y_cr_isStillToBegin [.code y_cr_isStillToBegin b_cr_isStillToBegin 2 (some .boolean)] { frames := 0, cells := 0, slots := 0, locals := 0 } (va_Pc [.ref (G.2.1 0), .int (iI (k))] (fun U => wu G S U)) (qR (bI (stB S k))) 0 0 (fun _ => False) := by
  refine mt_of (by decide +kernel) (Nat.le_of_ble_eq_true rfl) ?_
  intro p e s m below meth c ls hadm hC hr hlk hex hw hl
  have hC : CallFix p m c b_cr_isStillToBegin 2 s _ tws "ChannelRules" := hC
  have hl : lv_has ls 2 [(0, .ref (G.2.1 0)), (1, .int (iI (k)))] := hl
  refine lv_aload_n hC.1 hC.2.1 d_cr_isStillToBegin_0 rfl (lv_at hl 0 rfl) ?_
  refine gf_cr_26 hC hw d_cr_isStillToBegin_1 ?_
  refine gf_cr_142 hC hw d_cr_isStillToBegin_4 ?_
  refine lv_iload_n hC.1 hC.2.1 d_cr_isStillToBegin_7 rfl (lv_at hl 1 rfl) ?_
  refine ld_17 hC hw (by omega) (by omega) d_cr_isStillToBegin_8 ?_
  have b_1 := iv_17 hI k.toNat
  refine ir_if_eq (tgt := 32) hC.1 hC.2.1 d_cr_isStillToBegin_9 (by decide) ⟨by omega, by omega⟩ (fun c_2 => ?_) (fun c_2 => ?_)
  · skip
    refine lv_iconst (v := iI 0) hC.1 hC.2.1 d_cr_isStillToBegin_32 rfl ?_
    exact rt_RZ hC hr hlk (by decide) (by first | rfl | (simp [stB, bI, c_2]; done) | (simp [stB, bI, c_2]; omega) | (simp [stB, bI, c_2] <;> split <;> omega) | omega) d_cr_isStillToBegin_33
  · skip
    refine lv_aload_n hC.1 hC.2.1 d_cr_isStillToBegin_12 rfl (lv_at hl 0 rfl) ?_
    refine gf_cr_26 hC hw d_cr_isStillToBegin_13 ?_
    refine gf_cr_115 hC hw d_cr_isStillToBegin_16 ?_
    refine lv_iload_n hC.1 hC.2.1 d_cr_isStillToBegin_19 rfl (lv_at hl 1 rfl) ?_
    refine ld_19 hC hw (by omega) (by omega) d_cr_isStillToBegin_20 ?_
    have b_3 := iv_19 hI k.toNat
    refine lv_aload_n hC.1 hC.2.1 d_cr_isStillToBegin_21 rfl (lv_at hl 0 rfl) ?_
    refine gf_cr_41 hC hw d_cr_isStillToBegin_22 ?_
    have b_4 := iv_0 hI 6
    refine ir_le (tgt := 32) hC.1 hC.2.1 d_cr_isStillToBegin_25 (by decide) ⟨by omega, by omega⟩ ⟨by omega, by omega⟩ (fun c_5 => ?_) (fun c_5 => ?_)
    · skip
      refine lv_iconst (v := iI 0) hC.1 hC.2.1 d_cr_isStillToBegin_32 rfl ?_
      exact rt_RZ hC hr hlk (by decide) (by first | rfl | (simp [stB, bI, c_2, c_5]; done) | (simp [stB, bI, c_2, c_5]; omega) | (simp [stB, bI, c_2, c_5] <;> split <;> omega) | omega) d_cr_isStillToBegin_33
    · skip
      refine lv_iconst (v := iI 1) hC.1 hC.2.1 d_cr_isStillToBegin_28 rfl ?_
      refine lv_goto (tgt := 33) hC.1 hC.2.1 d_cr_isStillToBegin_29 (by decide) ?_
      exact rt_RZ hC hr hlk (by decide) (by first | rfl | (simp [stB, bI, c_2, c_5]; done) | (simp [stB, bI, c_2, c_5]; omega) | (simp [stB, bI, c_2, c_5] <;> split <;> omega) | omega) d_cr_isStillToBegin_33
set_option maxHeartbeats 4000000 in
set_option maxRecDepth 100000 in
theorem c_cr_givenMark (l : Launch) (G : Gt) (S : St) (k : Int) (hI : Inv S) (hk : i32 k) : Met l y_cr_givenMark [.code y_cr_givenMark b_cr_givenMark 2 (some .int)] { frames := 2, cells := 0, slots := 0, locals := 43 } (va_Pc [.ref (G.2.1 0), .int (iI (k))] (fun U => wu G S U)) (qR (gMk S k)) 0 0 (fun _ => False) := by
  refine mt_of (by decide +kernel) (Nat.le_of_ble_eq_true rfl) ?_
  intro p e s m below meth c ls hadm hC hr hlk hex hw hl
  have hC : CallFix p m c b_cr_givenMark 2 s _ tws "ChannelRules" := hC
  have hl : lv_has ls 2 [(0, .ref (G.2.1 0)), (1, .int (iI (k)))] := hl
  refine lv_aload_n hC.1 hC.2.1 d_cr_givenMark_0 rfl (lv_at hl 0 rfl) ?_
  refine gf_cr_26 hC hw d_cr_givenMark_1 ?_
  refine lv_iload_n hC.1 hC.2.1 d_cr_givenMark_4 rfl (lv_at hl 1 rfl) ?_
  refine go_R (ca_V (As := [.int (iI (k))]) (rest := []) hC hw (c_ps_hasSlot l G S k hI (by omega)) (cv_cr_134 hC rfl rfl (Nat.le_of_ble_eq_true rfl) (Nat.le_of_ble_eq_true rfl)) (by decide) rfl rfl rfl hl.1 rfl (Nat.le_of_ble_eq_true rfl) d_cr_givenMark_5 ⟨Nat.le_of_ble_eq_true rfl, Nat.le_of_ble_eq_true rfl⟩) ?_
  have q_1 := iv_3 hI 0
  have q_2 : wn k 1 (S 3 0) = true → 1 ≤ k ∧ k ≤ S 3 0 := by simp [wn]
  refine ir_bne (tgt := 13) hC d_cr_givenMark_8 (by decide) (fun c_1 => ?_) (fun c_1 => ?_)
  · skip
    refine lv_aload_n hC.1 hC.2.1 d_cr_givenMark_13 rfl (lv_at hl 0 rfl) ?_
    have q_3 := q_2 (by assumption)
    refine gf_cr_26 hC hw d_cr_givenMark_14 ?_
    refine gf_cr_142 hC hw d_cr_givenMark_17 ?_
    refine lv_iload_n hC.1 hC.2.1 d_cr_givenMark_20 rfl (lv_at hl 1 rfl) ?_
    refine ld_17 hC hw (by omega) (by omega) d_cr_givenMark_21 ?_
    have b_2 := iv_17 hI k.toNat
    refine ir_if_eq (tgt := 29) hC.1 hC.2.1 d_cr_givenMark_22 (by decide) ⟨by omega, by omega⟩ (fun c_3 => ?_) (fun c_3 => ?_)
    · skip
      refine lv_iconst (v := iI 0) hC.1 hC.2.1 d_cr_givenMark_29 rfl ?_
      exact rt_R hC hr hlk (by first | rfl | (simp [gMk, c_1, c_3]; done) | (simp [gMk, c_1, c_3]; omega) | (simp [gMk, c_1, c_3] <;> split <;> omega) | omega) d_cr_givenMark_30
    · skip
      refine lv_iconst (v := iI 1) hC.1 hC.2.1 d_cr_givenMark_25 rfl ?_
      refine lv_goto (tgt := 30) hC.1 hC.2.1 d_cr_givenMark_26 (by decide) ?_
      exact rt_R hC hr hlk (by first | rfl | (simp [gMk, c_1, c_3]; done) | (simp [gMk, c_1, c_3]; omega) | (simp [gMk, c_1, c_3] <;> split <;> omega) | omega) d_cr_givenMark_30
  · skip
    refine lv_iconst (v := iI (-1)) hC.1 hC.2.1 d_cr_givenMark_11 rfl ?_
    exact rt_R hC hr hlk (by first | rfl | (simp [gMk, c_1]; done) | (simp [gMk, c_1]; omega) | (simp [gMk, c_1] <;> split <;> omega) | omega) d_cr_givenMark_12
set_option maxHeartbeats 4000000 in
set_option maxRecDepth 100000 in
theorem c_cr_fits (l : Launch) (G : Gt) (S : St) (sh : Int) (q : Int) (hI : Inv S) (hsh : 0 ≤ sh ∧ sh < 12) (hq : 0 ≤ q ∧ q < 12) : Met l y_cr_fits [.code y_cr_fits b_cr_fits 3 (some .boolean)] { frames := 0, cells := 0, slots := 0, locals := 0 } (va_Pc [.ref (G.2.1 0), .int (iI (sh)), .int (iI (q))] (fun U => wu G S U)) (qR (bI (fts S sh q))) 0 0 (fun _ => False) := by
  refine mt_of (by decide +kernel) (Nat.le_of_ble_eq_true rfl) ?_
  intro p e s m below meth c ls hadm hC hr hlk hex hw hl
  have hC : CallFix p m c b_cr_fits 3 s _ tws "ChannelRules" := hC
  have hl : lv_has ls 3 [(0, .ref (G.2.1 0)), (1, .int (iI (sh))), (2, .int (iI (q)))] := hl
  refine lv_aload_n hC.1 hC.2.1 d_cr_fits_0 rfl (lv_at hl 0 rfl) ?_
  refine gf_cr_12 hC hw d_cr_fits_1 ?_
  refine gf_cr_220 hC hw d_cr_fits_4 ?_
  refine lv_iload_n hC.1 hC.2.1 d_cr_fits_7 rfl (lv_at hl 2 rfl) ?_
  refine ld_9 hC hw (by omega) (by omega) d_cr_fits_8 ?_
  have b_1 := iv_9 hI q.toNat
  refine lv_aload_n hC.1 hC.2.1 d_cr_fits_9 rfl (lv_at hl 0 rfl) ?_
  refine gf_cr_19 hC hw d_cr_fits_10 ?_
  refine gf_cr_223 hC hw d_cr_fits_13 ?_
  refine lv_iload_n hC.1 hC.2.1 d_cr_fits_16 rfl (lv_at hl 1 rfl) ?_
  refine ld_14 hC hw (by omega) (by omega) d_cr_fits_17 ?_
  have b_2 := iv_14 hI sh.toNat
  refine ir_lt (tgt := 25) hC.1 hC.2.1 d_cr_fits_18 (by decide) ⟨by omega, by omega⟩ ⟨by omega, by omega⟩ (fun c_3 => ?_) (fun c_3 => ?_)
  · skip
    refine lv_iconst (v := iI 0) hC.1 hC.2.1 d_cr_fits_25 rfl ?_
    exact rt_RZ hC hr hlk (by decide) (by first | rfl | (simp [fts, bI, c_3]; done) | (simp [fts, bI, c_3]; omega) | (simp [fts, bI, c_3] <;> split <;> omega) | omega) d_cr_fits_26
  · skip
    refine lv_iconst (v := iI 1) hC.1 hC.2.1 d_cr_fits_21 rfl ?_
    refine lv_goto (tgt := 26) hC.1 hC.2.1 d_cr_fits_22 (by decide) ?_
    exact rt_RZ hC hr hlk (by decide) (by first | rfl | (simp [fts, bI, c_3]; done) | (simp [fts, bI, c_3]; omega) | (simp [fts, bI, c_3] <;> split <;> omega) | omega) d_cr_fits_26
set_option maxHeartbeats 4000000 in
set_option maxRecDepth 100000 in
theorem c_cr_travelTime (l : Launch) (G : Gt) (S : St) (sh : Int) (q : Int) (hI : Inv S) (hsh : 0 ≤ sh ∧ sh < 12) (hq : 0 ≤ q ∧ q < 12) : Met l y_cr_travelTime [.code y_cr_travelTime b_cr_travelTime 4 (some .int)] { frames := 0, cells := 0, slots := 0, locals := 0 } (va_Pc [.ref (G.2.1 0), .int (iI (sh)), .int (iI (q))] (fun U => wu G S U)) (qR (tTm S sh q)) 0 0 (fun _ => False) := by
  refine mt_of (by decide +kernel) (Nat.le_of_ble_eq_true rfl) ?_
  intro p e s m below meth c ls hadm hC hr hlk hex hw hl
  have hC : CallFix p m c b_cr_travelTime 4 s _ tws "ChannelRules" := hC
  have hl : lv_has ls 4 [(0, .ref (G.2.1 0)), (1, .int (iI (sh))), (2, .int (iI (q)))] := hl
  refine lv_aload_n hC.1 hC.2.1 d_cr_travelTime_0 rfl (lv_at hl 0 rfl) ?_
  refine gf_cr_19 hC hw d_cr_travelTime_1 ?_
  refine gf_cr_224 hC hw d_cr_travelTime_4 ?_
  refine lv_iload_n hC.1 hC.2.1 d_cr_travelTime_7 rfl (lv_at hl 1 rfl) ?_
  refine ld_15 hC hw (by omega) (by omega) d_cr_travelTime_8 ?_
  have b_1 := iv_15 hI sh.toNat
  refine lv_istore_n (lv' := [(3, .int (iI (S 15 sh.toNat))), (0, .ref (G.2.1 0)), (1, .int (iI (sh))), (2, .int (iI (q)))]) hC.1 hC.2.1 d_cr_travelTime_9 rfl hl (by decide) rfl (fun ls hl => ?_)
  refine lv_iload_n hC.1 hC.2.1 d_cr_travelTime_10 rfl (lv_at hl 0 rfl) ?_
  refine lv_iconst (v := iI 1) hC.1 hC.2.1 d_cr_travelTime_11 rfl ?_
  refine ir_ge (tgt := 18) hC.1 hC.2.1 d_cr_travelTime_12 (by decide) ⟨by omega, by omega⟩ (by decide) (fun c_2 => ?_) (fun c_2 => ?_)
  · skip
    refine lv_aload_n hC.1 hC.2.1 d_cr_travelTime_18 rfl (lv_at hl 1 rfl) ?_
    refine gf_cr_12 hC hw d_cr_travelTime_19 ?_
    refine gf_cr_227 hC hw d_cr_travelTime_22 ?_
    refine lv_iload_n hC.1 hC.2.1 d_cr_travelTime_25 rfl (lv_at hl 3 rfl) ?_
    refine ld_8 hC hw (by omega) (by omega) d_cr_travelTime_26 ?_
    have b_3 := iv_8 hI q.toNat
    refine lv_iload_n hC.1 hC.2.1 d_cr_travelTime_27 rfl (lv_at hl 0 rfl) ?_
    refine ir_add hC.1 hC.2.1 d_cr_travelTime_28 ?_
    refine lv_iconst (v := iI 1) hC.1 hC.2.1 d_cr_travelTime_29 rfl ?_
    refine ir_sub hC.1 hC.2.1 d_cr_travelTime_30 ?_
    refine lv_iload_n hC.1 hC.2.1 d_cr_travelTime_31 rfl (lv_at hl 0 rfl) ?_
    refine ir_div hC.1 hC.2.1 (by omega) (by omega) (by omega) (by omega) d_cr_travelTime_32 ?_
    exact rt_R hC hr hlk (by first | rfl | (simp [tTm, c_2]; done) | (simp [tTm, c_2]; omega) | (simp [tTm, c_2] <;> split <;> omega) | omega) d_cr_travelTime_33
  · skip
    refine ir_ldc hC 1000000 tw_388 (by decide +kernel) d_cr_travelTime_15 ?_
    exact rt_R hC hr hlk (by first | rfl | (simp [tTm, c_2]; done) | (simp [tTm, c_2]; omega) | (simp [tTm, c_2] <;> split <;> omega) | omega) d_cr_travelTime_17
set_option maxHeartbeats 4000000 in
set_option maxRecDepth 100000 in
theorem c_cr_isAgainstOneWay (l : Launch) (G : Gt) (S : St) (row : Int) (i : Int) (hI : Inv S) (hrow : 0 ≤ row ∧ row ≤ 30) (hi : 0 ≤ i ∧ i < 7) : Met l y_cr_isAgainstOneWay [.code y_cr_isAgainstOneWay b_cr_isAgainstOneWay 4 (some .boolean)] { frames := 1, cells := 0, slots := 0, locals := 22 } (va_Pc [.ref (G.2.1 0), .int (iI (row)), .int (iI (i))] (fun U => wu G S U)) (qR (bI (agW S row i))) 0 0 (fun _ => False) := by
  refine mt_of (by decide +kernel) (Nat.le_of_ble_eq_true rfl) ?_
  intro p e s m below meth c ls hadm hC hr hlk hex hw hl
  have hC : CallFix p m c b_cr_isAgainstOneWay 4 s _ tws "ChannelRules" := hC
  have hl : lv_has ls 4 [(0, .ref (G.2.1 0)), (1, .int (iI (row))), (2, .int (iI (i)))] := hl
  refine lv_aload_n hC.1 hC.2.1 d_cr_isAgainstOneWay_0 rfl (lv_at hl 0 rfl) ?_
  refine gf_cr_12 hC hw d_cr_isAgainstOneWay_1 ?_
  refine lv_aload_n hC.1 hC.2.1 d_cr_isAgainstOneWay_4 rfl (lv_at hl 0 rfl) ?_
  refine gf_cr_26 hC hw d_cr_isAgainstOneWay_5 ?_
  refine lv_iload_n hC.1 hC.2.1 d_cr_isAgainstOneWay_8 rfl (lv_at hl 1 rfl) ?_
  refine lv_iload_n hC.1 hC.2.1 d_cr_isAgainstOneWay_9 rfl (lv_at hl 2 rfl) ?_
  refine go_R (ca_V (As := [.int (iI (row)), .int (iI (i))]) (rest := [.ref (G.2.1 1)]) hC hw (c_ps_pieceOf l G S row i hI (by omega) (by omega)) (cv_cr_100 hC rfl rfl (Nat.le_of_ble_eq_true rfl) (Nat.le_of_ble_eq_true rfl)) (by decide) rfl rfl rfl hl.1 rfl (Nat.le_of_ble_eq_true rfl) d_cr_isAgainstOneWay_10 ⟨Nat.le_of_ble_eq_true rfl, Nat.le_of_ble_eq_true rfl⟩) ?_
  have r_1 := pOf_b hI row i
  refine lv_iconst (v := iI 0) hC.1 hC.2.1 d_cr_isAgainstOneWay_13 rfl ?_
  refine go_R (ca_V (As := [.int (iI (pOf S row i)), .int (iI (0))]) (rest := []) hC hw (c_pc_ruleOf l G S (pOf S row i) 0 hI (by omega) (by omega)) (cv_cr_248 hC rfl rfl (Nat.le_of_ble_eq_true rfl) (Nat.le_of_ble_eq_true rfl)) (by decide) rfl rfl rfl hl.1 rfl (Nat.le_of_ble_eq_true rfl) d_cr_isAgainstOneWay_14 ⟨Nat.le_of_ble_eq_true rfl, Nat.le_of_ble_eq_true rfl⟩) ?_
  have r_2 := rOf_b hI (pOf S row i) 0
  refine lv_istore_n (lv' := [(3, .int (iI (rOf S (pOf S row i) 0))), (0, .ref (G.2.1 0)), (1, .int (iI (row))), (2, .int (iI (i)))]) hC.1 hC.2.1 d_cr_isAgainstOneWay_17 rfl hl (by decide) rfl (fun ls hl => ?_)
  refine lv_iload_n hC.1 hC.2.1 d_cr_isAgainstOneWay_18 rfl (lv_at hl 0 rfl) ?_
  refine lv_aload_n hC.1 hC.2.1 d_cr_isAgainstOneWay_19 rfl (lv_at hl 1 rfl) ?_
  refine gf_cr_26 hC hw d_cr_isAgainstOneWay_20 ?_
  refine lv_iload_n hC.1 hC.2.1 d_cr_isAgainstOneWay_23 rfl (lv_at hl 2 rfl) ?_
  refine lv_iload_n hC.1 hC.2.1 d_cr_isAgainstOneWay_24 rfl (lv_at hl 3 rfl) ?_
  refine go_R (ca_V (As := [.int (iI (row)), .int (iI (i))]) (rest := [.int (iI (rOf S (pOf S row i) 0))]) hC hw (c_ps_isForward l G S row i hI (by omega) (by omega)) (cv_cr_175 hC rfl rfl (Nat.le_of_ble_eq_true rfl) (Nat.le_of_ble_eq_true rfl)) (by decide) rfl rfl rfl hl.1 rfl (Nat.le_of_ble_eq_true rfl) d_cr_isAgainstOneWay_25 ⟨Nat.le_of_ble_eq_true rfl, Nat.le_of_ble_eq_true rfl⟩) ?_
  have r_3 := fOf_b hI row i
  refine ir_if_eq (tgt := 35) hC.1 hC.2.1 d_cr_isAgainstOneWay_28 (by decide) ⟨by omega, by omega⟩ (fun c_4 => ?_) (fun c_4 => ?_)
  · skip
    refine lv_iconst (v := iI 1) hC.1 hC.2.1 d_cr_isAgainstOneWay_35 rfl ?_
    refine ir_ne (tgt := 43) hC.1 hC.2.1 d_cr_isAgainstOneWay_36 (by decide) ⟨by omega, by omega⟩ (by decide) (fun c_5 => ?_) (fun c_5 => ?_)
    · skip
      refine lv_iconst (v := iI 0) hC.1 hC.2.1 d_cr_isAgainstOneWay_43 rfl ?_
      exact rt_RZ hC hr hlk (by decide) (by first | rfl | (simp [agW, bI, c_4, c_5]; done) | (simp [agW, bI, c_4, c_5]; omega) | (simp [agW, bI, c_4, c_5] <;> split <;> omega) | omega) d_cr_isAgainstOneWay_44
    · skip
      refine lv_iconst (v := iI 1) hC.1 hC.2.1 d_cr_isAgainstOneWay_39 rfl ?_
      refine lv_goto (tgt := 44) hC.1 hC.2.1 d_cr_isAgainstOneWay_40 (by decide) ?_
      exact rt_RZ hC hr hlk (by decide) (by first | rfl | (simp [agW, bI, c_4, c_5]; done) | (simp [agW, bI, c_4, c_5]; omega) | (simp [agW, bI, c_4, c_5] <;> split <;> omega) | omega) d_cr_isAgainstOneWay_44
  · skip
    refine lv_iconst (v := iI 2) hC.1 hC.2.1 d_cr_isAgainstOneWay_31 rfl ?_
    refine lv_goto (tgt := 36) hC.1 hC.2.1 d_cr_isAgainstOneWay_32 (by decide) ?_
    refine ir_ne (tgt := 43) hC.1 hC.2.1 d_cr_isAgainstOneWay_36 (by decide) ⟨by omega, by omega⟩ (by decide) (fun c_6 => ?_) (fun c_6 => ?_)
    · skip
      refine lv_iconst (v := iI 0) hC.1 hC.2.1 d_cr_isAgainstOneWay_43 rfl ?_
      exact rt_RZ hC hr hlk (by decide) (by first | rfl | (simp [agW, bI, c_4, c_6]; done) | (simp [agW, bI, c_4, c_6]; omega) | (simp [agW, bI, c_4, c_6] <;> split <;> omega) | omega) d_cr_isAgainstOneWay_44
    · skip
      refine lv_iconst (v := iI 1) hC.1 hC.2.1 d_cr_isAgainstOneWay_39 rfl ?_
      refine lv_goto (tgt := 44) hC.1 hC.2.1 d_cr_isAgainstOneWay_40 (by decide) ?_
      exact rt_RZ hC hr hlk (by decide) (by first | rfl | (simp [agW, bI, c_4, c_6]; done) | (simp [agW, bI, c_4, c_6]; omega) | (simp [agW, bI, c_4, c_6] <;> split <;> omega) | omega) d_cr_isAgainstOneWay_44
set_option maxHeartbeats 4000000 in
set_option maxRecDepth 100000 in
theorem c_cr_isBarredAtNight (l : Launch) (G : Gt) (S : St) (row : Int) (i : Int) (hI : Inv S) (hrow : 0 ≤ row ∧ row ≤ 30) (hi : 0 ≤ i ∧ i < 7) : Met l y_cr_isBarredAtNight [.code y_cr_isBarredAtNight b_cr_isBarredAtNight 7 (some .boolean)] { frames := 1, cells := 0, slots := 0, locals := 22 } (va_Pc [.ref (G.2.1 0), .int (iI (row)), .int (iI (i))] (fun U => wu G S U)) (qR (bI (bNt S row i))) 0 0 (fun _ => False) := by
  refine mt_of (by decide +kernel) (Nat.le_of_ble_eq_true rfl) ?_
  intro p e s m below meth c ls hadm hC hr hlk hex hw hl
  have hC : CallFix p m c b_cr_isBarredAtNight 7 s _ tws "ChannelRules" := hC
  have hl : lv_has ls 7 [(0, .ref (G.2.1 0)), (1, .int (iI (row))), (2, .int (iI (i)))] := hl
  refine lv_aload_n hC.1 hC.2.1 d_cr_isBarredAtNight_0 rfl (lv_at hl 0 rfl) ?_
  refine gf_cr_12 hC hw d_cr_isBarredAtNight_1 ?_
  refine lv_aload_n hC.1 hC.2.1 d_cr_isBarredAtNight_4 rfl (lv_at hl 0 rfl) ?_
  refine gf_cr_26 hC hw d_cr_isBarredAtNight_5 ?_
  refine lv_iload_n hC.1 hC.2.1 d_cr_isBarredAtNight_8 rfl (lv_at hl 1 rfl) ?_
  refine lv_iload_n hC.1 hC.2.1 d_cr_isBarredAtNight_9 rfl (lv_at hl 2 rfl) ?_
  refine go_R (ca_V (As := [.int (iI (row)), .int (iI (i))]) (rest := [.ref (G.2.1 1)]) hC hw (c_ps_pieceOf l G S row i hI (by omega) (by omega)) (cv_cr_100 hC rfl rfl (Nat.le_of_ble_eq_true rfl) (Nat.le_of_ble_eq_true rfl)) (by decide) rfl rfl rfl hl.1 rfl (Nat.le_of_ble_eq_true rfl) d_cr_isBarredAtNight_10 ⟨Nat.le_of_ble_eq_true rfl, Nat.le_of_ble_eq_true rfl⟩) ?_
  have r_1 := pOf_b hI row i
  refine lv_iconst (v := iI 1) hC.1 hC.2.1 d_cr_isBarredAtNight_13 rfl ?_
  refine go_R (ca_V (As := [.int (iI (pOf S row i)), .int (iI (1))]) (rest := []) hC hw (c_pc_ruleOf l G S (pOf S row i) 1 hI (by omega) (by omega)) (cv_cr_248 hC rfl rfl (Nat.le_of_ble_eq_true rfl) (Nat.le_of_ble_eq_true rfl)) (by decide) rfl rfl rfl hl.1 rfl (Nat.le_of_ble_eq_true rfl) d_cr_isBarredAtNight_14 ⟨Nat.le_of_ble_eq_true rfl, Nat.le_of_ble_eq_true rfl⟩) ?_
  have r_2 := rOf_b hI (pOf S row i) 1
  refine lv_istore_n (lv' := [(3, .int (iI (rOf S (pOf S row i) 1))), (0, .ref (G.2.1 0)), (1, .int (iI (row))), (2, .int (iI (i)))]) hC.1 hC.2.1 d_cr_isBarredAtNight_17 rfl hl (by decide) rfl (fun ls hl => ?_)
  refine lv_iload_n hC.1 hC.2.1 d_cr_isBarredAtNight_18 rfl (lv_at hl 0 rfl) ?_
  refine ir_if_eq (tgt := 43) hC.1 hC.2.1 d_cr_isBarredAtNight_19 (by decide) ⟨by omega, by omega⟩ (fun c_3 => ?_) (fun c_3 => ?_)
  · skip
    refine lv_iconst (v := iI 0) hC.1 hC.2.1 d_cr_isBarredAtNight_43 rfl ?_
    exact rt_RZ hC hr hlk (by decide) (by first | rfl | (simp [bNt, bI, c_3]; done) | (simp [bNt, bI, c_3]; omega) | (simp [bNt, bI, c_3] <;> split <;> omega) | omega) d_cr_isBarredAtNight_44
  · skip
    refine lv_aload_n hC.1 hC.2.1 d_cr_isBarredAtNight_22 rfl (lv_at hl 1 rfl) ?_
    refine gf_cr_19 hC hw d_cr_isBarredAtNight_23 ?_
    refine gf_cr_251 hC hw d_cr_isBarredAtNight_26 ?_
    refine lv_aload_n hC.1 hC.2.1 d_cr_isBarredAtNight_29 rfl (lv_at hl 1 rfl) ?_
    refine gf_cr_26 hC hw d_cr_isBarredAtNight_30 ?_
    refine gf_cr_254 hC hw d_cr_isBarredAtNight_33 ?_
    refine lv_iload_n hC.1 hC.2.1 d_cr_isBarredAtNight_36 rfl (lv_at hl 2 rfl) ?_
    refine ld_18 hC hw (by omega) (by omega) d_cr_isBarredAtNight_37 ?_
    have b_4 := iv_18 hI row.toNat
    refine ld_16 hC hw (by omega) (by omega) d_cr_isBarredAtNight_38 ?_
    have b_5 := iv_16 hI ((S 18 row.toNat).toNat)
    refine lv_iload_n hC.1 hC.2.1 d_cr_isBarredAtNight_39 rfl (lv_at hl 0 rfl) ?_
    refine ir_ge (tgt := 45) hC.1 hC.2.1 d_cr_isBarredAtNight_40 (by decide) ⟨by omega, by omega⟩ ⟨by omega, by omega⟩ (fun c_6 => ?_) (fun c_6 => ?_)
    · skip
      refine lv_aload_n hC.1 hC.2.1 d_cr_isBarredAtNight_45 rfl (lv_at hl 1 rfl) ?_
      refine gf_cr_26 hC hw d_cr_isBarredAtNight_46 ?_
      refine lv_iload_n hC.1 hC.2.1 d_cr_isBarredAtNight_49 rfl (lv_at hl 2 rfl) ?_
      refine lv_iload_n hC.1 hC.2.1 d_cr_isBarredAtNight_50 rfl (lv_at hl 3 rfl) ?_
      refine go_R (ca_V (As := [.int (iI (row)), .int (iI (i))]) (rest := []) hC hw (c_ps_entersAt l G S row i hI (by omega) (by omega)) (cv_cr_169 hC rfl rfl (Nat.le_of_ble_eq_true rfl) (Nat.le_of_ble_eq_true rfl)) (by decide) rfl rfl rfl hl.1 rfl (Nat.le_of_ble_eq_true rfl) d_cr_isBarredAtNight_51 ⟨Nat.le_of_ble_eq_true rfl, Nat.le_of_ble_eq_true rfl⟩) ?_
      have r_7 := enA_b hI row i
      refine lv_istore (lv' := [(4, .int (iI (enA S row i))), (3, .int (iI (rOf S (pOf S row i) 1))), (0, .ref (G.2.1 0)), (1, .int (iI (row))), (2, .int (iI (i)))]) hC.1 hC.2.1 d_cr_isBarredAtNight_54 hl (by decide) rfl (fun ls hl => ?_)
      refine lv_iload hC.1 hC.2.1 d_cr_isBarredAtNight_56 (lv_at hl 0 rfl) ?_
      refine lv_sipush (v := iI 1440) hC.1 hC.2.1 d_cr_isBarredAtNight_58 (by decide +kernel) ?_
      refine ir_rem hC.1 hC.2.1 (by omega) (by omega) (by omega) (by omega) d_cr_isBarredAtNight_61 ?_
      refine lv_istore (lv' := [(5, .int (iI ((enA S row i) % 1440))), (4, .int (iI (enA S row i))), (3, .int (iI (rOf S (pOf S row i) 1))), (0, .ref (G.2.1 0)), (1, .int (iI (row))), (2, .int (iI (i)))]) hC.1 hC.2.1 d_cr_isBarredAtNight_62 hl (by decide) rfl (fun ls hl => ?_)
      refine lv_iload hC.1 hC.2.1 d_cr_isBarredAtNight_64 (lv_at hl 0 rfl) ?_
      refine lv_aload_n hC.1 hC.2.1 d_cr_isBarredAtNight_66 rfl (lv_at hl 3 rfl) ?_
      refine gf_cr_26 hC hw d_cr_isBarredAtNight_67 ?_
      refine lv_iload_n hC.1 hC.2.1 d_cr_isBarredAtNight_70 rfl (lv_at hl 4 rfl) ?_
      refine lv_iload_n hC.1 hC.2.1 d_cr_isBarredAtNight_71 rfl (lv_at hl 5 rfl) ?_
      refine go_R (ca_V (As := [.int (iI (row)), .int (iI (i))]) (rest := [.int (iI ((enA S row i) % 1440))]) hC hw (c_ps_leavesAt l G S row i hI (by omega) (by omega)) (cv_cr_172 hC rfl rfl (Nat.le_of_ble_eq_true rfl) (Nat.le_of_ble_eq_true rfl)) (by decide) rfl rfl rfl hl.1 rfl (Nat.le_of_ble_eq_true rfl) d_cr_isBarredAtNight_72 ⟨Nat.le_of_ble_eq_true rfl, Nat.le_of_ble_eq_true rfl⟩) ?_
      have r_8 := lvA_b hI row i
      refine ir_add hC.1 hC.2.1 d_cr_isBarredAtNight_75 ?_
      refine lv_iload hC.1 hC.2.1 d_cr_isBarredAtNight_76 (lv_at hl 1 rfl) ?_
      refine ir_sub hC.1 hC.2.1 d_cr_isBarredAtNight_78 ?_
      refine lv_iconst (v := iI 1) hC.1 hC.2.1 d_cr_isBarredAtNight_79 rfl ?_
      refine ir_sub hC.1 hC.2.1 d_cr_isBarredAtNight_80 ?_
      refine lv_istore (lv' := [(6, .int (iI (((((enA S row i) % 1440) + (lvA S row i)) - (enA S row i)) - 1))), (5, .int (iI ((enA S row i) % 1440))), (4, .int (iI (enA S row i))), (3, .int (iI (rOf S (pOf S row i) 1))), (0, .ref (G.2.1 0)), (1, .int (iI (row))), (2, .int (iI (i)))]) hC.1 hC.2.1 d_cr_isBarredAtNight_81 hl (by decide) rfl (fun ls hl => ?_)
      refine lv_iload hC.1 hC.2.1 d_cr_isBarredAtNight_83 (lv_at hl 1 rfl) ?_
      refine lv_sipush (v := iI 300) hC.1 hC.2.1 d_cr_isBarredAtNight_85 (by decide +kernel) ?_
      refine ir_lt (tgt := 99) hC.1 hC.2.1 d_cr_isBarredAtNight_88 (by decide) ⟨by omega, by omega⟩ (by decide) (fun c_9 => ?_) (fun c_9 => ?_)
      · skip
        refine lv_iconst (v := iI 1) hC.1 hC.2.1 d_cr_isBarredAtNight_99 rfl ?_
        refine lv_goto (tgt := 104) hC.1 hC.2.1 d_cr_isBarredAtNight_100 (by decide) ?_
        exact rt_RZ hC hr hlk (by decide) (by first | rfl | (simp [bNt, bI, c_3, c_6, c_9]; done) | (simp [bNt, bI, c_3, c_6, c_9]; omega) | (simp [bNt, bI, c_3, c_6, c_9] <;> split <;> omega) | omega) d_cr_isBarredAtNight_104
      · skip
        refine lv_iload hC.1 hC.2.1 d_cr_isBarredAtNight_91 (lv_at hl 0 rfl) ?_
        refine lv_sipush (v := iI 1200) hC.1 hC.2.1 d_cr_isBarredAtNight_93 (by decide +kernel) ?_
        refine ir_lt (tgt := 103) hC.1 hC.2.1 d_cr_isBarredAtNight_96 (by decide) ⟨by omega, by omega⟩ (by decide) (fun c_10 => ?_) (fun c_10 => ?_)
        · skip
          refine lv_iconst (v := iI 0) hC.1 hC.2.1 d_cr_isBarredAtNight_103 rfl ?_
          exact rt_RZ hC hr hlk (by decide) (by first | rfl | (simp [bNt, bI, c_3, c_6, c_9, c_10]; done) | (simp [bNt, bI, c_3, c_6, c_9, c_10]; omega) | (simp [bNt, bI, c_3, c_6, c_9, c_10] <;> split <;> omega) | omega) d_cr_isBarredAtNight_104
        · skip
          refine lv_iconst (v := iI 1) hC.1 hC.2.1 d_cr_isBarredAtNight_99 rfl ?_
          refine lv_goto (tgt := 104) hC.1 hC.2.1 d_cr_isBarredAtNight_100 (by decide) ?_
          exact rt_RZ hC hr hlk (by decide) (by first | rfl | (simp [bNt, bI, c_3, c_6, c_9, c_10]; done) | (simp [bNt, bI, c_3, c_6, c_9, c_10]; omega) | (simp [bNt, bI, c_3, c_6, c_9, c_10] <;> split <;> omega) | omega) d_cr_isBarredAtNight_104
    · skip
      refine lv_iconst (v := iI 0) hC.1 hC.2.1 d_cr_isBarredAtNight_43 rfl ?_
      exact rt_RZ hC hr hlk (by decide) (by first | rfl | (simp [bNt, bI, c_3, c_6]; done) | (simp [bNt, bI, c_3, c_6]; omega) | (simp [bNt, bI, c_3, c_6] <;> split <;> omega) | omega) d_cr_isBarredAtNight_44
set_option maxHeartbeats 4000000 in
set_option maxRecDepth 100000 in
theorem c_cr_isBarredInWind (l : Launch) (G : Gt) (S : St) (row : Int) (i : Int) (hI : Inv S) (hrow : 0 ≤ row ∧ row ≤ 30) (hi : 0 ≤ i ∧ i < 7) : Met l y_cr_isBarredInWind [.code y_cr_isBarredInWind b_cr_isBarredInWind 4 (some .boolean)] { frames := 1, cells := 0, slots := 0, locals := 22 } (va_Pc [.ref (G.2.1 0), .int (iI (row)), .int (iI (i))] (fun U => wu G S U)) (qR (bI (bWd S row i))) 0 0 (fun _ => False) := by
  refine mt_of (by decide +kernel) (Nat.le_of_ble_eq_true rfl) ?_
  intro p e s m below meth c ls hadm hC hr hlk hex hw hl
  have hC : CallFix p m c b_cr_isBarredInWind 4 s _ tws "ChannelRules" := hC
  have hl : lv_has ls 4 [(0, .ref (G.2.1 0)), (1, .int (iI (row))), (2, .int (iI (i)))] := hl
  refine lv_aload_n hC.1 hC.2.1 d_cr_isBarredInWind_0 rfl (lv_at hl 0 rfl) ?_
  refine gf_cr_12 hC hw d_cr_isBarredInWind_1 ?_
  refine lv_aload_n hC.1 hC.2.1 d_cr_isBarredInWind_4 rfl (lv_at hl 0 rfl) ?_
  refine gf_cr_26 hC hw d_cr_isBarredInWind_5 ?_
  refine lv_iload_n hC.1 hC.2.1 d_cr_isBarredInWind_8 rfl (lv_at hl 1 rfl) ?_
  refine lv_iload_n hC.1 hC.2.1 d_cr_isBarredInWind_9 rfl (lv_at hl 2 rfl) ?_
  refine go_R (ca_V (As := [.int (iI (row)), .int (iI (i))]) (rest := [.ref (G.2.1 1)]) hC hw (c_ps_pieceOf l G S row i hI (by omega) (by omega)) (cv_cr_100 hC rfl rfl (Nat.le_of_ble_eq_true rfl) (Nat.le_of_ble_eq_true rfl)) (by decide) rfl rfl rfl hl.1 rfl (Nat.le_of_ble_eq_true rfl) d_cr_isBarredInWind_10 ⟨Nat.le_of_ble_eq_true rfl, Nat.le_of_ble_eq_true rfl⟩) ?_
  have r_1 := pOf_b hI row i
  refine lv_iconst (v := iI 2) hC.1 hC.2.1 d_cr_isBarredInWind_13 rfl ?_
  refine go_R (ca_V (As := [.int (iI (pOf S row i)), .int (iI (2))]) (rest := []) hC hw (c_pc_ruleOf l G S (pOf S row i) 2 hI (by omega) (by omega)) (cv_cr_248 hC rfl rfl (Nat.le_of_ble_eq_true rfl) (Nat.le_of_ble_eq_true rfl)) (by decide) rfl rfl rfl hl.1 rfl (Nat.le_of_ble_eq_true rfl) d_cr_isBarredInWind_14 ⟨Nat.le_of_ble_eq_true rfl, Nat.le_of_ble_eq_true rfl⟩) ?_
  have r_2 := rOf_b hI (pOf S row i) 2
  refine lv_istore_n (lv' := [(3, .int (iI (rOf S (pOf S row i) 2))), (0, .ref (G.2.1 0)), (1, .int (iI (row))), (2, .int (iI (i)))]) hC.1 hC.2.1 d_cr_isBarredInWind_17 rfl hl (by decide) rfl (fun ls hl => ?_)
  refine lv_aload_n hC.1 hC.2.1 d_cr_isBarredInWind_18 rfl (lv_at hl 1 rfl) ?_
  refine gf_cr_37 hC hw d_cr_isBarredInWind_19 ?_
  have b_3 := iv_0 hI 5
  refine ir_if_eq (tgt := 50) hC.1 hC.2.1 d_cr_isBarredInWind_22 (by decide) ⟨by omega, by omega⟩ (fun c_4 => ?_) (fun c_4 => ?_)
  · skip
    refine lv_iconst (v := iI 0) hC.1 hC.2.1 d_cr_isBarredInWind_50 rfl ?_
    exact rt_RZ hC hr hlk (by decide) (by first | rfl | (simp [bWd, bI, c_4]; done) | (simp [bWd, bI, c_4]; omega) | (simp [bWd, bI, c_4] <;> split <;> omega) | omega) d_cr_isBarredInWind_51
  · skip
    refine lv_aload_n hC.1 hC.2.1 d_cr_isBarredInWind_25 rfl (lv_at hl 1 rfl) ?_
    refine gf_cr_19 hC hw d_cr_isBarredInWind_26 ?_
    refine gf_cr_223 hC hw d_cr_isBarredInWind_29 ?_
    refine lv_aload_n hC.1 hC.2.1 d_cr_isBarredInWind_32 rfl (lv_at hl 1 rfl) ?_
    refine gf_cr_26 hC hw d_cr_isBarredInWind_33 ?_
    refine gf_cr_254 hC hw d_cr_isBarredInWind_36 ?_
    refine lv_iload_n hC.1 hC.2.1 d_cr_isBarredInWind_39 rfl (lv_at hl 2 rfl) ?_
    refine ld_18 hC hw (by omega) (by omega) d_cr_isBarredInWind_40 ?_
    have b_5 := iv_18 hI row.toNat
    refine ld_14 hC hw (by omega) (by omega) d_cr_isBarredInWind_41 ?_
    have b_6 := iv_14 hI ((S 18 row.toNat).toNat)
    refine lv_iload_n hC.1 hC.2.1 d_cr_isBarredInWind_42 rfl (lv_at hl 0 rfl) ?_
    refine ir_le (tgt := 50) hC.1 hC.2.1 d_cr_isBarredInWind_43 (by decide) ⟨by omega, by omega⟩ ⟨by omega, by omega⟩ (fun c_7 => ?_) (fun c_7 => ?_)
    · skip
      refine lv_iconst (v := iI 0) hC.1 hC.2.1 d_cr_isBarredInWind_50 rfl ?_
      exact rt_RZ hC hr hlk (by decide) (by first | rfl | (simp [bWd, bI, c_4, c_7]; done) | (simp [bWd, bI, c_4, c_7]; omega) | (simp [bWd, bI, c_4, c_7] <;> split <;> omega) | omega) d_cr_isBarredInWind_51
    · skip
      refine lv_iconst (v := iI 1) hC.1 hC.2.1 d_cr_isBarredInWind_46 rfl ?_
      refine lv_goto (tgt := 51) hC.1 hC.2.1 d_cr_isBarredInWind_47 (by decide) ?_
      exact rt_RZ hC hr hlk (by decide) (by first | rfl | (simp [bWd, bI, c_4, c_7]; done) | (simp [bWd, bI, c_4, c_7]; omega) | (simp [bWd, bI, c_4, c_7] <;> split <;> omega) | omega) d_cr_isBarredInWind_51
set_option maxHeartbeats 4000000 in
set_option maxRecDepth 100000 in
theorem c_pc_closedFor (l : Launch) (G : Gt) (S : St) (q : Int) (a : Int) (b : Int) (hI : Inv S) (hq : 0 ≤ q ∧ q < 12) (ha : 0 ≤ a ∧ a ≤ 1000000) (hb : 0 ≤ b ∧ b ≤ 1000000) : Met l y_pc_closedFor [.code y_pc_closedFor b_pc_closedFor 7 (some .int)] { frames := 1, cells := 0, slots := 0, locals := 23 } (va_Pc [.ref (G.2.1 1), .int (iI (q)), .int (iI (a)), .int (iI (b))] (fun U => wu G S U)) (qR (clF S q a b (S 11 q.toNat).toNat)) 0 0 (fun _ => False) := by
  refine mt_of (by decide +kernel) (Nat.le_of_ble_eq_true rfl) ?_
  intro p e s m below meth c ls hadm hC hr hlk hex hw hl
  have hC : CallFix p m c b_pc_closedFor 7 s _ tws "ChannelRules$Pieces" := hC
  have hl : lv_has ls 7 [(0, .ref (G.2.1 1)), (1, .int (iI (q))), (2, .int (iI (a))), (3, .int (iI (b)))] := hl
  have i11 := iv_11 hI q.toNat
  refine lv_iconst (v := iI 0) hC.1 hC.2.1 d_pc_closedFor_0 rfl ?_
  refine lv_istore (lv' := [(4, .int (iI (0))), (0, .ref (G.2.1 1)), (1, .int (iI (q))), (2, .int (iI (a))), (3, .int (iI (b)))]) hC.1 hC.2.1 d_pc_closedFor_1 hl (by decide) rfl (fun ls hl => ?_)
  refine lv_iconst (v := iI 0) hC.1 hC.2.1 d_pc_closedFor_3 rfl ?_
  refine lv_istore (lv' := [(5, .int (iI (0))), (4, .int (iI (0))), (0, .ref (G.2.1 1)), (1, .int (iI (q))), (2, .int (iI (a))), (3, .int (iI (b)))]) hC.1 hC.2.1 d_pc_closedFor_4 hl (by decide) rfl (fun ls hl => ?_)
  have loop_6 : ∀ (n : Nat) (k : Nat) (x4 : Int) (x5 : Int), (S 11 q.toNat).toNat - k < n → x4 = clF S q a b k → x5 = (k : Int) → (k : Int) ≤ S 11 q.toNat → ∀ (ls : Array Slot), lv_has ls 7 [(5, .int (iI (x5))), (4, .int (iI (x4))), (0, .ref (G.2.1 1)), (1, .int (iI (q))), (2, .int (iI (a))), (3, .int (iI (b)))] → W p l e { frames := 1, cells := 0, slots := 0, locals := 23 } s m ([.ref (G.2.1 1), .int (iI (q)), .int (iI (a)), .int (iI (b))] : List Value).toArray below meth c s.heap [] 0 0 (MQ below (qR (clF S q a b (S 11 q.toNat).toNat)) ([.ref (G.2.1 1), .int (iI (q)), .int (iI (a)), .int (iI (b))] : List Value).toArray s 0 0 (fun _ => False)) (F0 m 6 ls []) := by
    intro n
    induction n with
    | zero => intros; omega
    | succ n ih_6 =>
      intro k x4 x5 hms_6 hx4 hx5 hv0 ls hl
      have bk := clF_b hI q a b k
      refine lv_iload hC.1 hC.2.1 d_pc_closedFor_6 (lv_at hl 0 rfl) ?_
      refine lv_aload_n hC.1 hC.2.1 d_pc_closedFor_8 rfl (lv_at hl 2 rfl) ?_
      refine gf_pc_31 hC hw d_pc_closedFor_9 ?_
      refine lv_iload_n hC.1 hC.2.1 d_pc_closedFor_12 rfl (lv_at hl 3 rfl) ?_
      refine ld_11 hC hw (by omega) (by omega) d_pc_closedFor_13 ?_
      have b_1 := iv_11 hI q.toNat
      refine ir_ge (tgt := 69) hC.1 hC.2.1 d_pc_closedFor_14 (by decide) ⟨by omega, by omega⟩ ⟨by omega, by omega⟩ (fun c_2 => ?_) (fun c_2 => ?_)
      · skip
        refine lv_iload hC.1 hC.2.1 d_pc_closedFor_69 (lv_at hl 1 rfl) ?_
        exact rt_R hC hr hlk (by rw [hx4, show (S 11 q.toNat).toNat = k by omega]) d_pc_closedFor_71
      · skip
        refine lv_iload_n hC.1 hC.2.1 d_pc_closedFor_17 rfl (lv_at hl 3 rfl) ?_
        refine lv_iconst (v := iI 4) hC.1 hC.2.1 d_pc_closedFor_18 rfl ?_
        refine ir_mul hC.1 hC.2.1 d_pc_closedFor_19 ?_
        refine lv_iload hC.1 hC.2.1 d_pc_closedFor_20 (lv_at hl 0 rfl) ?_
        refine ir_add hC.1 hC.2.1 d_pc_closedFor_22 ?_
        refine lv_istore (lv' := [(6, .int (iI ((q * 4) + x5))), (5, .int (iI (x5))), (4, .int (iI (x4))), (0, .ref (G.2.1 1)), (1, .int (iI (q))), (2, .int (iI (a))), (3, .int (iI (b)))]) hC.1 hC.2.1 d_pc_closedFor_23 hl (by decide) rfl (fun ls hl => ?_)
        refine lv_iload_n hC.1 hC.2.1 d_pc_closedFor_25 rfl (lv_at hl 5 rfl) ?_
        refine lv_iload_n hC.1 hC.2.1 d_pc_closedFor_26 rfl (lv_at hl 6 rfl) ?_
        refine lv_aload_n hC.1 hC.2.1 d_pc_closedFor_27 rfl (lv_at hl 3 rfl) ?_
        refine gf_pc_34 hC hw d_pc_closedFor_28 ?_
        refine lv_iload hC.1 hC.2.1 d_pc_closedFor_31 (lv_at hl 0 rfl) ?_
        refine ld_12 hC hw (by omega) (by omega) d_pc_closedFor_33 ?_
        have b_3 := iv_12 hI (((q * 4) + x5).toNat)
        refine lv_aload_n hC.1 hC.2.1 d_pc_closedFor_34 rfl (lv_at hl 3 rfl) ?_
        refine gf_pc_37 hC hw d_pc_closedFor_35 ?_
        refine lv_iload hC.1 hC.2.1 d_pc_closedFor_38 (lv_at hl 0 rfl) ?_
        refine ld_13 hC hw (by omega) (by omega) d_pc_closedFor_40 ?_
        have b_4 := iv_13 hI (((q * 4) + x5).toNat)
        refine go_R (ca_N (As := [.int (iI (a)), .int (iI (b)), .int (iI (S 12 ((q * 4) + x5).toNat)), .int (iI (S 13 ((q * 4) + x5).toNat))]) (rest := []) hC hw (c_cr_shareMinute l G S a b (S 12 ((q * 4) + x5).toNat) (S 13 ((q * 4) + x5).toNat) (by omega) (by omega) (by omega) (by omega)) (cv_pc_48 hC rfl rfl (Nat.le_of_ble_eq_true rfl) (Nat.le_of_ble_eq_true rfl)) rfl hl.1 rfl (Nat.le_of_ble_eq_true rfl) d_pc_closedFor_41 ⟨Nat.le_of_ble_eq_true rfl, Nat.le_of_ble_eq_true rfl⟩) ?_
        refine ir_beq (tgt := 63) hC d_pc_closedFor_44 (by decide) (fun c_5 => ?_) (fun c_5 => ?_)
        · skip
          refine lv_iinc (v := iI (x5 + 1)) (lv' := [(5, .int (iI (x5 + 1))), (6, .int (iI ((q * 4) + x5))), (4, .int (iI (x4))), (0, .ref (G.2.1 1)), (1, .int (iI (q))), (2, .int (iI (a))), (3, .int (iI (b)))]) hC.1 hC.2.1 d_pc_closedFor_63 hl (k := 1) rfl (iI_add _ _) (by decide) rfl (fun ls hl => ?_)
          refine lv_goto (tgt := 6) hC.1 hC.2.1 d_pc_closedFor_66 (by decide) ?_
          exact ih_6 (k + 1) _ _ (by omega) (by have g := clF_s S q a b k; simp only [hx5] at *; simp [g, *]) (by first | rfl | omega) (by omega) _ (lv_sub hl [0, 2, 3, 4, 5, 6] rfl)
        · skip
          refine lv_iload hC.1 hC.2.1 d_pc_closedFor_47 (lv_at hl 2 rfl) ?_
          refine lv_aload_n hC.1 hC.2.1 d_pc_closedFor_49 rfl (lv_at hl 3 rfl) ?_
          refine gf_pc_37 hC hw d_pc_closedFor_50 ?_
          refine lv_iload hC.1 hC.2.1 d_pc_closedFor_53 (lv_at hl 0 rfl) ?_
          refine ld_13 hC hw (by omega) (by omega) d_pc_closedFor_55 ?_
          have b_6 := iv_13 hI (((q * 4) + x5).toNat)
          refine lv_iload_n hC.1 hC.2.1 d_pc_closedFor_56 rfl (lv_at hl 5 rfl) ?_
          refine ir_sub hC.1 hC.2.1 d_pc_closedFor_57 ?_
          refine ir_max hC tw_450 tw_451 tw_11 tw_452 hl.1 (Nat.le_of_ble_eq_true rfl) (Nat.le_of_ble_eq_true rfl) (Nat.zero_le _) (Nat.zero_le _) ⟨by omega, by omega⟩ ⟨by omega, by omega⟩ d_pc_closedFor_58 ?_
          refine lv_istore (lv' := [(4, .int (iI (max x4 ((S 13 ((q * 4) + x5).toNat) - a)))), (6, .int (iI ((q * 4) + x5))), (5, .int (iI (x5))), (0, .ref (G.2.1 1)), (1, .int (iI (q))), (2, .int (iI (a))), (3, .int (iI (b)))]) hC.1 hC.2.1 d_pc_closedFor_61 hl (by decide) rfl (fun ls hl => ?_)
          refine lv_iinc (v := iI (x5 + 1)) (lv' := [(5, .int (iI (x5 + 1))), (4, .int (iI (max x4 ((S 13 ((q * 4) + x5).toNat) - a)))), (6, .int (iI ((q * 4) + x5))), (0, .ref (G.2.1 1)), (1, .int (iI (q))), (2, .int (iI (a))), (3, .int (iI (b)))]) hC.1 hC.2.1 d_pc_closedFor_63 hl (k := 2) rfl (iI_add _ _) (by decide) rfl (fun ls hl => ?_)
          refine lv_goto (tgt := 6) hC.1 hC.2.1 d_pc_closedFor_66 (by decide) ?_
          exact ih_6 (k + 1) _ _ (by omega) (by have g := clF_s S q a b k; simp only [hx5] at *; simp [g, *]) (by first | rfl | omega) (by omega) _ (lv_sub hl [0, 1, 3, 4, 5, 6] rfl)
  exact loop_6 _ 0 _ _ (Nat.lt_succ_self _) (by first | rfl | omega) (by first | rfl | omega) (by omega) _ (lv_sub hl [0, 1, 2, 3, 4, 5] rfl)
set_option maxHeartbeats 4000000 in
set_option maxRecDepth 100000 in
theorem c_cr_barByPiece (l : Launch) (G : Gt) (S : St) (row : Int) (i : Int) (hI : Inv S) (hrow : 0 ≤ row ∧ row ≤ 30) (hi : 0 ≤ i ∧ i < 7) : Met l y_cr_barByPiece [.code y_cr_barByPiece b_cr_barByPiece 6 (some .int)] { frames := 2, cells := 0, slots := 0, locals := 49 } (va_Pc [.ref (G.2.1 0), .int (iI (row)), .int (iI (i))] (fun U => wu G S U)) (qR (bPc S row i)) 0 0 (fun _ => False) := by
  refine mt_of (by decide +kernel) (Nat.le_of_ble_eq_true rfl) ?_
  intro p e s m below meth c ls hadm hC hr hlk hex hw hl
  have hC : CallFix p m c b_cr_barByPiece 6 s _ tws "ChannelRules" := hC
  have hl : lv_has ls 6 [(0, .ref (G.2.1 0)), (1, .int (iI (row))), (2, .int (iI (i)))] := hl
  refine lv_aload_n hC.1 hC.2.1 d_cr_barByPiece_0 rfl (lv_at hl 0 rfl) ?_
  refine lv_iload_n hC.1 hC.2.1 d_cr_barByPiece_1 rfl (lv_at hl 1 rfl) ?_
  refine lv_iload_n hC.1 hC.2.1 d_cr_barByPiece_2 rfl (lv_at hl 2 rfl) ?_
  refine go_R (ca_V (As := [.int (iI (row)), .int (iI (i))]) (rest := []) hC hw (c_cr_isAgainstOneWay l G S row i hI (by omega) (by omega)) (cv_cr_236 hC rfl rfl (Nat.le_of_ble_eq_true rfl) (Nat.le_of_ble_eq_true rfl)) (by decide) rfl rfl rfl hl.1 rfl (Nat.le_of_ble_eq_true rfl) d_cr_barByPiece_3 ⟨Nat.le_of_ble_eq_true rfl, Nat.le_of_ble_eq_true rfl⟩) ?_
  refine ir_beq (tgt := 11) hC d_cr_barByPiece_6 (by decide) (fun c_1 => ?_) (fun c_1 => ?_)
  · skip
    refine lv_aload_n hC.1 hC.2.1 d_cr_barByPiece_11 rfl (lv_at hl 0 rfl) ?_
    refine lv_iload_n hC.1 hC.2.1 d_cr_barByPiece_12 rfl (lv_at hl 1 rfl) ?_
    refine lv_iload_n hC.1 hC.2.1 d_cr_barByPiece_13 rfl (lv_at hl 2 rfl) ?_
    refine go_R (ca_V (As := [.int (iI (row)), .int (iI (i))]) (rest := []) hC hw (c_cr_isBarredAtNight l G S row i hI (by omega) (by omega)) (cv_cr_239 hC rfl rfl (Nat.le_of_ble_eq_true rfl) (Nat.le_of_ble_eq_true rfl)) (by decide) rfl rfl rfl hl.1 rfl (Nat.le_of_ble_eq_true rfl) d_cr_barByPiece_14 ⟨Nat.le_of_ble_eq_true rfl, Nat.le_of_ble_eq_true rfl⟩) ?_
    refine ir_beq (tgt := 22) hC d_cr_barByPiece_17 (by decide) (fun c_2 => ?_) (fun c_2 => ?_)
    · skip
      refine lv_aload_n hC.1 hC.2.1 d_cr_barByPiece_22 rfl (lv_at hl 0 rfl) ?_
      refine lv_iload_n hC.1 hC.2.1 d_cr_barByPiece_23 rfl (lv_at hl 1 rfl) ?_
      refine lv_iload_n hC.1 hC.2.1 d_cr_barByPiece_24 rfl (lv_at hl 2 rfl) ?_
      refine go_R (ca_V (As := [.int (iI (row)), .int (iI (i))]) (rest := []) hC hw (c_cr_isBarredInWind l G S row i hI (by omega) (by omega)) (cv_cr_242 hC rfl rfl (Nat.le_of_ble_eq_true rfl) (Nat.le_of_ble_eq_true rfl)) (by decide) rfl rfl rfl hl.1 rfl (Nat.le_of_ble_eq_true rfl) d_cr_barByPiece_25 ⟨Nat.le_of_ble_eq_true rfl, Nat.le_of_ble_eq_true rfl⟩) ?_
      refine ir_beq (tgt := 33) hC d_cr_barByPiece_28 (by decide) (fun c_3 => ?_) (fun c_3 => ?_)
      · skip
        refine lv_aload_n hC.1 hC.2.1 d_cr_barByPiece_33 rfl (lv_at hl 0 rfl) ?_
        refine gf_cr_26 hC hw d_cr_barByPiece_34 ?_
        refine lv_iload_n hC.1 hC.2.1 d_cr_barByPiece_37 rfl (lv_at hl 1 rfl) ?_
        refine lv_iload_n hC.1 hC.2.1 d_cr_barByPiece_38 rfl (lv_at hl 2 rfl) ?_
        refine go_R (ca_V (As := [.int (iI (row)), .int (iI (i))]) (rest := []) hC hw (c_ps_entersAt l G S row i hI (by omega) (by omega)) (cv_cr_169 hC rfl rfl (Nat.le_of_ble_eq_true rfl) (Nat.le_of_ble_eq_true rfl)) (by decide) rfl rfl rfl hl.1 rfl (Nat.le_of_ble_eq_true rfl) d_cr_barByPiece_39 ⟨Nat.le_of_ble_eq_true rfl, Nat.le_of_ble_eq_true rfl⟩) ?_
        have r_4 := enA_b hI row i
        refine lv_istore_n (lv' := [(3, .int (iI (enA S row i))), (0, .ref (G.2.1 0)), (1, .int (iI (row))), (2, .int (iI (i)))]) hC.1 hC.2.1 d_cr_barByPiece_42 rfl hl (by decide) rfl (fun ls hl => ?_)
        refine lv_aload_n hC.1 hC.2.1 d_cr_barByPiece_43 rfl (lv_at hl 1 rfl) ?_
        refine gf_cr_26 hC hw d_cr_barByPiece_44 ?_
        refine lv_iload_n hC.1 hC.2.1 d_cr_barByPiece_47 rfl (lv_at hl 2 rfl) ?_
        refine lv_iload_n hC.1 hC.2.1 d_cr_barByPiece_48 rfl (lv_at hl 3 rfl) ?_
        refine go_R (ca_V (As := [.int (iI (row)), .int (iI (i))]) (rest := []) hC hw (c_ps_leavesAt l G S row i hI (by omega) (by omega)) (cv_cr_172 hC rfl rfl (Nat.le_of_ble_eq_true rfl) (Nat.le_of_ble_eq_true rfl)) (by decide) rfl rfl rfl hl.1 rfl (Nat.le_of_ble_eq_true rfl) d_cr_barByPiece_49 ⟨Nat.le_of_ble_eq_true rfl, Nat.le_of_ble_eq_true rfl⟩) ?_
        have r_5 := lvA_b hI row i
        refine lv_istore (lv' := [(4, .int (iI (lvA S row i))), (3, .int (iI (enA S row i))), (0, .ref (G.2.1 0)), (1, .int (iI (row))), (2, .int (iI (i)))]) hC.1 hC.2.1 d_cr_barByPiece_52 hl (by decide) rfl (fun ls hl => ?_)
        refine lv_aload_n hC.1 hC.2.1 d_cr_barByPiece_54 rfl (lv_at hl 2 rfl) ?_
        refine gf_cr_12 hC hw d_cr_barByPiece_55 ?_
        refine lv_aload_n hC.1 hC.2.1 d_cr_barByPiece_58 rfl (lv_at hl 2 rfl) ?_
        refine gf_cr_26 hC hw d_cr_barByPiece_59 ?_
        refine lv_iload_n hC.1 hC.2.1 d_cr_barByPiece_62 rfl (lv_at hl 3 rfl) ?_
        refine lv_iload_n hC.1 hC.2.1 d_cr_barByPiece_63 rfl (lv_at hl 4 rfl) ?_
        refine go_R (ca_V (As := [.int (iI (row)), .int (iI (i))]) (rest := [.ref (G.2.1 1)]) hC hw (c_ps_pieceOf l G S row i hI (by omega) (by omega)) (cv_cr_100 hC rfl rfl (Nat.le_of_ble_eq_true rfl) (Nat.le_of_ble_eq_true rfl)) (by decide) rfl rfl rfl hl.1 rfl (Nat.le_of_ble_eq_true rfl) d_cr_barByPiece_64 ⟨Nat.le_of_ble_eq_true rfl, Nat.le_of_ble_eq_true rfl⟩) ?_
        have r_6 := pOf_b hI row i
        refine lv_iload_n hC.1 hC.2.1 d_cr_barByPiece_67 rfl (lv_at hl 1 rfl) ?_
        refine lv_iload hC.1 hC.2.1 d_cr_barByPiece_68 (lv_at hl 0 rfl) ?_
        refine go_R (ca_V (As := [.int (iI (pOf S row i)), .int (iI (enA S row i)), .int (iI (lvA S row i))]) (rest := []) hC hw (c_pc_closedFor l G S (pOf S row i) (enA S row i) (lvA S row i) hI (by omega) (by omega) (by omega)) (cv_cr_245 hC rfl rfl (Nat.le_of_ble_eq_true rfl) (Nat.le_of_ble_eq_true rfl)) (by decide) rfl rfl rfl hl.1 rfl (Nat.le_of_ble_eq_true rfl) d_cr_barByPiece_70 ⟨Nat.le_of_ble_eq_true rfl, Nat.le_of_ble_eq_true rfl⟩) ?_
        have r_7 := clF_b hI (pOf S row i) (enA S row i) (lvA S row i) (S 11 (pOf S row i).toNat).toNat
        refine lv_istore (lv' := [(5, .int (iI (clF S (pOf S row i) (enA S row i) (lvA S row i) (S 11 (pOf S row i).toNat).toNat))), (4, .int (iI (lvA S row i))), (3, .int (iI (enA S row i))), (0, .ref (G.2.1 0)), (1, .int (iI (row))), (2, .int (iI (i)))]) hC.1 hC.2.1 d_cr_barByPiece_73 hl (by decide) rfl (fun ls hl => ?_)
        refine lv_iload hC.1 hC.2.1 d_cr_barByPiece_75 (lv_at hl 0 rfl) ?_
        refine ir_if_le (tgt := 84) hC.1 hC.2.1 d_cr_barByPiece_77 (by decide) ⟨by omega, by omega⟩ (fun c_8 => ?_) (fun c_8 => ?_)
        · skip
          refine lv_iconst (v := iI 0) hC.1 hC.2.1 d_cr_barByPiece_84 rfl ?_
          exact rt_R hC hr hlk (by first | rfl | (simp [bPc, c_1, c_2, c_3, c_8]; done) | (simp [bPc, c_1, c_2, c_3, c_8]; omega) | (simp [bPc, c_1, c_2, c_3, c_8] <;> split <;> omega) | omega) d_cr_barByPiece_85
        · skip
          refine lv_iconst (v := iI 4) hC.1 hC.2.1 d_cr_barByPiece_80 rfl ?_
          refine lv_goto (tgt := 85) hC.1 hC.2.1 d_cr_barByPiece_81 (by decide) ?_
          exact rt_R hC hr hlk (by first | rfl | (simp [bPc, c_1, c_2, c_3, c_8]; done) | (simp [bPc, c_1, c_2, c_3, c_8]; omega) | (simp [bPc, c_1, c_2, c_3, c_8] <;> split <;> omega) | omega) d_cr_barByPiece_85
      · skip
        refine lv_iconst (v := iI 3) hC.1 hC.2.1 d_cr_barByPiece_31 rfl ?_
        exact rt_R hC hr hlk (by first | rfl | (simp [bPc, c_1, c_2, c_3]; done) | (simp [bPc, c_1, c_2, c_3]; omega) | (simp [bPc, c_1, c_2, c_3] <;> split <;> omega) | omega) d_cr_barByPiece_32
    · skip
      refine lv_iconst (v := iI 2) hC.1 hC.2.1 d_cr_barByPiece_20 rfl ?_
      exact rt_R hC hr hlk (by first | rfl | (simp [bPc, c_1, c_2]; done) | (simp [bPc, c_1, c_2]; omega) | (simp [bPc, c_1, c_2] <;> split <;> omega) | omega) d_cr_barByPiece_21
  · skip
    refine lv_iconst (v := iI 1) hC.1 hC.2.1 d_cr_barByPiece_9 rfl ?_
    exact rt_R hC hr hlk (by first | rfl | (simp [bPc, c_1]; done) | (simp [bPc, c_1]; omega) | (simp [bPc, c_1] <;> split <;> omega) | omega) d_cr_barByPiece_10
set_option maxHeartbeats 4000000 in
set_option maxRecDepth 100000 in
theorem c_cr_conflictWith (l : Launch) (G : Gt) (S : St) (k : Int) (row : Int) (i : Int) (hI : Inv S) (hk : 0 ≤ k ∧ k ≤ 30) (hrow : 0 ≤ row ∧ row ≤ 30) (hi : 0 ≤ i ∧ i < 7) : Met l y_cr_conflictWith [.code y_cr_conflictWith b_cr_conflictWith 10 (some .int)] { frames := 2, cells := 0, slots := 0, locals := 50 } (va_Pc [.ref (G.2.1 0), .int (iI (k)), .int (iI (row)), .int (iI (i))] (fun U => wu G S U)) (qR (cfw S k row i)) 0 0 (fun _ => False) := by
  refine mt_of (by decide +kernel) (Nat.le_of_ble_eq_true rfl) ?_
  intro p e s m below meth c ls hadm hC hr hlk hex hw hl
  have hC : CallFix p m c b_cr_conflictWith 10 s _ tws "ChannelRules" := hC
  have hl : lv_has ls 10 [(0, .ref (G.2.1 0)), (1, .int (iI (k))), (2, .int (iI (row))), (3, .int (iI (i)))] := hl
  refine lv_aload_n hC.1 hC.2.1 d_cr_conflictWith_0 rfl (lv_at hl 0 rfl) ?_
  refine gf_cr_26 hC hw d_cr_conflictWith_1 ?_
  refine lv_iload_n hC.1 hC.2.1 d_cr_conflictWith_4 rfl (lv_at hl 2 rfl) ?_
  refine lv_iload_n hC.1 hC.2.1 d_cr_conflictWith_5 rfl (lv_at hl 3 rfl) ?_
  refine go_R (ca_V (As := [.int (iI (row)), .int (iI (i))]) (rest := []) hC hw (c_ps_pieceOf l G S row i hI (by omega) (by omega)) (cv_cr_100 hC rfl rfl (Nat.le_of_ble_eq_true rfl) (Nat.le_of_ble_eq_true rfl)) (by decide) rfl rfl rfl hl.1 rfl (Nat.le_of_ble_eq_true rfl) d_cr_conflictWith_6 ⟨Nat.le_of_ble_eq_true rfl, Nat.le_of_ble_eq_true rfl⟩) ?_
  have r_1 := pOf_b hI row i
  refine lv_istore (lv' := [(4, .int (iI (pOf S row i))), (0, .ref (G.2.1 0)), (1, .int (iI (k))), (2, .int (iI (row))), (3, .int (iI (i)))]) hC.1 hC.2.1 d_cr_conflictWith_9 hl (by decide) rfl (fun ls hl => ?_)
  refine lv_aload_n hC.1 hC.2.1 d_cr_conflictWith_11 rfl (lv_at hl 1 rfl) ?_
  refine gf_cr_26 hC hw d_cr_conflictWith_12 ?_
  refine lv_iload_n hC.1 hC.2.1 d_cr_conflictWith_15 rfl (lv_at hl 2 rfl) ?_
  refine lv_iload hC.1 hC.2.1 d_cr_conflictWith_16 (lv_at hl 0 rfl) ?_
  refine go_R (ca_V (As := [.int (iI (k)), .int (iI (pOf S row i))]) (rest := []) hC hw (c_ps_stayOn l G S k (pOf S row i) hI (by omega) (by omega)) (cv_cr_260 hC rfl rfl (Nat.le_of_ble_eq_true rfl) (Nat.le_of_ble_eq_true rfl)) (by decide) rfl rfl rfl hl.1 rfl (Nat.le_of_ble_eq_true rfl) d_cr_conflictWith_18 ⟨Nat.le_of_ble_eq_true rfl, Nat.le_of_ble_eq_true rfl⟩) ?_
  have r_2 := stO_b hI k (pOf S row i)
  refine lv_istore (lv' := [(5, .int (iI (stO S k (pOf S row i)))), (4, .int (iI (pOf S row i))), (0, .ref (G.2.1 0)), (1, .int (iI (k))), (2, .int (iI (row))), (3, .int (iI (i)))]) hC.1 hC.2.1 d_cr_conflictWith_21 hl (by decide) rfl (fun ls hl => ?_)
  refine lv_iload hC.1 hC.2.1 d_cr_conflictWith_23 (lv_at hl 0 rfl) ?_
  refine lv_iconst (v := iI (-1)) hC.1 hC.2.1 d_cr_conflictWith_25 rfl ?_
  refine ir_eq (tgt := 73) hC.1 hC.2.1 d_cr_conflictWith_26 (by decide) ⟨by omega, by omega⟩ (by decide) (fun c_3 => ?_) (fun c_3 => ?_)
  · skip
    refine lv_iconst (v := iI 0) hC.1 hC.2.1 d_cr_conflictWith_73 rfl ?_
    exact rt_R hC hr hlk (by first | rfl | (simp [cfw, c_3]; done) | (simp [cfw, c_3]; omega) | (simp [cfw, c_3] <;> split <;> omega) | omega) d_cr_conflictWith_74
  · skip
    refine lv_aload_n hC.1 hC.2.1 d_cr_conflictWith_29 rfl (lv_at hl 2 rfl) ?_
    refine gf_cr_26 hC hw d_cr_conflictWith_30 ?_
    refine lv_iload_n hC.1 hC.2.1 d_cr_conflictWith_33 rfl (lv_at hl 4 rfl) ?_
    refine lv_iload_n hC.1 hC.2.1 d_cr_conflictWith_34 rfl (lv_at hl 5 rfl) ?_
    refine go_R (ca_V (As := [.int (iI (row)), .int (iI (i))]) (rest := []) hC hw (c_ps_entersAt l G S row i hI (by omega) (by omega)) (cv_cr_169 hC rfl rfl (Nat.le_of_ble_eq_true rfl) (Nat.le_of_ble_eq_true rfl)) (by decide) rfl rfl rfl hl.1 rfl (Nat.le_of_ble_eq_true rfl) d_cr_conflictWith_35 ⟨Nat.le_of_ble_eq_true rfl, Nat.le_of_ble_eq_true rfl⟩) ?_
    have r_4 := enA_b hI row i
    refine lv_aload_n hC.1 hC.2.1 d_cr_conflictWith_38 rfl (lv_at hl 2 rfl) ?_
    refine gf_cr_26 hC hw d_cr_conflictWith_39 ?_
    refine lv_iload_n hC.1 hC.2.1 d_cr_conflictWith_42 rfl (lv_at hl 4 rfl) ?_
    refine lv_iload_n hC.1 hC.2.1 d_cr_conflictWith_43 rfl (lv_at hl 5 rfl) ?_
    refine go_R (ca_V (As := [.int (iI (row)), .int (iI (i))]) (rest := [.int (iI (enA S row i))]) hC hw (c_ps_leavesAt l G S row i hI (by omega) (by omega)) (cv_cr_172 hC rfl rfl (Nat.le_of_ble_eq_true rfl) (Nat.le_of_ble_eq_true rfl)) (by decide) rfl rfl rfl hl.1 rfl (Nat.le_of_ble_eq_true rfl) d_cr_conflictWith_44 ⟨Nat.le_of_ble_eq_true rfl, Nat.le_of_ble_eq_true rfl⟩) ?_
    have r_5 := lvA_b hI row i
    refine lv_aload_n hC.1 hC.2.1 d_cr_conflictWith_47 rfl (lv_at hl 2 rfl) ?_
    refine gf_cr_26 hC hw d_cr_conflictWith_48 ?_
    refine lv_iload_n hC.1 hC.2.1 d_cr_conflictWith_51 rfl (lv_at hl 3 rfl) ?_
    refine lv_iload hC.1 hC.2.1 d_cr_conflictWith_52 (lv_at hl 0 rfl) ?_
    refine go_R (ca_V (As := [.int (iI (k)), .int (iI (stO S k (pOf S row i)))]) (rest := [.int (iI (lvA S row i)), .int (iI (enA S row i))]) hC hw (c_ps_entersAt l G S k (stO S k (pOf S row i)) hI (by omega) (by omega)) (cv_cr_169 hC rfl rfl (Nat.le_of_ble_eq_true rfl) (Nat.le_of_ble_eq_true rfl)) (by decide) rfl rfl rfl hl.1 rfl (Nat.le_of_ble_eq_true rfl) d_cr_conflictWith_54 ⟨Nat.le_of_ble_eq_true rfl, Nat.le_of_ble_eq_true rfl⟩) ?_
    have r_6 := enA_b hI k (stO S k (pOf S row i))
    refine lv_aload_n hC.1 hC.2.1 d_cr_conflictWith_57 rfl (lv_at hl 2 rfl) ?_
    refine gf_cr_26 hC hw d_cr_conflictWith_58 ?_
    refine lv_iload_n hC.1 hC.2.1 d_cr_conflictWith_61 rfl (lv_at hl 3 rfl) ?_
    refine lv_iload hC.1 hC.2.1 d_cr_conflictWith_62 (lv_at hl 0 rfl) ?_
    refine go_R (ca_V (As := [.int (iI (k)), .int (iI (stO S k (pOf S row i)))]) (rest := [.int (iI (enA S k (stO S k (pOf S row i)))), .int (iI (lvA S row i)), .int (iI (enA S row i))]) hC hw (c_ps_leavesAt l G S k (stO S k (pOf S row i)) hI (by omega) (by omega)) (cv_cr_172 hC rfl rfl (Nat.le_of_ble_eq_true rfl) (Nat.le_of_ble_eq_true rfl)) (by decide) rfl rfl rfl hl.1 rfl (Nat.le_of_ble_eq_true rfl) d_cr_conflictWith_64 ⟨Nat.le_of_ble_eq_true rfl, Nat.le_of_ble_eq_true rfl⟩) ?_
    have r_7 := lvA_b hI k (stO S k (pOf S row i))
    refine go_R (ca_S (As := [.int (iI (enA S row i)), .int (iI (lvA S row i)), .int (iI (enA S k (stO S k (pOf S row i)))), .int (iI (lvA S k (stO S k (pOf S row i))))]) (rest := []) hC hw (c_cr_shareMinute l G S (enA S row i) (lvA S row i) (enA S k (stO S k (pOf S row i))) (lvA S k (stO S k (pOf S row i))) (by omega) (by omega) (by omega) (by omega)) (cv_cr_263 hC rfl rfl (Nat.le_of_ble_eq_true rfl) (Nat.le_of_ble_eq_true rfl)) rfl hl.1 rfl (Nat.le_of_ble_eq_true rfl) d_cr_conflictWith_67 ⟨Nat.le_of_ble_eq_true rfl, Nat.le_of_ble_eq_true rfl⟩) ?_
    refine ir_bne (tgt := 75) hC d_cr_conflictWith_70 (by decide) (fun c_8 => ?_) (fun c_8 => ?_)
    · skip
      refine lv_aload_n hC.1 hC.2.1 d_cr_conflictWith_75 rfl (lv_at hl 2 rfl) ?_
      refine gf_cr_26 hC hw d_cr_conflictWith_76 ?_
      refine gf_cr_254 hC hw d_cr_conflictWith_79 ?_
      refine lv_iload_n hC.1 hC.2.1 d_cr_conflictWith_82 rfl (lv_at hl 4 rfl) ?_
      refine ld_18 hC hw (by omega) (by omega) d_cr_conflictWith_83 ?_
      have b_9 := iv_18 hI row.toNat
      refine lv_istore (lv' := [(6, .int (iI (S 18 row.toNat))), (5, .int (iI (stO S k (pOf S row i)))), (4, .int (iI (pOf S row i))), (0, .ref (G.2.1 0)), (1, .int (iI (k))), (2, .int (iI (row))), (3, .int (iI (i)))]) hC.1 hC.2.1 d_cr_conflictWith_84 hl (by decide) rfl (fun ls hl => ?_)
      refine lv_aload_n hC.1 hC.2.1 d_cr_conflictWith_86 rfl (lv_at hl 3 rfl) ?_
      refine gf_cr_26 hC hw d_cr_conflictWith_87 ?_
      refine gf_cr_254 hC hw d_cr_conflictWith_90 ?_
      refine lv_iload_n hC.1 hC.2.1 d_cr_conflictWith_93 rfl (lv_at hl 4 rfl) ?_
      refine ld_18 hC hw (by omega) (by omega) d_cr_conflictWith_94 ?_
      have b_10 := iv_18 hI k.toNat
      refine lv_istore (lv' := [(7, .int (iI (S 18 k.toNat))), (6, .int (iI (S 18 row.toNat))), (5, .int (iI (stO S k (pOf S row i)))), (4, .int (iI (pOf S row i))), (0, .ref (G.2.1 0)), (1, .int (iI (k))), (2, .int (iI (row))), (3, .int (iI (i)))]) hC.1 hC.2.1 d_cr_conflictWith_95 hl (by decide) rfl (fun ls hl => ?_)
      refine lv_aload_n hC.1 hC.2.1 d_cr_conflictWith_97 rfl (lv_at hl 4 rfl) ?_
      refine gf_cr_19 hC hw d_cr_conflictWith_98 ?_
      refine gf_cr_251 hC hw d_cr_conflictWith_101 ?_
      refine lv_iload hC.1 hC.2.1 d_cr_conflictWith_104 (lv_at hl 1 rfl) ?_
      refine ld_16 hC hw (by omega) (by omega) d_cr_conflictWith_106 ?_
      have b_11 := iv_16 hI ((S 18 row.toNat).toNat)
      refine lv_iconst (v := iI 2) hC.1 hC.2.1 d_cr_conflictWith_107 rfl ?_
      refine ir_eq (tgt := 125) hC.1 hC.2.1 d_cr_conflictWith_108 (by decide) ⟨by omega, by omega⟩ (by decide) (fun c_12 => ?_) (fun c_12 => ?_)
      · skip
        refine lv_iconst (v := iI 5) hC.1 hC.2.1 d_cr_conflictWith_125 rfl ?_
        exact rt_R hC hr hlk (by first | rfl | (simp [cfw, c_3, c_8, c_12]; done) | (simp [cfw, c_3, c_8, c_12]; omega) | (simp [cfw, c_3, c_8, c_12] <;> split <;> omega) | omega) d_cr_conflictWith_126
      · skip
        refine lv_aload_n hC.1 hC.2.1 d_cr_conflictWith_111 rfl (lv_at hl 4 rfl) ?_
        refine gf_cr_19 hC hw d_cr_conflictWith_112 ?_
        refine gf_cr_251 hC hw d_cr_conflictWith_115 ?_
        refine lv_iload hC.1 hC.2.1 d_cr_conflictWith_118 (lv_at hl 0 rfl) ?_
        refine ld_16 hC hw (by omega) (by omega) d_cr_conflictWith_120 ?_
        have b_13 := iv_16 hI ((S 18 k.toNat).toNat)
        refine lv_iconst (v := iI 2) hC.1 hC.2.1 d_cr_conflictWith_121 rfl ?_
        refine ir_ne (tgt := 127) hC.1 hC.2.1 d_cr_conflictWith_122 (by decide) ⟨by omega, by omega⟩ (by decide) (fun c_14 => ?_) (fun c_14 => ?_)
        · skip
          refine lv_aload_n hC.1 hC.2.1 d_cr_conflictWith_127 rfl (lv_at hl 4 rfl) ?_
          refine gf_cr_19 hC hw d_cr_conflictWith_128 ?_
          refine gf_cr_223 hC hw d_cr_conflictWith_131 ?_
          refine lv_iload hC.1 hC.2.1 d_cr_conflictWith_134 (lv_at hl 1 rfl) ?_
          refine ld_14 hC hw (by omega) (by omega) d_cr_conflictWith_136 ?_
          have b_15 := iv_14 hI ((S 18 row.toNat).toNat)
          refine lv_aload_n hC.1 hC.2.1 d_cr_conflictWith_137 rfl (lv_at hl 4 rfl) ?_
          refine gf_cr_19 hC hw d_cr_conflictWith_138 ?_
          refine gf_cr_223 hC hw d_cr_conflictWith_141 ?_
          refine lv_iload hC.1 hC.2.1 d_cr_conflictWith_144 (lv_at hl 0 rfl) ?_
          refine ld_14 hC hw (by omega) (by omega) d_cr_conflictWith_146 ?_
          have b_16 := iv_14 hI ((S 18 k.toNat).toNat)
          refine ir_add hC.1 hC.2.1 d_cr_conflictWith_147 ?_
          refine lv_aload_n hC.1 hC.2.1 d_cr_conflictWith_148 rfl (lv_at hl 4 rfl) ?_
          refine gf_cr_12 hC hw d_cr_conflictWith_149 ?_
          refine gf_cr_220 hC hw d_cr_conflictWith_152 ?_
          refine lv_iload hC.1 hC.2.1 d_cr_conflictWith_155 (lv_at hl 3 rfl) ?_
          refine ld_9 hC hw (by omega) (by omega) d_cr_conflictWith_157 ?_
          have b_17 := iv_9 hI ((pOf S row i).toNat)
          refine ir_le (tgt := 165) hC.1 hC.2.1 d_cr_conflictWith_158 (by decide) ⟨by omega, by omega⟩ ⟨by omega, by omega⟩ (fun c_18 => ?_) (fun c_18 => ?_)
          · skip
            refine lv_iconst (v := iI 0) hC.1 hC.2.1 d_cr_conflictWith_165 rfl ?_
            refine lv_istore (lv' := [(8, .int (iI (0))), (7, .int (iI (S 18 k.toNat))), (6, .int (iI (S 18 row.toNat))), (5, .int (iI (stO S k (pOf S row i)))), (4, .int (iI (pOf S row i))), (0, .ref (G.2.1 0)), (1, .int (iI (k))), (2, .int (iI (row))), (3, .int (iI (i)))]) hC.1 hC.2.1 d_cr_conflictWith_166 hl (by decide) rfl (fun ls hl => ?_)
            refine lv_aload_n hC.1 hC.2.1 d_cr_conflictWith_168 rfl (lv_at hl 5 rfl) ?_
            refine gf_cr_26 hC hw d_cr_conflictWith_169 ?_
            refine lv_iload_n hC.1 hC.2.1 d_cr_conflictWith_172 rfl (lv_at hl 7 rfl) ?_
            refine lv_iload_n hC.1 hC.2.1 d_cr_conflictWith_173 rfl (lv_at hl 8 rfl) ?_
            refine go_R (ca_V (As := [.int (iI (row)), .int (iI (i))]) (rest := []) hC hw (c_ps_isForward l G S row i hI (by omega) (by omega)) (cv_cr_175 hC rfl rfl (Nat.le_of_ble_eq_true rfl) (Nat.le_of_ble_eq_true rfl)) (by decide) rfl rfl rfl hl.1 rfl (Nat.le_of_ble_eq_true rfl) d_cr_conflictWith_174 ⟨Nat.le_of_ble_eq_true rfl, Nat.le_of_ble_eq_true rfl⟩) ?_
            have r_19 := fOf_b hI row i
            refine lv_aload_n hC.1 hC.2.1 d_cr_conflictWith_177 rfl (lv_at hl 5 rfl) ?_
            refine gf_cr_26 hC hw d_cr_conflictWith_178 ?_
            refine lv_iload_n hC.1 hC.2.1 d_cr_conflictWith_181 rfl (lv_at hl 6 rfl) ?_
            refine lv_iload hC.1 hC.2.1 d_cr_conflictWith_182 (lv_at hl 3 rfl) ?_
            refine go_R (ca_V (As := [.int (iI (k)), .int (iI (stO S k (pOf S row i)))]) (rest := [.int (iI (fOf S row i))]) hC hw (c_ps_isForward l G S k (stO S k (pOf S row i)) hI (by omega) (by omega)) (cv_cr_175 hC rfl rfl (Nat.le_of_ble_eq_true rfl) (Nat.le_of_ble_eq_true rfl)) (by decide) rfl rfl rfl hl.1 rfl (Nat.le_of_ble_eq_true rfl) d_cr_conflictWith_184 ⟨Nat.le_of_ble_eq_true rfl, Nat.le_of_ble_eq_true rfl⟩) ?_
            have r_20 := fOf_b hI k (stO S k (pOf S row i))
            refine ir_eq (tgt := 228) hC.1 hC.2.1 d_cr_conflictWith_187 (by decide) ⟨by omega, by omega⟩ ⟨by omega, by omega⟩ (fun c_21 => ?_) (fun c_21 => ?_)
            · skip
              refine lv_aload_n hC.1 hC.2.1 d_cr_conflictWith_228 rfl (lv_at hl 5 rfl) ?_
              refine gf_cr_12 hC hw d_cr_conflictWith_229 ?_
              refine lv_iload hC.1 hC.2.1 d_cr_conflictWith_232 (lv_at hl 4 rfl) ?_
              refine lv_iconst (v := iI 4) hC.1 hC.2.1 d_cr_conflictWith_234 rfl ?_
              refine go_R (ca_V (As := [.int (iI (pOf S row i)), .int (iI (4))]) (rest := []) hC hw (c_pc_ruleOf l G S (pOf S row i) 4 hI (by omega) (by omega)) (cv_cr_248 hC rfl rfl (Nat.le_of_ble_eq_true rfl) (Nat.le_of_ble_eq_true rfl)) (by decide) rfl rfl rfl hl.1 rfl (Nat.le_of_ble_eq_true rfl) d_cr_conflictWith_235 ⟨Nat.le_of_ble_eq_true rfl, Nat.le_of_ble_eq_true rfl⟩) ?_
              have r_22 := rOf_b hI (pOf S row i) 4
              refine lv_iconst (v := iI 1) hC.1 hC.2.1 d_cr_conflictWith_238 rfl ?_
              refine ir_ne (tgt := 246) hC.1 hC.2.1 d_cr_conflictWith_239 (by decide) ⟨by omega, by omega⟩ (by decide) (fun c_23 => ?_) (fun c_23 => ?_)
              · skip
                refine lv_iconst (v := iI 0) hC.1 hC.2.1 d_cr_conflictWith_246 rfl ?_
                refine lv_istore (lv' := [(9, .int (iI (0))), (8, .int (iI (0))), (7, .int (iI (S 18 k.toNat))), (6, .int (iI (S 18 row.toNat))), (5, .int (iI (stO S k (pOf S row i)))), (4, .int (iI (pOf S row i))), (0, .ref (G.2.1 0)), (1, .int (iI (k))), (2, .int (iI (row))), (3, .int (iI (i)))]) hC.1 hC.2.1 d_cr_conflictWith_247 hl (by decide) rfl (fun ls hl => ?_)
                refine lv_aload_n hC.1 hC.2.1 d_cr_conflictWith_249 rfl (lv_at hl 6 rfl) ?_
                refine gf_cr_26 hC hw d_cr_conflictWith_250 ?_
                refine lv_iload_n hC.1 hC.2.1 d_cr_conflictWith_253 rfl (lv_at hl 8 rfl) ?_
                refine lv_iload_n hC.1 hC.2.1 d_cr_conflictWith_254 rfl (lv_at hl 9 rfl) ?_
                refine lv_iload_n hC.1 hC.2.1 d_cr_conflictWith_255 rfl (lv_at hl 7 rfl) ?_
                refine lv_iload hC.1 hC.2.1 d_cr_conflictWith_256 (lv_at hl 4 rfl) ?_
                refine go_R (ca_V (As := [.int (iI (row)), .int (iI (i)), .int (iI (k)), .int (iI (stO S k (pOf S row i)))]) (rest := []) hC hw (c_ps_isOvertaking l G S row i k (stO S k (pOf S row i)) hI (by omega) (by omega) (by omega) (by omega)) (cv_cr_267 hC rfl rfl (Nat.le_of_ble_eq_true rfl) (Nat.le_of_ble_eq_true rfl)) (by decide) rfl rfl rfl hl.1 rfl (Nat.le_of_ble_eq_true rfl) d_cr_conflictWith_258 ⟨Nat.le_of_ble_eq_true rfl, Nat.le_of_ble_eq_true rfl⟩) ?_
                refine ir_beq (tgt := 279) hC d_cr_conflictWith_261 (by decide) (fun c_24 => ?_) (fun c_24 => ?_)
                · skip
                  refine lv_iconst (v := iI 0) hC.1 hC.2.1 d_cr_conflictWith_279 rfl ?_
                  exact rt_R hC hr hlk (by first | rfl | (simp [cfw, c_3, c_8, c_12, c_14, c_18, c_21, c_23, c_24]; done) | (simp [cfw, c_3, c_8, c_12, c_14, c_18, c_21, c_23, c_24]; omega) | (simp [cfw, c_3, c_8, c_12, c_14, c_18, c_21, c_23, c_24] <;> split <;> omega) | omega) d_cr_conflictWith_280
                · skip
                  refine lv_iload hC.1 hC.2.1 d_cr_conflictWith_264 (lv_at hl 0 rfl) ?_
                  refine ir_if_eq (tgt := 274) hC.1 hC.2.1 d_cr_conflictWith_266 (by decide) (by decide) (fun c_25 => ?_) (fun c_25 => ?_)
                  · skip
                    refine lv_bipush (v := iI 7) hC.1 hC.2.1 d_cr_conflictWith_274 (by decide +kernel) ?_
                    refine lv_goto (tgt := 280) hC.1 hC.2.1 d_cr_conflictWith_276 (by decide) ?_
                    exact rt_R hC hr hlk (by first | rfl | (simp [cfw, c_3, c_8, c_12, c_14, c_18, c_21, c_23, c_24]; done) | (simp [cfw, c_3, c_8, c_12, c_14, c_18, c_21, c_23, c_24]; omega) | (simp [cfw, c_3, c_8, c_12, c_14, c_18, c_21, c_23, c_24] <;> split <;> omega) | omega) d_cr_conflictWith_280
                  · exact absurd c_25 (by decide)
              · skip
                refine lv_iconst (v := iI 1) hC.1 hC.2.1 d_cr_conflictWith_242 rfl ?_
                refine lv_goto (tgt := 247) hC.1 hC.2.1 d_cr_conflictWith_243 (by decide) ?_
                refine lv_istore (lv' := [(9, .int (iI (1))), (8, .int (iI (0))), (7, .int (iI (S 18 k.toNat))), (6, .int (iI (S 18 row.toNat))), (5, .int (iI (stO S k (pOf S row i)))), (4, .int (iI (pOf S row i))), (0, .ref (G.2.1 0)), (1, .int (iI (k))), (2, .int (iI (row))), (3, .int (iI (i)))]) hC.1 hC.2.1 d_cr_conflictWith_247 hl (by decide) rfl (fun ls hl => ?_)
                refine lv_aload_n hC.1 hC.2.1 d_cr_conflictWith_249 rfl (lv_at hl 6 rfl) ?_
                refine gf_cr_26 hC hw d_cr_conflictWith_250 ?_
                refine lv_iload_n hC.1 hC.2.1 d_cr_conflictWith_253 rfl (lv_at hl 8 rfl) ?_
                refine lv_iload_n hC.1 hC.2.1 d_cr_conflictWith_254 rfl (lv_at hl 9 rfl) ?_
                refine lv_iload_n hC.1 hC.2.1 d_cr_conflictWith_255 rfl (lv_at hl 7 rfl) ?_
                refine lv_iload hC.1 hC.2.1 d_cr_conflictWith_256 (lv_at hl 4 rfl) ?_
                refine go_R (ca_V (As := [.int (iI (row)), .int (iI (i)), .int (iI (k)), .int (iI (stO S k (pOf S row i)))]) (rest := []) hC hw (c_ps_isOvertaking l G S row i k (stO S k (pOf S row i)) hI (by omega) (by omega) (by omega) (by omega)) (cv_cr_267 hC rfl rfl (Nat.le_of_ble_eq_true rfl) (Nat.le_of_ble_eq_true rfl)) (by decide) rfl rfl rfl hl.1 rfl (Nat.le_of_ble_eq_true rfl) d_cr_conflictWith_258 ⟨Nat.le_of_ble_eq_true rfl, Nat.le_of_ble_eq_true rfl⟩) ?_
                refine ir_beq (tgt := 279) hC d_cr_conflictWith_261 (by decide) (fun c_26 => ?_) (fun c_26 => ?_)
                · skip
                  refine lv_iconst (v := iI 0) hC.1 hC.2.1 d_cr_conflictWith_279 rfl ?_
                  exact rt_R hC hr hlk (by first | rfl | (simp [cfw, c_3, c_8, c_12, c_14, c_18, c_21, c_23, c_26]; done) | (simp [cfw, c_3, c_8, c_12, c_14, c_18, c_21, c_23, c_26]; omega) | (simp [cfw, c_3, c_8, c_12, c_14, c_18, c_21, c_23, c_26] <;> split <;> omega) | omega) d_cr_conflictWith_280
                · skip
                  refine lv_iload hC.1 hC.2.1 d_cr_conflictWith_264 (lv_at hl 0 rfl) ?_
                  refine ir_if_eq (tgt := 274) hC.1 hC.2.1 d_cr_conflictWith_266 (by decide) (by decide) (fun c_27 => ?_) (fun c_27 => ?_)
                  · exact absurd c_27 (by decide)
                  · skip
                    refine lv_iload hC.1 hC.2.1 d_cr_conflictWith_269 (lv_at hl 1 rfl) ?_
                    refine ir_if_eq (tgt := 279) hC.1 hC.2.1 d_cr_conflictWith_271 (by decide) (by decide) (fun c_28 => ?_) (fun c_28 => ?_)
                    · skip
                      refine lv_iconst (v := iI 0) hC.1 hC.2.1 d_cr_conflictWith_279 rfl ?_
                      exact rt_R hC hr hlk (by first | rfl | (simp [cfw, c_3, c_8, c_12, c_14, c_18, c_21, c_23, c_26]; done) | (simp [cfw, c_3, c_8, c_12, c_14, c_18, c_21, c_23, c_26]; omega) | (simp [cfw, c_3, c_8, c_12, c_14, c_18, c_21, c_23, c_26] <;> split <;> omega) | omega) d_cr_conflictWith_280
                    · exact absurd c_28 (by decide)
            · skip
              refine lv_aload_n hC.1 hC.2.1 d_cr_conflictWith_190 rfl (lv_at hl 5 rfl) ?_
              refine gf_cr_12 hC hw d_cr_conflictWith_191 ?_
              refine lv_iload hC.1 hC.2.1 d_cr_conflictWith_194 (lv_at hl 4 rfl) ?_
              refine lv_iconst (v := iI 3) hC.1 hC.2.1 d_cr_conflictWith_196 rfl ?_
              refine go_R (ca_V (As := [.int (iI (pOf S row i)), .int (iI (3))]) (rest := []) hC hw (c_pc_ruleOf l G S (pOf S row i) 3 hI (by omega) (by omega)) (cv_cr_248 hC rfl rfl (Nat.le_of_ble_eq_true rfl) (Nat.le_of_ble_eq_true rfl)) (by decide) rfl rfl rfl hl.1 rfl (Nat.le_of_ble_eq_true rfl) d_cr_conflictWith_197 ⟨Nat.le_of_ble_eq_true rfl, Nat.le_of_ble_eq_true rfl⟩) ?_
              have r_29 := rOf_b hI (pOf S row i) 3
              refine lv_iconst (v := iI 1) hC.1 hC.2.1 d_cr_conflictWith_200 rfl ?_
              refine ir_ne (tgt := 208) hC.1 hC.2.1 d_cr_conflictWith_201 (by decide) ⟨by omega, by omega⟩ (by decide) (fun c_30 => ?_) (fun c_30 => ?_)
              · skip
                refine lv_iconst (v := iI 0) hC.1 hC.2.1 d_cr_conflictWith_208 rfl ?_
                refine lv_istore (lv' := [(9, .int (iI (0))), (8, .int (iI (0))), (7, .int (iI (S 18 k.toNat))), (6, .int (iI (S 18 row.toNat))), (5, .int (iI (stO S k (pOf S row i)))), (4, .int (iI (pOf S row i))), (0, .ref (G.2.1 0)), (1, .int (iI (k))), (2, .int (iI (row))), (3, .int (iI (i)))]) hC.1 hC.2.1 d_cr_conflictWith_209 hl (by decide) rfl (fun ls hl => ?_)
                refine lv_iload hC.1 hC.2.1 d_cr_conflictWith_211 (lv_at hl 0 rfl) ?_
                refine ir_if_ne (tgt := 221) hC.1 hC.2.1 d_cr_conflictWith_213 (by decide) (by decide) (fun c_31 => ?_) (fun c_31 => ?_)
                · exact absurd c_31 (by decide)
                · skip
                  refine lv_iload hC.1 hC.2.1 d_cr_conflictWith_216 (lv_at hl 1 rfl) ?_
                  refine ir_if_eq (tgt := 226) hC.1 hC.2.1 d_cr_conflictWith_218 (by decide) (by decide) (fun c_32 => ?_) (fun c_32 => ?_)
                  · skip
                    refine lv_iconst (v := iI 0) hC.1 hC.2.1 d_cr_conflictWith_226 rfl ?_
                    exact rt_R hC hr hlk (by first | rfl | (simp [cfw, c_3, c_8, c_12, c_14, c_18, c_21, c_30]; done) | (simp [cfw, c_3, c_8, c_12, c_14, c_18, c_21, c_30]; omega) | (simp [cfw, c_3, c_8, c_12, c_14, c_18, c_21, c_30] <;> split <;> omega) | omega) d_cr_conflictWith_227
                  · exact absurd c_32 (by decide)
              · skip
                refine lv_iconst (v := iI 1) hC.1 hC.2.1 d_cr_conflictWith_204 rfl ?_
                refine lv_goto (tgt := 209) hC.1 hC.2.1 d_cr_conflictWith_205 (by decide) ?_
                refine lv_istore (lv' := [(9, .int (iI (1))), (8, .int (iI (0))), (7, .int (iI (S 18 k.toNat))), (6, .int (iI (S 18 row.toNat))), (5, .int (iI (stO S k (pOf S row i)))), (4, .int (iI (pOf S row i))), (0, .ref (G.2.1 0)), (1, .int (iI (k))), (2, .int (iI (row))), (3, .int (iI (i)))]) hC.1 hC.2.1 d_cr_conflictWith_209 hl (by decide) rfl (fun ls hl => ?_)
                refine lv_iload hC.1 hC.2.1 d_cr_conflictWith_211 (lv_at hl 0 rfl) ?_
                refine ir_if_ne (tgt := 221) hC.1 hC.2.1 d_cr_conflictWith_213 (by decide) (by decide) (fun c_33 => ?_) (fun c_33 => ?_)
                · skip
                  refine lv_bipush (v := iI 6) hC.1 hC.2.1 d_cr_conflictWith_221 (by decide +kernel) ?_
                  refine lv_goto (tgt := 227) hC.1 hC.2.1 d_cr_conflictWith_223 (by decide) ?_
                  exact rt_R hC hr hlk (by first | rfl | (simp [cfw, c_3, c_8, c_12, c_14, c_18, c_21, c_30]; done) | (simp [cfw, c_3, c_8, c_12, c_14, c_18, c_21, c_30]; omega) | (simp [cfw, c_3, c_8, c_12, c_14, c_18, c_21, c_30] <;> split <;> omega) | omega) d_cr_conflictWith_227
                · exact absurd c_33 (by decide)
          · skip
            refine lv_iconst (v := iI 1) hC.1 hC.2.1 d_cr_conflictWith_161 rfl ?_
            refine lv_goto (tgt := 166) hC.1 hC.2.1 d_cr_conflictWith_162 (by decide) ?_
            refine lv_istore (lv' := [(8, .int (iI (1))), (7, .int (iI (S 18 k.toNat))), (6, .int (iI (S 18 row.toNat))), (5, .int (iI (stO S k (pOf S row i)))), (4, .int (iI (pOf S row i))), (0, .ref (G.2.1 0)), (1, .int (iI (k))), (2, .int (iI (row))), (3, .int (iI (i)))]) hC.1 hC.2.1 d_cr_conflictWith_166 hl (by decide) rfl (fun ls hl => ?_)
            refine lv_aload_n hC.1 hC.2.1 d_cr_conflictWith_168 rfl (lv_at hl 5 rfl) ?_
            refine gf_cr_26 hC hw d_cr_conflictWith_169 ?_
            refine lv_iload_n hC.1 hC.2.1 d_cr_conflictWith_172 rfl (lv_at hl 7 rfl) ?_
            refine lv_iload_n hC.1 hC.2.1 d_cr_conflictWith_173 rfl (lv_at hl 8 rfl) ?_
            refine go_R (ca_V (As := [.int (iI (row)), .int (iI (i))]) (rest := []) hC hw (c_ps_isForward l G S row i hI (by omega) (by omega)) (cv_cr_175 hC rfl rfl (Nat.le_of_ble_eq_true rfl) (Nat.le_of_ble_eq_true rfl)) (by decide) rfl rfl rfl hl.1 rfl (Nat.le_of_ble_eq_true rfl) d_cr_conflictWith_174 ⟨Nat.le_of_ble_eq_true rfl, Nat.le_of_ble_eq_true rfl⟩) ?_
            have r_34 := fOf_b hI row i
            refine lv_aload_n hC.1 hC.2.1 d_cr_conflictWith_177 rfl (lv_at hl 5 rfl) ?_
            refine gf_cr_26 hC hw d_cr_conflictWith_178 ?_
            refine lv_iload_n hC.1 hC.2.1 d_cr_conflictWith_181 rfl (lv_at hl 6 rfl) ?_
            refine lv_iload hC.1 hC.2.1 d_cr_conflictWith_182 (lv_at hl 3 rfl) ?_
            refine go_R (ca_V (As := [.int (iI (k)), .int (iI (stO S k (pOf S row i)))]) (rest := [.int (iI (fOf S row i))]) hC hw (c_ps_isForward l G S k (stO S k (pOf S row i)) hI (by omega) (by omega)) (cv_cr_175 hC rfl rfl (Nat.le_of_ble_eq_true rfl) (Nat.le_of_ble_eq_true rfl)) (by decide) rfl rfl rfl hl.1 rfl (Nat.le_of_ble_eq_true rfl) d_cr_conflictWith_184 ⟨Nat.le_of_ble_eq_true rfl, Nat.le_of_ble_eq_true rfl⟩) ?_
            have r_35 := fOf_b hI k (stO S k (pOf S row i))
            refine ir_eq (tgt := 228) hC.1 hC.2.1 d_cr_conflictWith_187 (by decide) ⟨by omega, by omega⟩ ⟨by omega, by omega⟩ (fun c_36 => ?_) (fun c_36 => ?_)
            · skip
              refine lv_aload_n hC.1 hC.2.1 d_cr_conflictWith_228 rfl (lv_at hl 5 rfl) ?_
              refine gf_cr_12 hC hw d_cr_conflictWith_229 ?_
              refine lv_iload hC.1 hC.2.1 d_cr_conflictWith_232 (lv_at hl 4 rfl) ?_
              refine lv_iconst (v := iI 4) hC.1 hC.2.1 d_cr_conflictWith_234 rfl ?_
              refine go_R (ca_V (As := [.int (iI (pOf S row i)), .int (iI (4))]) (rest := []) hC hw (c_pc_ruleOf l G S (pOf S row i) 4 hI (by omega) (by omega)) (cv_cr_248 hC rfl rfl (Nat.le_of_ble_eq_true rfl) (Nat.le_of_ble_eq_true rfl)) (by decide) rfl rfl rfl hl.1 rfl (Nat.le_of_ble_eq_true rfl) d_cr_conflictWith_235 ⟨Nat.le_of_ble_eq_true rfl, Nat.le_of_ble_eq_true rfl⟩) ?_
              have r_37 := rOf_b hI (pOf S row i) 4
              refine lv_iconst (v := iI 1) hC.1 hC.2.1 d_cr_conflictWith_238 rfl ?_
              refine ir_ne (tgt := 246) hC.1 hC.2.1 d_cr_conflictWith_239 (by decide) ⟨by omega, by omega⟩ (by decide) (fun c_38 => ?_) (fun c_38 => ?_)
              · skip
                refine lv_iconst (v := iI 0) hC.1 hC.2.1 d_cr_conflictWith_246 rfl ?_
                refine lv_istore (lv' := [(9, .int (iI (0))), (8, .int (iI (1))), (7, .int (iI (S 18 k.toNat))), (6, .int (iI (S 18 row.toNat))), (5, .int (iI (stO S k (pOf S row i)))), (4, .int (iI (pOf S row i))), (0, .ref (G.2.1 0)), (1, .int (iI (k))), (2, .int (iI (row))), (3, .int (iI (i)))]) hC.1 hC.2.1 d_cr_conflictWith_247 hl (by decide) rfl (fun ls hl => ?_)
                refine lv_aload_n hC.1 hC.2.1 d_cr_conflictWith_249 rfl (lv_at hl 6 rfl) ?_
                refine gf_cr_26 hC hw d_cr_conflictWith_250 ?_
                refine lv_iload_n hC.1 hC.2.1 d_cr_conflictWith_253 rfl (lv_at hl 8 rfl) ?_
                refine lv_iload_n hC.1 hC.2.1 d_cr_conflictWith_254 rfl (lv_at hl 9 rfl) ?_
                refine lv_iload_n hC.1 hC.2.1 d_cr_conflictWith_255 rfl (lv_at hl 7 rfl) ?_
                refine lv_iload hC.1 hC.2.1 d_cr_conflictWith_256 (lv_at hl 4 rfl) ?_
                refine go_R (ca_V (As := [.int (iI (row)), .int (iI (i)), .int (iI (k)), .int (iI (stO S k (pOf S row i)))]) (rest := []) hC hw (c_ps_isOvertaking l G S row i k (stO S k (pOf S row i)) hI (by omega) (by omega) (by omega) (by omega)) (cv_cr_267 hC rfl rfl (Nat.le_of_ble_eq_true rfl) (Nat.le_of_ble_eq_true rfl)) (by decide) rfl rfl rfl hl.1 rfl (Nat.le_of_ble_eq_true rfl) d_cr_conflictWith_258 ⟨Nat.le_of_ble_eq_true rfl, Nat.le_of_ble_eq_true rfl⟩) ?_
                refine ir_beq (tgt := 279) hC d_cr_conflictWith_261 (by decide) (fun c_39 => ?_) (fun c_39 => ?_)
                · skip
                  refine lv_iconst (v := iI 0) hC.1 hC.2.1 d_cr_conflictWith_279 rfl ?_
                  exact rt_R hC hr hlk (by first | rfl | (simp [cfw, c_3, c_8, c_12, c_14, c_18, c_36, c_38, c_39]; done) | (simp [cfw, c_3, c_8, c_12, c_14, c_18, c_36, c_38, c_39]; omega) | (simp [cfw, c_3, c_8, c_12, c_14, c_18, c_36, c_38, c_39] <;> split <;> omega) | omega) d_cr_conflictWith_280
                · skip
                  refine lv_iload hC.1 hC.2.1 d_cr_conflictWith_264 (lv_at hl 0 rfl) ?_
                  refine ir_if_eq (tgt := 274) hC.1 hC.2.1 d_cr_conflictWith_266 (by decide) (by decide) (fun c_40 => ?_) (fun c_40 => ?_)
                  · skip
                    refine lv_bipush (v := iI 7) hC.1 hC.2.1 d_cr_conflictWith_274 (by decide +kernel) ?_
                    refine lv_goto (tgt := 280) hC.1 hC.2.1 d_cr_conflictWith_276 (by decide) ?_
                    exact rt_R hC hr hlk (by first | rfl | (simp [cfw, c_3, c_8, c_12, c_14, c_18, c_36, c_38, c_39]; done) | (simp [cfw, c_3, c_8, c_12, c_14, c_18, c_36, c_38, c_39]; omega) | (simp [cfw, c_3, c_8, c_12, c_14, c_18, c_36, c_38, c_39] <;> split <;> omega) | omega) d_cr_conflictWith_280
                  · exact absurd c_40 (by decide)
              · skip
                refine lv_iconst (v := iI 1) hC.1 hC.2.1 d_cr_conflictWith_242 rfl ?_
                refine lv_goto (tgt := 247) hC.1 hC.2.1 d_cr_conflictWith_243 (by decide) ?_
                refine lv_istore (lv' := [(9, .int (iI (1))), (8, .int (iI (1))), (7, .int (iI (S 18 k.toNat))), (6, .int (iI (S 18 row.toNat))), (5, .int (iI (stO S k (pOf S row i)))), (4, .int (iI (pOf S row i))), (0, .ref (G.2.1 0)), (1, .int (iI (k))), (2, .int (iI (row))), (3, .int (iI (i)))]) hC.1 hC.2.1 d_cr_conflictWith_247 hl (by decide) rfl (fun ls hl => ?_)
                refine lv_aload_n hC.1 hC.2.1 d_cr_conflictWith_249 rfl (lv_at hl 6 rfl) ?_
                refine gf_cr_26 hC hw d_cr_conflictWith_250 ?_
                refine lv_iload_n hC.1 hC.2.1 d_cr_conflictWith_253 rfl (lv_at hl 8 rfl) ?_
                refine lv_iload_n hC.1 hC.2.1 d_cr_conflictWith_254 rfl (lv_at hl 9 rfl) ?_
                refine lv_iload_n hC.1 hC.2.1 d_cr_conflictWith_255 rfl (lv_at hl 7 rfl) ?_
                refine lv_iload hC.1 hC.2.1 d_cr_conflictWith_256 (lv_at hl 4 rfl) ?_
                refine go_R (ca_V (As := [.int (iI (row)), .int (iI (i)), .int (iI (k)), .int (iI (stO S k (pOf S row i)))]) (rest := []) hC hw (c_ps_isOvertaking l G S row i k (stO S k (pOf S row i)) hI (by omega) (by omega) (by omega) (by omega)) (cv_cr_267 hC rfl rfl (Nat.le_of_ble_eq_true rfl) (Nat.le_of_ble_eq_true rfl)) (by decide) rfl rfl rfl hl.1 rfl (Nat.le_of_ble_eq_true rfl) d_cr_conflictWith_258 ⟨Nat.le_of_ble_eq_true rfl, Nat.le_of_ble_eq_true rfl⟩) ?_
                refine ir_beq (tgt := 279) hC d_cr_conflictWith_261 (by decide) (fun c_41 => ?_) (fun c_41 => ?_)
                · skip
                  refine lv_iconst (v := iI 0) hC.1 hC.2.1 d_cr_conflictWith_279 rfl ?_
                  exact rt_R hC hr hlk (by first | rfl | (simp [cfw, c_3, c_8, c_12, c_14, c_18, c_36, c_38, c_41]; done) | (simp [cfw, c_3, c_8, c_12, c_14, c_18, c_36, c_38, c_41]; omega) | (simp [cfw, c_3, c_8, c_12, c_14, c_18, c_36, c_38, c_41] <;> split <;> omega) | omega) d_cr_conflictWith_280
                · skip
                  refine lv_iload hC.1 hC.2.1 d_cr_conflictWith_264 (lv_at hl 0 rfl) ?_
                  refine ir_if_eq (tgt := 274) hC.1 hC.2.1 d_cr_conflictWith_266 (by decide) (by decide) (fun c_42 => ?_) (fun c_42 => ?_)
                  · exact absurd c_42 (by decide)
                  · skip
                    refine lv_iload hC.1 hC.2.1 d_cr_conflictWith_269 (lv_at hl 1 rfl) ?_
                    refine ir_if_eq (tgt := 279) hC.1 hC.2.1 d_cr_conflictWith_271 (by decide) (by decide) (fun c_43 => ?_) (fun c_43 => ?_)
                    · exact absurd c_43 (by decide)
                    · skip
                      refine lv_bipush (v := iI 7) hC.1 hC.2.1 d_cr_conflictWith_274 (by decide +kernel) ?_
                      refine lv_goto (tgt := 280) hC.1 hC.2.1 d_cr_conflictWith_276 (by decide) ?_
                      exact rt_R hC hr hlk (by first | rfl | (simp [cfw, c_3, c_8, c_12, c_14, c_18, c_36, c_38, c_41]; done) | (simp [cfw, c_3, c_8, c_12, c_14, c_18, c_36, c_38, c_41]; omega) | (simp [cfw, c_3, c_8, c_12, c_14, c_18, c_36, c_38, c_41] <;> split <;> omega) | omega) d_cr_conflictWith_280
            · skip
              refine lv_aload_n hC.1 hC.2.1 d_cr_conflictWith_190 rfl (lv_at hl 5 rfl) ?_
              refine gf_cr_12 hC hw d_cr_conflictWith_191 ?_
              refine lv_iload hC.1 hC.2.1 d_cr_conflictWith_194 (lv_at hl 4 rfl) ?_
              refine lv_iconst (v := iI 3) hC.1 hC.2.1 d_cr_conflictWith_196 rfl ?_
              refine go_R (ca_V (As := [.int (iI (pOf S row i)), .int (iI (3))]) (rest := []) hC hw (c_pc_ruleOf l G S (pOf S row i) 3 hI (by omega) (by omega)) (cv_cr_248 hC rfl rfl (Nat.le_of_ble_eq_true rfl) (Nat.le_of_ble_eq_true rfl)) (by decide) rfl rfl rfl hl.1 rfl (Nat.le_of_ble_eq_true rfl) d_cr_conflictWith_197 ⟨Nat.le_of_ble_eq_true rfl, Nat.le_of_ble_eq_true rfl⟩) ?_
              have r_44 := rOf_b hI (pOf S row i) 3
              refine lv_iconst (v := iI 1) hC.1 hC.2.1 d_cr_conflictWith_200 rfl ?_
              refine ir_ne (tgt := 208) hC.1 hC.2.1 d_cr_conflictWith_201 (by decide) ⟨by omega, by omega⟩ (by decide) (fun c_45 => ?_) (fun c_45 => ?_)
              · skip
                refine lv_iconst (v := iI 0) hC.1 hC.2.1 d_cr_conflictWith_208 rfl ?_
                refine lv_istore (lv' := [(9, .int (iI (0))), (8, .int (iI (1))), (7, .int (iI (S 18 k.toNat))), (6, .int (iI (S 18 row.toNat))), (5, .int (iI (stO S k (pOf S row i)))), (4, .int (iI (pOf S row i))), (0, .ref (G.2.1 0)), (1, .int (iI (k))), (2, .int (iI (row))), (3, .int (iI (i)))]) hC.1 hC.2.1 d_cr_conflictWith_209 hl (by decide) rfl (fun ls hl => ?_)
                refine lv_iload hC.1 hC.2.1 d_cr_conflictWith_211 (lv_at hl 0 rfl) ?_
                refine ir_if_ne (tgt := 221) hC.1 hC.2.1 d_cr_conflictWith_213 (by decide) (by decide) (fun c_46 => ?_) (fun c_46 => ?_)
                · exact absurd c_46 (by decide)
                · skip
                  refine lv_iload hC.1 hC.2.1 d_cr_conflictWith_216 (lv_at hl 1 rfl) ?_
                  refine ir_if_eq (tgt := 226) hC.1 hC.2.1 d_cr_conflictWith_218 (by decide) (by decide) (fun c_47 => ?_) (fun c_47 => ?_)
                  · exact absurd c_47 (by decide)
                  · skip
                    refine lv_bipush (v := iI 6) hC.1 hC.2.1 d_cr_conflictWith_221 (by decide +kernel) ?_
                    refine lv_goto (tgt := 227) hC.1 hC.2.1 d_cr_conflictWith_223 (by decide) ?_
                    exact rt_R hC hr hlk (by first | rfl | (simp [cfw, c_3, c_8, c_12, c_14, c_18, c_36, c_45]; done) | (simp [cfw, c_3, c_8, c_12, c_14, c_18, c_36, c_45]; omega) | (simp [cfw, c_3, c_8, c_12, c_14, c_18, c_36, c_45] <;> split <;> omega) | omega) d_cr_conflictWith_227
              · skip
                refine lv_iconst (v := iI 1) hC.1 hC.2.1 d_cr_conflictWith_204 rfl ?_
                refine lv_goto (tgt := 209) hC.1 hC.2.1 d_cr_conflictWith_205 (by decide) ?_
                refine lv_istore (lv' := [(9, .int (iI (1))), (8, .int (iI (1))), (7, .int (iI (S 18 k.toNat))), (6, .int (iI (S 18 row.toNat))), (5, .int (iI (stO S k (pOf S row i)))), (4, .int (iI (pOf S row i))), (0, .ref (G.2.1 0)), (1, .int (iI (k))), (2, .int (iI (row))), (3, .int (iI (i)))]) hC.1 hC.2.1 d_cr_conflictWith_209 hl (by decide) rfl (fun ls hl => ?_)
                refine lv_iload hC.1 hC.2.1 d_cr_conflictWith_211 (lv_at hl 0 rfl) ?_
                refine ir_if_ne (tgt := 221) hC.1 hC.2.1 d_cr_conflictWith_213 (by decide) (by decide) (fun c_48 => ?_) (fun c_48 => ?_)
                · skip
                  refine lv_bipush (v := iI 6) hC.1 hC.2.1 d_cr_conflictWith_221 (by decide +kernel) ?_
                  refine lv_goto (tgt := 227) hC.1 hC.2.1 d_cr_conflictWith_223 (by decide) ?_
                  exact rt_R hC hr hlk (by first | rfl | (simp [cfw, c_3, c_8, c_12, c_14, c_18, c_36, c_45]; done) | (simp [cfw, c_3, c_8, c_12, c_14, c_18, c_36, c_45]; omega) | (simp [cfw, c_3, c_8, c_12, c_14, c_18, c_36, c_45] <;> split <;> omega) | omega) d_cr_conflictWith_227
                · exact absurd c_48 (by decide)
        · skip
          refine lv_iconst (v := iI 5) hC.1 hC.2.1 d_cr_conflictWith_125 rfl ?_
          exact rt_R hC hr hlk (by first | rfl | (simp [cfw, c_3, c_8, c_12, c_14]; done) | (simp [cfw, c_3, c_8, c_12, c_14]; omega) | (simp [cfw, c_3, c_8, c_12, c_14] <;> split <;> omega) | omega) d_cr_conflictWith_126
    · skip
      refine lv_iconst (v := iI 0) hC.1 hC.2.1 d_cr_conflictWith_73 rfl ?_
      exact rt_R hC hr hlk (by first | rfl | (simp [cfw, c_3, c_8]; done) | (simp [cfw, c_3, c_8]; omega) | (simp [cfw, c_3, c_8] <;> split <;> omega) | omega) d_cr_conflictWith_74
end
section
abbrev b_fm : ByteArray := prog_11_method_50_code
abbrev y_fm : MethodName := ⟨"java/lang/Math", "floorMod", "(II)I"⟩
theorem d_fm_0 : decode b_fm 0 = .ok (.iload_n 0, 1) := by decide +kernel
theorem d_fm_1 : decode b_fm 1 = .ok (.iload_n 1, 1) := by decide +kernel
theorem d_fm_2 : decode b_fm 2 = .ok (.irem, 1) := by decide +kernel
theorem d_fm_3 : decode b_fm 3 = .ok (.istore_n 2, 1) := by decide +kernel
theorem d_fm_4 : decode b_fm 4 = .ok (.iload_n 0, 1) := by decide +kernel
theorem d_fm_5 : decode b_fm 5 = .ok (.iload_n 1, 1) := by decide +kernel
theorem d_fm_6 : decode b_fm 6 = .ok (.ixor, 1) := by decide +kernel
theorem d_fm_7 : decode b_fm 7 = .ok (.ifCond .ge 11, 3) := by decide +kernel
theorem d_fm_10 : decode b_fm 10 = .ok (.iload_n 2, 1) := by decide +kernel
theorem d_fm_11 : decode b_fm 11 = .ok (.ifCond .eq 7, 3) := by decide +kernel
theorem d_fm_14 : decode b_fm 14 = .ok (.iload_n 2, 1) := by decide +kernel
theorem d_fm_15 : decode b_fm 15 = .ok (.iload_n 1, 1) := by decide +kernel
theorem d_fm_16 : decode b_fm 16 = .ok (.iadd, 1) := by decide +kernel
theorem d_fm_17 : decode b_fm 17 = .ok (.ireturn, 1) := by decide +kernel
theorem d_fm_18 : decode b_fm 18 = .ok (.iload_n 2, 1) := by decide +kernel
theorem d_fm_19 : decode b_fm 19 = .ok (.ireturn, 1) := by decide +kernel
theorem mt_ofF {l : Launch} {y : MethodName} {b : ByteArray} {n : Nat} {ret : Option FieldType} {rm : Room} {As : List Value} {G : Gt} {S : St} {Qc : Array Value → State → Outcome → State → Prop} {mc ms : Nat} {free : Addr → Prop} (hy : plainFor y = true) (hn : (lg_sl As).length ≤ n)
    (body : ∀ (p : Program) (e : Env) (s : State) (m : MethodId) (below : List Frame) (meth : Method) (c : Code) (ls : Array Slot), CallFix p m c b n s As.toArray tws y.cls → meth.sig.returnType = ret → meth.locks = false → wh G S s s.heap [] → lv_has ls n (lv_args 0 As) → W p l e rm s m As.toArray below meth c s.heap [] 0 0 (MQ below Qc As.toArray s mc ms free) (F0 m 0 ls [])) :
    Met l y [.code y b n ret] rm (va_Pc As (fun U => wu G S U)) Qc mc ms free := by
  refine va_MetF (cc := b) (maxL := n) (ret := ret) hy rfl ?_
  intro p e s m args below meth c s₁ B hml hv
  obtain ⟨rfl, hK, hP, hD, ht⟩ := hv
  rw [lg_entry_eq]
  have hts : ∀ w ∈ tws, w.before As.toArray s = true := tw_same (s := s) (U := s) rfl ht
  have hl := lv_entry As (n := n) hn
  exact body p e s m below meth c _ ⟨B.exec, B.bytes, hml, findClass_of_methodNamed B.named, hts⟩ B.returns B.notSynchronized ⟨hK, hP, hD, va_S.rf⟩ hl
theorem iI_remT {a b : Int} (ha : i32 a) (hb : 0 < b) (hb2 : b ≤ 2147483647) : iI a - iI a / iI b * iI b = iI (a.tmod b) := by
  have h1 := Int.tmod_lt_of_pos a hb
  have h2 : -b < a.tmod b := by
    have := Int.lt_tmod_of_pos a hb
    omega
  rw [← Int32.toInt_inj, rem_toInt, iI_toInt ha, iI_toInt ⟨by omega, hb2⟩, iI_toInt ⟨by omega, by omega⟩]
theorem xor_sign (x y : Int32) (hy : 0 ≤ y.toInt) : (0 ≤ x ^^^ y) ↔ 0 ≤ x.toInt := by
  rw [Int32.le_iff_toInt_le]
  have e0 : (0 : Int32).toInt = 0 := by decide +kernel
  rw [e0]
  have h1 : (x ^^^ y).toBitVec = x.toBitVec ^^^ y.toBitVec := by simp
  have h2 : ∀ z : Int32, z.toBitVec.msb = decide (z.toInt < 0) := fun z => BitVec.msb_eq_toInt
  have h3 := h2 (x ^^^ y)
  rw [h1, BitVec.msb_xor, h2 x, h2 y] at h3
  have h4 : decide (y.toInt < 0) = false := by simp; omega
  rw [h4, Bool.xor_false] at h3
  have h5 : (x.toInt < 0) ↔ ((x ^^^ y).toInt < 0) := by
    constructor
    · intro h
      have : decide (x.toInt < 0) = true := by simp [h]
      rw [this] at h3
      simpa using h3.symm
    · intro h
      have : decide ((x ^^^ y).toInt < 0) = true := by simp [h]
      rw [this] at h3
      simpa using h3
  omega
set_option maxHeartbeats 4000000 in
theorem c_fm (l : Launch) (G : Gt) (S : St) (a : Int) (ha : -2000000 ≤ a ∧ a ≤ 2000000) : Met l y_fm [.code y_fm b_fm 3 (some .int)] { frames := 0, cells := 0, slots := 0, locals := 0 } (va_Pc [.int (iI a), .int (iI 1440)] (fun U => wu G S U)) (qR (a % 1440)) 0 0 (fun _ => False) := by
  refine mt_ofF (by decide +kernel) (Nat.le_of_ble_eq_true rfl) ?_
  intro p e s m below meth c ls hC hr hlk hw hl
  have hl : lv_has ls 3 [(0, .int (iI a)), (1, .int (iI 1440))] := hl
  have t1 := Int.tmod_lt_of_pos a (show (0 : Int) < 1440 by decide)
  have t2 := Int.lt_tmod_of_pos a (show (0 : Int) < 1440 by decide)
  have t3 : a % 1440 = if a.tmod 1440 < 0 then a.tmod 1440 + 1440 else a.tmod 1440 := by
    have q1 := Int.mul_tdiv_add_tmod a 1440
    by_cases q : a.tmod 1440 < 0
    · rw [if_pos q]; omega
    · rw [if_neg q]; omega
  refine lv_iload_n hC.1 hC.2.1 d_fm_0 rfl (lv_at hl 0 rfl) ?_
  refine lv_iload_n hC.1 hC.2.1 d_fm_1 rfl (lv_at hl 1 rfl) ?_
  refine lv_irem hC.1 hC.2.1 d_fm_2 (iI_ne0 (by decide) (by decide)) ?_
  rw [iI_remT ⟨by omega, by omega⟩ (by decide) (by decide)]
  have t4 : 0 ≤ a → 0 ≤ a.tmod 1440 := fun h => Int.tmod_nonneg _ h
  have t5 : a < 0 → a.tmod 1440 ≤ 0 := by
    intro h
    have q := Int.tmod_nonneg 1440 (a := -a) (by omega)
    rw [Int.neg_tmod] at q
    omega
  generalize a.tmod 1440 = r at t1 t2 t3 t4 t5
  refine lv_istore_n (lv' := [(2, .int (iI r)), (0, .int (iI a)), (1, .int (iI 1440))]) hC.1 hC.2.1 d_fm_3 rfl hl (by decide) rfl (fun ls hl => ?_)
  refine lv_iload_n hC.1 hC.2.1 d_fm_4 rfl (lv_at hl 1 rfl) ?_
  refine lv_iload_n hC.1 hC.2.1 d_fm_5 rfl (lv_at hl 2 rfl) ?_
  refine lv_ixor hC.1 hC.2.1 d_fm_6 ?_
  have hs := xor_sign (iI a) (iI 1440) (by decide +kernel)
  rw [iI_toInt (z := a) ⟨by omega, by omega⟩] at hs
  refine lv_if_ge (tgt := 18) hC.1 hC.2.1 d_fm_7 (by decide) (fun c1 => ?_) (fun c1 => ?_)
  · have c2 := hs.mp c1
    refine lv_iload_n hC.1 hC.2.1 d_fm_18 rfl (lv_at hl 0 rfl) ?_
    exact rt_R hC hr hlk (by rw [t3, if_neg (by omega)]) d_fm_19
  · have c2 : a < 0 := by
      rcases Int.lt_or_le a 0 with q | q
      · exact q
      · exact absurd (hs.mpr q) c1
    refine lv_iload_n hC.1 hC.2.1 d_fm_10 rfl (lv_at hl 0 rfl) ?_
    refine ir_if_eq (tgt := 18) hC.1 hC.2.1 d_fm_11 (by decide) ⟨by omega, by omega⟩ (fun c3 => ?_) (fun c3 => ?_)
    · refine lv_iload_n hC.1 hC.2.1 d_fm_18 rfl (lv_at hl 0 rfl) ?_
      exact rt_R hC hr hlk (by rw [t3, if_neg (by omega)]) d_fm_19
    · refine lv_iload_n hC.1 hC.2.1 d_fm_14 rfl (lv_at hl 0 rfl) ?_
      refine lv_iload_n hC.1 hC.2.1 d_fm_15 rfl (lv_at hl 2 rfl) ?_
      refine ir_add hC.1 hC.2.1 d_fm_16 ?_
      exact rt_R hC hr hlk (by have := t5 c2; rw [t3, if_pos (by omega)]) d_fm_17
section FMC
variable {p : Program} {R : Room} {s : State} {m : MethodId} {args : Array Value} {c : Code} {cc : ByteArray} {nL mc ms : Nat} {rm : Room}
theorem cv_cr_282 (hC : CallFix p m c cc nL s args tws "ChannelRules") (hrc : rm.cells = mc) (hrs : rm.slots = ms) (hf : rm.frames + 1 ≤ R.frames) (hlo : 8 + (3 + 11) + rm.locals ≤ R.locals) : CallB R s args "ChannelRules" 282 y_fm b_fm 3 (some .int) [.code y_fm b_fm 3 (some .int)] rm mc ms 2 ∧ (Cond.static y_fm).before args s = true := ⟨mkB hC 2 tw_483 tw_11 tw_481 hrc hrs (by decide +kernel) hf hlo, hC.2.2.2.2 _ tw_482⟩
end FMC
end
section
/-! the class, as functions of the state: bars, waits, the next piece -/
def bSl (S : St) (row i : Int) : Nat → Int
  | 0 => 0
  | k + 1 => if (k : Int) + 1 = row then bSl S row i k else if S 17 ((k : Int) + 1).toNat = 0 then bSl S row i k else if cfw S ((k : Int) + 1) row i = 0 then bSl S row i k else if bSl S row i k = 0 ∨ cfw S ((k : Int) + 1) row i < bSl S row i k then cfw S ((k : Int) + 1) row i else bSl S row i k
theorem bSl_s (S : St) (row i : Int) (k : Nat) : bSl S row i (k + 1) = if (k : Int) + 1 = row then bSl S row i k else if S 17 ((k : Int) + 1).toNat = 0 then bSl S row i k else if cfw S ((k : Int) + 1) row i = 0 then bSl S row i k else if bSl S row i k = 0 ∨ cfw S ((k : Int) + 1) row i < bSl S row i k then cfw S ((k : Int) + 1) row i else bSl S row i k := rfl
theorem bSl_b (S : St) (row i : Int) (k : Nat) : 0 ≤ bSl S row i k ∧ bSl S row i k ≤ 7 := by
  induction k with
  | zero => simp [bSl]
  | succ k ih =>
    have h1 := cfw_b S ((k : Int) + 1) row i
    rw [bSl_s]
    repeat (first | omega | split)
def brr (S : St) (row i : Int) : Int := if bPc S row i = 0 then bSl S row i (S 3 0).toNat else bPc S row i
theorem brr_b (S : St) (row i : Int) : 0 ≤ brr S row i ∧ brr S row i ≤ 7 := by
  have h1 := bSl_b S row i (S 3 0).toNat
  have h2 := bPc_b S row i
  unfold brr
  split <;> omega
def fBr (S : St) (row : Int) : Nat → Nat → Int
  | _, 0 => 0
  | i, n + 1 => if brr S row (i : Int) = 0 then fBr S row (i + 1) n else brr S row (i : Int)
theorem fBr_s (S : St) (row : Int) (i n : Nat) (h : i < n) : fBr S row i (n - i) = if brr S row (i : Int) = 0 then fBr S row (i + 1) (n - (i + 1)) else brr S row (i : Int) := by
  have e : n - i = (n - (i + 1)) + 1 := by omega
  rw [e]
  rfl
theorem fBr_b (S : St) (row : Int) (i n : Nat) : 0 ≤ fBr S row i n ∧ fBr S row i n ≤ 7 := by
  induction n generalizing i with
  | zero => simp [fBr]
  | succ n ih =>
    have h1 := brr_b S row (i : Int)
    unfold fBr
    split
    · exact ih (i + 1)
    · exact h1
theorem mtm_b (t : Int) : 0 ≤ (300 - t) % 1440 ∧ (300 - t) % 1440 < 1440 := by omega
def pWp (S : St) (i : Int) : Int := if agW S 0 i = true ∨ bWd S 0 i = true then 1000000 else max (clF S (pOf S 0 i) (enA S 0 i) (lvA S 0 i) (S 11 (pOf S 0 i).toNat).toNat) (if bNt S 0 i = true then (300 - enA S 0 i) % 1440 else 0)
theorem pWp_b {S : St} (h : Inv S) (i : Int) : 0 ≤ pWp S i ∧ pWp S i ≤ 1000000 := by
  have h0 := enA_b h 0 i
  have h1 := clF_b h (pOf S 0 i) (enA S 0 i) (lvA S 0 i) (S 11 (pOf S 0 i).toNat).toNat
  unfold pWp
  split
  · omega
  · split <;> omega
def pWf (S : St) (k i : Int) : Int := if cfw S k 0 i = 0 ∨ stO S k (pOf S 0 i) = -1 then 0 else if ¬ cfw S k 0 i = 7 then lvA S k (stO S k (pOf S 0 i)) - enA S 0 i else max (enA S k (stO S k (pOf S 0 i)) - enA S 0 i) (lvA S k (stO S k (pOf S 0 i)) - lvA S 0 i) + 1
theorem pWf_b {S : St} (h : Inv S) (k i : Int) : -200000 ≤ pWf S k i ∧ pWf S k i ≤ 200000 := by
  have h0 := enA_b h 0 i
  have h1 := lvA_b h 0 i
  have h2 := enA_b h k (stO S k (pOf S 0 i))
  have h3 := lvA_b h k (stO S k (pOf S 0 i))
  unfold pWf
  split
  · omega
  · split <;> omega
def pWs (S : St) (i : Int) : Nat → Int
  | 0 => 0
  | k + 1 => if S 17 ((k : Int) + 1).toNat = 0 then pWs S i k else max (pWs S i k) (pWf S ((k : Int) + 1) i)
theorem pWs_s (S : St) (i : Int) (k : Nat) : pWs S i (k + 1) = if S 17 ((k : Int) + 1).toNat = 0 then pWs S i k else max (pWs S i k) (pWf S ((k : Int) + 1) i) := rfl
theorem pWs_b {S : St} (h : Inv S) (i : Int) (k : Nat) : 0 ≤ pWs S i k ∧ pWs S i k ≤ 200000 := by
  induction k with
  | zero => simp [pWs]
  | succ k ih =>
    have h1 := pWf_b h ((k : Int) + 1) i
    rw [pWs_s]
    split <;> omega
def pWt (S : St) : Nat → Int
  | 0 => 0
  | k + 1 => max (pWt S k) (max (pWp S (k : Int)) (pWs S (k : Int) (S 3 0).toNat))
theorem pWt_s (S : St) (k : Nat) : pWt S (k + 1) = max (pWt S k) (max (pWp S (k : Int)) (pWs S (k : Int) (S 3 0).toNat)) := rfl
theorem pWt_b {S : St} (h : Inv S) (k : Nat) : 0 ≤ pWt S k ∧ pWt S k ≤ 1000000 := by
  induction k with
  | zero => simp [pWt]
  | succ k ih =>
    have h1 := pWp_b h (k : Int)
    have h2 := pWs_b h (k : Int) (S 3 0).toNat
    rw [pWt_s]
    omega
def nxF (S : St) (sh t : Int) : Nat → Nat → Int
  | _, 0 => -1
  | q, n + 1 => if ¬ oEnd S (q : Int) t = -1 ∧ fts S sh (q : Int) = true ∧ S 4 t.toNat = tTm S sh (q : Int) + S 4 (oEnd S (q : Int) t).toNat then (q : Int) else nxF S sh t (q + 1) n
theorem nxF_s (S : St) (sh t : Int) (q n : Nat) (h : q < n) : nxF S sh t q (n - q) = if ¬ oEnd S (q : Int) t = -1 ∧ fts S sh (q : Int) = true ∧ S 4 t.toNat = tTm S sh (q : Int) + S 4 (oEnd S (q : Int) t).toNat then (q : Int) else nxF S sh t (q + 1) (n - (q + 1)) := by
  have e : n - q = (n - (q + 1)) + 1 := by omega
  rw [e]
  rfl
theorem nxF_b (S : St) (sh t : Int) (q n : Nat) : -1 ≤ nxF S sh t q n ∧ nxF S sh t q n < (q : Int) + n := by
  induction n generalizing q with
  | zero => unfold nxF; omega
  | succ n ih =>
    have h1 := ih (q + 1)
    unfold nxF
    split <;> omega
def nxP (S : St) (sh t : Int) : Int := if 1000000 ≤ S 4 t.toNat then -1 else nxF S sh t 0 (S 1 0).toNat
theorem nxP_b (S : St) (sh t : Int) : -1 ≤ nxP S sh t ∧ nxP S sh t < max (S 1 0) 0 := by
  have h1 := nxF_b S sh t 0 (S 1 0).toNat
  unfold nxP
  split <;> omega
set_option maxHeartbeats 4000000 in
set_option maxRecDepth 100000 in
theorem c_cr_barBySlots (l : Launch) (G : Gt) (S : St) (row : Int) (i : Int) (hI : Inv S) (hrow : 0 ≤ row ∧ row ≤ 30) (hi : 0 ≤ i ∧ i < 7) : Met l y_cr_barBySlots [.code y_cr_barBySlots b_cr_barBySlots 6 (some .int)] { frames := 3, cells := 0, slots := 0, locals := 79 } (va_Pc [.ref (G.2.1 0), .int (iI (row)), .int (iI (i))] (fun U => wu G S U)) (qR (bSl S row i (S 3 0).toNat)) 0 0 (fun _ => False) := by
  refine mt_of (by decide +kernel) (Nat.le_of_ble_eq_true rfl) ?_
  intro p e s m below meth c ls hadm hC hr hlk hex hw hl
  have hC : CallFix p m c b_cr_barBySlots 6 s _ tws "ChannelRules" := hC
  have hl : lv_has ls 6 [(0, .ref (G.2.1 0)), (1, .int (iI (row))), (2, .int (iI (i)))] := hl
  have i3 := iv_3 hI 0
  refine lv_iconst (v := iI 0) hC.1 hC.2.1 d_cr_barBySlots_0 rfl ?_
  refine lv_istore_n (lv' := [(3, .int (iI (0))), (0, .ref (G.2.1 0)), (1, .int (iI (row))), (2, .int (iI (i)))]) hC.1 hC.2.1 d_cr_barBySlots_1 rfl hl (by decide) rfl (fun ls hl => ?_)
  refine lv_iconst (v := iI 1) hC.1 hC.2.1 d_cr_barBySlots_2 rfl ?_
  refine lv_istore (lv' := [(4, .int (iI (1))), (3, .int (iI (0))), (0, .ref (G.2.1 0)), (1, .int (iI (row))), (2, .int (iI (i)))]) hC.1 hC.2.1 d_cr_barBySlots_3 hl (by decide) rfl (fun ls hl => ?_)
  have loop_5 : ∀ (n : Nat) (k : Nat) (x3 : Int) (x4 : Int), (S 3 0).toNat - k < n → x3 = bSl S row i k → x4 = (k : Int) + 1 → (k : Int) ≤ S 3 0 → ∀ (ls : Array Slot), lv_has ls 6 [(4, .int (iI (x4))), (3, .int (iI (x3))), (0, .ref (G.2.1 0)), (1, .int (iI (row))), (2, .int (iI (i)))] → W p l e { frames := 3, cells := 0, slots := 0, locals := 79 } s m ([.ref (G.2.1 0), .int (iI (row)), .int (iI (i))] : List Value).toArray below meth c s.heap [] 0 0 (MQ below (qR (bSl S row i (S 3 0).toNat)) ([.ref (G.2.1 0), .int (iI (row)), .int (iI (i))] : List Value).toArray s 0 0 (fun _ => False)) (F0 m 5 ls []) := by
    intro n
    induction n with
    | zero => intros; omega
    | succ n ih_5 =>
      intro k x3 x4 hms_5 hx3 hx4 hv0 ls hl
      have bk := bSl_b S row i k
      refine lv_iload hC.1 hC.2.1 d_cr_barBySlots_5 (lv_at hl 0 rfl) ?_
      refine lv_aload_n hC.1 hC.2.1 d_cr_barBySlots_7 rfl (lv_at hl 2 rfl) ?_
      refine gf_cr_26 hC hw d_cr_barBySlots_8 ?_
      refine gf_cr_110 hC hw d_cr_barBySlots_11 ?_
      have b_1 := iv_3 hI 0
      refine ir_gt (tgt := 70) hC.1 hC.2.1 d_cr_barBySlots_14 (by decide) ⟨by omega, by omega⟩ ⟨by omega, by omega⟩ (fun c_2 => ?_) (fun c_2 => ?_)
      · skip
        refine lv_iload_n hC.1 hC.2.1 d_cr_barBySlots_70 rfl (lv_at hl 1 rfl) ?_
        exact rt_R hC hr hlk (by rw [hx3, show (S 3 0).toNat = k by omega]) d_cr_barBySlots_71
      · skip
        refine lv_iload hC.1 hC.2.1 d_cr_barBySlots_17 (lv_at hl 0 rfl) ?_
        refine lv_iload_n hC.1 hC.2.1 d_cr_barBySlots_19 rfl (lv_at hl 3 rfl) ?_
        refine ir_eq (tgt := 64) hC.1 hC.2.1 d_cr_barBySlots_20 (by decide) ⟨by omega, by omega⟩ ⟨by omega, by omega⟩ (fun c_3 => ?_) (fun c_3 => ?_)
        · skip
          refine lv_iinc (v := iI (x4 + 1)) (lv' := [(4, .int (iI (x4 + 1))), (3, .int (iI (x3))), (0, .ref (G.2.1 0)), (1, .int (iI (row))), (2, .int (iI (i)))]) hC.1 hC.2.1 d_cr_barBySlots_64 hl (k := 0) rfl (iI_add _ _) (by decide) rfl (fun ls hl => ?_)
          refine lv_goto (tgt := 5) hC.1 hC.2.1 d_cr_barBySlots_67 (by decide) ?_
          exact ih_5 (k + 1) _ _ (by omega) (by have g := bSl_s S row i k; simp only [hx4] at *; first | (simp [g, *]; done) | (simp [g, *]; omega) | (rw [g]; (repeat' split) <;> first | omega | (simp_all; done) | (simp_all; omega))) (by first | rfl | omega) (by omega) _ (lv_sub hl [0, 1, 2, 3, 4] rfl)
        · skip
          refine lv_aload_n hC.1 hC.2.1 d_cr_barBySlots_23 rfl (lv_at hl 2 rfl) ?_
          refine gf_cr_26 hC hw d_cr_barBySlots_24 ?_
          refine gf_cr_142 hC hw d_cr_barBySlots_27 ?_
          refine lv_iload hC.1 hC.2.1 d_cr_barBySlots_30 (lv_at hl 0 rfl) ?_
          refine ld_17 hC hw (by omega) (by omega) d_cr_barBySlots_32 ?_
          have b_4 := iv_17 hI x4.toNat
          refine ir_if_eq (tgt := 64) hC.1 hC.2.1 d_cr_barBySlots_33 (by decide) ⟨by omega, by omega⟩ (fun c_5 => ?_) (fun c_5 => ?_)
          · skip
            refine lv_iinc (v := iI (x4 + 1)) (lv' := [(4, .int (iI (x4 + 1))), (3, .int (iI (x3))), (0, .ref (G.2.1 0)), (1, .int (iI (row))), (2, .int (iI (i)))]) hC.1 hC.2.1 d_cr_barBySlots_64 hl (k := 0) rfl (iI_add _ _) (by decide) rfl (fun ls hl => ?_)
            refine lv_goto (tgt := 5) hC.1 hC.2.1 d_cr_barBySlots_67 (by decide) ?_
            exact ih_5 (k + 1) _ _ (by omega) (by have g := bSl_s S row i k; simp only [hx4] at *; first | (simp [g, *]; done) | (simp [g, *]; omega) | (rw [g]; (repeat' split) <;> first | omega | (simp_all; done) | (simp_all; omega))) (by first | rfl | omega) (by omega) _ (lv_sub hl [0, 1, 2, 3, 4] rfl)
          · skip
            refine lv_aload_n hC.1 hC.2.1 d_cr_barBySlots_36 rfl (lv_at hl 2 rfl) ?_
            refine lv_iload hC.1 hC.2.1 d_cr_barBySlots_37 (lv_at hl 0 rfl) ?_
            refine lv_iload_n hC.1 hC.2.1 d_cr_barBySlots_39 rfl (lv_at hl 3 rfl) ?_
            refine lv_iload_n hC.1 hC.2.1 d_cr_barBySlots_40 rfl (lv_at hl 4 rfl) ?_
            refine go_R (ca_V (As := [.int (iI (x4)), .int (iI (row)), .int (iI (i))]) (rest := []) hC hw (c_cr_conflictWith l G S x4 row i hI (by omega) (by omega) (by omega)) (cv_cr_257 hC rfl rfl (Nat.le_of_ble_eq_true rfl) (Nat.le_of_ble_eq_true rfl)) (by decide) rfl rfl rfl hl.1 rfl (Nat.le_of_ble_eq_true rfl) d_cr_barBySlots_41 ⟨Nat.le_of_ble_eq_true rfl, Nat.le_of_ble_eq_true rfl⟩) ?_
            have r_6 := cfw_b S x4 row i
            refine lv_istore (lv' := [(5, .int (iI (cfw S x4 row i))), (4, .int (iI (x4))), (3, .int (iI (x3))), (0, .ref (G.2.1 0)), (1, .int (iI (row))), (2, .int (iI (i)))]) hC.1 hC.2.1 d_cr_barBySlots_44 hl (by decide) rfl (fun ls hl => ?_)
            refine lv_iload hC.1 hC.2.1 d_cr_barBySlots_46 (lv_at hl 0 rfl) ?_
            refine ir_if_eq (tgt := 64) hC.1 hC.2.1 d_cr_barBySlots_48 (by decide) ⟨by omega, by omega⟩ (fun c_7 => ?_) (fun c_7 => ?_)
            · skip
              refine lv_iinc (v := iI (x4 + 1)) (lv' := [(4, .int (iI (x4 + 1))), (5, .int (iI (cfw S x4 row i))), (3, .int (iI (x3))), (0, .ref (G.2.1 0)), (1, .int (iI (row))), (2, .int (iI (i)))]) hC.1 hC.2.1 d_cr_barBySlots_64 hl (k := 1) rfl (iI_add _ _) (by decide) rfl (fun ls hl => ?_)
              refine lv_goto (tgt := 5) hC.1 hC.2.1 d_cr_barBySlots_67 (by decide) ?_
              exact ih_5 (k + 1) _ _ (by omega) (by have g := bSl_s S row i k; simp only [hx4] at *; first | (simp [g, *]; done) | (simp [g, *]; omega) | (rw [g]; (repeat' split) <;> first | omega | (simp_all; done) | (simp_all; omega))) (by first | rfl | omega) (by omega) _ (lv_sub hl [0, 2, 3, 4, 5] rfl)
            · skip
              refine lv_iload_n hC.1 hC.2.1 d_cr_barBySlots_51 rfl (lv_at hl 2 rfl) ?_
              refine ir_if_eq (tgt := 61) hC.1 hC.2.1 d_cr_barBySlots_52 (by decide) ⟨by omega, by omega⟩ (fun c_8 => ?_) (fun c_8 => ?_)
              · skip
                refine lv_iload hC.1 hC.2.1 d_cr_barBySlots_61 (lv_at hl 0 rfl) ?_
                refine lv_istore_n (lv' := [(3, .int (iI (cfw S x4 row i))), (5, .int (iI (cfw S x4 row i))), (4, .int (iI (x4))), (0, .ref (G.2.1 0)), (1, .int (iI (row))), (2, .int (iI (i)))]) hC.1 hC.2.1 d_cr_barBySlots_63 rfl hl (by decide) rfl (fun ls hl => ?_)
                refine lv_iinc (v := iI (x4 + 1)) (lv' := [(4, .int (iI (x4 + 1))), (3, .int (iI (cfw S x4 row i))), (5, .int (iI (cfw S x4 row i))), (0, .ref (G.2.1 0)), (1, .int (iI (row))), (2, .int (iI (i)))]) hC.1 hC.2.1 d_cr_barBySlots_64 hl (k := 2) rfl (iI_add _ _) (by decide) rfl (fun ls hl => ?_)
                refine lv_goto (tgt := 5) hC.1 hC.2.1 d_cr_barBySlots_67 (by decide) ?_
                exact ih_5 (k + 1) _ _ (by omega) (by have g := bSl_s S row i k; simp only [hx4] at *; first | (simp [g, *]; done) | (simp [g, *]; omega) | (rw [g]; (repeat' split) <;> first | omega | (simp_all; done) | (simp_all; omega))) (by first | rfl | omega) (by omega) _ (lv_sub hl [0, 1, 3, 4, 5] rfl)
              · skip
                refine lv_iload hC.1 hC.2.1 d_cr_barBySlots_55 (lv_at hl 0 rfl) ?_
                refine lv_iload_n hC.1 hC.2.1 d_cr_barBySlots_57 rfl (lv_at hl 2 rfl) ?_
                refine ir_ge (tgt := 64) hC.1 hC.2.1 d_cr_barBySlots_58 (by decide) ⟨by omega, by omega⟩ ⟨by omega, by omega⟩ (fun c_9 => ?_) (fun c_9 => ?_)
                · skip
                  refine lv_iinc (v := iI (x4 + 1)) (lv' := [(4, .int (iI (x4 + 1))), (5, .int (iI (cfw S x4 row i))), (3, .int (iI (x3))), (0, .ref (G.2.1 0)), (1, .int (iI (row))), (2, .int (iI (i)))]) hC.1 hC.2.1 d_cr_barBySlots_64 hl (k := 1) rfl (iI_add _ _) (by decide) rfl (fun ls hl => ?_)
                  refine lv_goto (tgt := 5) hC.1 hC.2.1 d_cr_barBySlots_67 (by decide) ?_
                  exact ih_5 (k + 1) _ _ (by omega) (by have g := bSl_s S row i k; simp only [hx4] at *; first | (simp [g, *]; done) | (simp [g, *]; omega) | (rw [g]; (repeat' split) <;> first | omega | (simp_all; done) | (simp_all; omega))) (by first | rfl | omega) (by omega) _ (lv_sub hl [0, 2, 3, 4, 5] rfl)
                · skip
                  refine lv_iload hC.1 hC.2.1 d_cr_barBySlots_61 (lv_at hl 0 rfl) ?_
                  refine lv_istore_n (lv' := [(3, .int (iI (cfw S x4 row i))), (5, .int (iI (cfw S x4 row i))), (4, .int (iI (x4))), (0, .ref (G.2.1 0)), (1, .int (iI (row))), (2, .int (iI (i)))]) hC.1 hC.2.1 d_cr_barBySlots_63 rfl hl (by decide) rfl (fun ls hl => ?_)
                  refine lv_iinc (v := iI (x4 + 1)) (lv' := [(4, .int (iI (x4 + 1))), (3, .int (iI (cfw S x4 row i))), (5, .int (iI (cfw S x4 row i))), (0, .ref (G.2.1 0)), (1, .int (iI (row))), (2, .int (iI (i)))]) hC.1 hC.2.1 d_cr_barBySlots_64 hl (k := 2) rfl (iI_add _ _) (by decide) rfl (fun ls hl => ?_)
                  refine lv_goto (tgt := 5) hC.1 hC.2.1 d_cr_barBySlots_67 (by decide) ?_
                  exact ih_5 (k + 1) _ _ (by omega) (by have g := bSl_s S row i k; simp only [hx4] at *; first | (simp [g, *]; done) | (simp [g, *]; omega) | (rw [g]; (repeat' split) <;> first | omega | (simp_all; done) | (simp_all; omega))) (by first | rfl | omega) (by omega) _ (lv_sub hl [0, 1, 3, 4, 5] rfl)
  exact loop_5 _ 0 _ _ (Nat.lt_succ_self _) (by first | rfl | omega) (by first | rfl | omega) (by omega) _ (lv_sub hl [0, 1, 2, 3, 4] rfl)
set_option maxHeartbeats 4000000 in
set_option maxRecDepth 100000 in
theorem c_cr_firstBar (l : Launch) (G : Gt) (S : St) (row : Int) (hI : Inv S) (hrow : 0 ≤ row ∧ row ≤ 30) : Met l y_cr_firstBar [.code y_cr_firstBar b_cr_firstBar 4 (some .int)] { frames := 4, cells := 0, slots := 0, locals := 104 } (va_Pc [.ref (G.2.1 0), .int (iI (row))] (fun U => wu G S U)) (qR (fBr S row 0 (S 20 row.toNat).toNat)) 0 0 (fun _ => False) := by
  refine mt_of (by decide +kernel) (Nat.le_of_ble_eq_true rfl) ?_
  intro p e s m below meth c ls hadm hC hr hlk hex hw hl
  have hC : CallFix p m c b_cr_firstBar 4 s _ tws "ChannelRules" := hC
  have hl : lv_has ls 4 [(0, .ref (G.2.1 0)), (1, .int (iI (row)))] := hl
  have i20 := iv_20 hI row.toNat
  refine lv_iconst (v := iI 0) hC.1 hC.2.1 d_cr_firstBar_0 rfl ?_
  refine lv_istore_n (lv' := [(2, .int (iI (0))), (0, .ref (G.2.1 0)), (1, .int (iI (row)))]) hC.1 hC.2.1 d_cr_firstBar_1 rfl hl (by decide) rfl (fun ls hl => ?_)
  have loop_2 : ∀ (n : Nat) (k : Nat) (x2 : Int), (S 20 row.toNat).toNat - k < n → x2 = (k : Int) → (k : Int) ≤ S 20 row.toNat → fBr S row 0 (S 20 row.toNat).toNat = fBr S row k ((S 20 row.toNat).toNat - k) → ∀ (ls : Array Slot), lv_has ls 4 [(2, .int (iI (x2))), (0, .ref (G.2.1 0)), (1, .int (iI (row)))] → W p l e { frames := 4, cells := 0, slots := 0, locals := 104 } s m ([.ref (G.2.1 0), .int (iI (row))] : List Value).toArray below meth c s.heap [] 0 0 (MQ below (qR (fBr S row 0 (S 20 row.toNat).toNat)) ([.ref (G.2.1 0), .int (iI (row))] : List Value).toArray s 0 0 (fun _ => False)) (F0 m 2 ls []) := by
    intro n
    induction n with
    | zero => intros; omega
    | succ n ih_2 =>
      intro k x2 hms_2 hx2 hv0 hv1 ls hl
      refine lv_iload_n hC.1 hC.2.1 d_cr_firstBar_2 rfl (lv_at hl 0 rfl) ?_
      refine lv_aload_n hC.1 hC.2.1 d_cr_firstBar_3 rfl (lv_at hl 1 rfl) ?_
      refine gf_cr_26 hC hw d_cr_firstBar_4 ?_
      refine gf_cr_104 hC hw d_cr_firstBar_7 ?_
      refine lv_iload_n hC.1 hC.2.1 d_cr_firstBar_10 rfl (lv_at hl 2 rfl) ?_
      refine ld_20 hC hw (by omega) (by omega) d_cr_firstBar_11 ?_
      have b_1 := iv_20 hI row.toNat
      refine ir_ge (tgt := 45) hC.1 hC.2.1 d_cr_firstBar_12 (by decide) ⟨by omega, by omega⟩ ⟨by omega, by omega⟩ (fun c_2 => ?_) (fun c_2 => ?_)
      · skip
        refine lv_iconst (v := iI 0) hC.1 hC.2.1 d_cr_firstBar_45 rfl ?_
        exact rt_R hC hr hlk (by rw [hv1, show (S 20 row.toNat).toNat - k = 0 by omega]; rfl) d_cr_firstBar_46
      · skip
        refine lv_aload_n hC.1 hC.2.1 d_cr_firstBar_15 rfl (lv_at hl 1 rfl) ?_
        refine lv_iload_n hC.1 hC.2.1 d_cr_firstBar_16 rfl (lv_at hl 2 rfl) ?_
        refine lv_iload_n hC.1 hC.2.1 d_cr_firstBar_17 rfl (lv_at hl 0 rfl) ?_
        refine go_R (ca_V (As := [.int (iI (row)), .int (iI (x2))]) (rest := []) hC hw (c_cr_barByPiece l G S row x2 hI (by omega) (by omega)) (cv_cr_230 hC rfl rfl (Nat.le_of_ble_eq_true rfl) (Nat.le_of_ble_eq_true rfl)) (by decide) rfl rfl rfl hl.1 rfl (Nat.le_of_ble_eq_true rfl) d_cr_firstBar_18 ⟨Nat.le_of_ble_eq_true rfl, Nat.le_of_ble_eq_true rfl⟩) ?_
        have r_3 := bPc_b S row x2
        refine lv_istore_n (lv' := [(3, .int (iI (bPc S row x2))), (2, .int (iI (x2))), (0, .ref (G.2.1 0)), (1, .int (iI (row)))]) hC.1 hC.2.1 d_cr_firstBar_21 rfl hl (by decide) rfl (fun ls hl => ?_)
        refine lv_iload_n hC.1 hC.2.1 d_cr_firstBar_22 rfl (lv_at hl 0 rfl) ?_
        refine ir_if_ne (tgt := 33) hC.1 hC.2.1 d_cr_firstBar_23 (by decide) ⟨by omega, by omega⟩ (fun c_4 => ?_) (fun c_4 => ?_)
        · skip
          refine lv_iload_n hC.1 hC.2.1 d_cr_firstBar_33 rfl (lv_at hl 0 rfl) ?_
          refine ir_if_eq (tgt := 39) hC.1 hC.2.1 d_cr_firstBar_34 (by decide) ⟨by omega, by omega⟩ (fun c_5 => ?_) (fun c_5 => ?_)
          · skip
            refine lv_iinc (v := iI (x2 + 1)) (lv' := [(2, .int (iI (x2 + 1))), (3, .int (iI (bPc S row x2))), (0, .ref (G.2.1 0)), (1, .int (iI (row)))]) hC.1 hC.2.1 d_cr_firstBar_39 hl (k := 1) rfl (iI_add _ _) (by decide) rfl (fun ls hl => ?_)
            refine lv_goto (tgt := 2) hC.1 hC.2.1 d_cr_firstBar_42 (by decide) ?_
            exact ih_2 (k + 1) _ (by omega) (by first | rfl | omega) (by omega) (by rw [hv1, fBr_s S row k _ (by omega), ← hx2, if_pos (by first | (simp [brr, c_2, c_4, c_5]; done) | omega)]) _ (lv_sub hl [0, 2, 3] rfl)
          · skip
            refine lv_iload_n hC.1 hC.2.1 d_cr_firstBar_37 rfl (lv_at hl 0 rfl) ?_
            exact rt_R hC hr hlk (by rw [hv1, fBr_s S row k _ (by omega), ← hx2, if_neg (by first | (simp [brr, c_2, c_4, c_5]; done) | omega)]; first | (simp [brr, c_2, c_4, c_5]; done) | omega) d_cr_firstBar_38
        · skip
          refine lv_aload_n hC.1 hC.2.1 d_cr_firstBar_26 rfl (lv_at hl 2 rfl) ?_
          refine lv_iload_n hC.1 hC.2.1 d_cr_firstBar_27 rfl (lv_at hl 3 rfl) ?_
          refine lv_iload_n hC.1 hC.2.1 d_cr_firstBar_28 rfl (lv_at hl 1 rfl) ?_
          refine go_R (ca_V (As := [.int (iI (row)), .int (iI (x2))]) (rest := []) hC hw (c_cr_barBySlots l G S row x2 hI (by omega) (by omega)) (cv_cr_233 hC rfl rfl (Nat.le_of_ble_eq_true rfl) (Nat.le_of_ble_eq_true rfl)) (by decide) rfl rfl rfl hl.1 rfl (Nat.le_of_ble_eq_true rfl) d_cr_firstBar_29 ⟨Nat.le_of_ble_eq_true rfl, Nat.le_of_ble_eq_true rfl⟩) ?_
          have r_6 := bSl_b S row x2 (S 3 0).toNat
          refine lv_istore_n (lv' := [(3, .int (iI (bSl S row x2 (S 3 0).toNat))), (2, .int (iI (x2))), (0, .ref (G.2.1 0)), (1, .int (iI (row)))]) hC.1 hC.2.1 d_cr_firstBar_32 rfl hl (by decide) rfl (fun ls hl => ?_)
          refine lv_iload_n hC.1 hC.2.1 d_cr_firstBar_33 rfl (lv_at hl 0 rfl) ?_
          refine ir_if_eq (tgt := 39) hC.1 hC.2.1 d_cr_firstBar_34 (by decide) ⟨by omega, by omega⟩ (fun c_7 => ?_) (fun c_7 => ?_)
          · skip
            refine lv_iinc (v := iI (x2 + 1)) (lv' := [(2, .int (iI (x2 + 1))), (3, .int (iI (bSl S row x2 (S 3 0).toNat))), (0, .ref (G.2.1 0)), (1, .int (iI (row)))]) hC.1 hC.2.1 d_cr_firstBar_39 hl (k := 1) rfl (iI_add _ _) (by decide) rfl (fun ls hl => ?_)
            refine lv_goto (tgt := 2) hC.1 hC.2.1 d_cr_firstBar_42 (by decide) ?_
            exact ih_2 (k + 1) _ (by omega) (by first | rfl | omega) (by omega) (by rw [hv1, fBr_s S row k _ (by omega), ← hx2, if_pos (by first | (simp [brr, c_2, c_4, c_7]; done) | omega)]) _ (lv_sub hl [0, 2, 3] rfl)
          · skip
            refine lv_iload_n hC.1 hC.2.1 d_cr_firstBar_37 rfl (lv_at hl 0 rfl) ?_
            exact rt_R hC hr hlk (by rw [hv1, fBr_s S row k _ (by omega), ← hx2, if_neg (by first | (simp [brr, c_2, c_4, c_7]; done) | omega)]; first | (simp [brr, c_2, c_4, c_7]; done) | omega) d_cr_firstBar_38
  exact loop_2 _ 0 _ (Nat.lt_succ_self _) (by first | rfl | omega) (by omega) rfl _ (lv_sub hl [0, 1, 2] rfl)
set_option maxHeartbeats 4000000 in
set_option maxRecDepth 100000 in
theorem c_cr_minutesToMorning (l : Launch) (G : Gt) (S : St) (t : Int) (ht : 0 ≤ t ∧ t ≤ 1000000) : Met l y_cr_minutesToMorning [.code y_cr_minutesToMorning b_cr_minutesToMorning 1 (some .int)] { frames := 1, cells := 0, slots := 0, locals := 22 } (va_Pc [.int (iI (t))] (fun U => wu G S U)) (qR ((300 - t) % 1440)) 0 0 (fun _ => False) := by
  refine mt_of (by decide +kernel) (Nat.le_of_ble_eq_true rfl) ?_
  intro p e s m below meth c ls hadm hC hr hlk hex hw hl
  have hC : CallFix p m c b_cr_minutesToMorning 1 s _ tws "ChannelRules" := hC
  have hl : lv_has ls 1 [(0, .int (iI (t)))] := hl
  refine lv_sipush (v := iI 300) hC.1 hC.2.1 d_cr_minutesToMorning_0 (by decide +kernel) ?_
  refine lv_iload_n hC.1 hC.2.1 d_cr_minutesToMorning_3 rfl (lv_at hl 0 rfl) ?_
  refine ir_sub hC.1 hC.2.1 d_cr_minutesToMorning_4 ?_
  refine lv_sipush (v := iI 1440) hC.1 hC.2.1 d_cr_minutesToMorning_5 (by decide +kernel) ?_
  refine go_R (ca_S (As := [.int (iI (300 - t)), .int (iI (1440))]) (rest := []) hC hw (c_fm l G S (300 - t) (by omega)) (cv_cr_282 hC rfl rfl (Nat.le_of_ble_eq_true rfl) (Nat.le_of_ble_eq_true rfl)) rfl hl.1 rfl (Nat.le_of_ble_eq_true rfl) d_cr_minutesToMorning_8 ⟨Nat.le_of_ble_eq_true rfl, Nat.le_of_ble_eq_true rfl⟩) ?_
  exact rt_R hC hr hlk rfl d_cr_minutesToMorning_11
set_option maxHeartbeats 4000000 in
set_option maxRecDepth 100000 in
theorem c_cr_planWaitByPiece (l : Launch) (G : Gt) (S : St) (i : Int) (hI : Inv S) (hi : 0 ≤ i ∧ i < 7) : Met l y_cr_planWaitByPiece [.code y_cr_planWaitByPiece b_cr_planWaitByPiece 5 (some .int)] { frames := 2, cells := 0, slots := 0, locals := 49 } (va_Pc [.ref (G.2.1 0), .int (iI (i))] (fun U => wu G S U)) (qR (pWp S i)) 0 0 (fun _ => False) := by
  refine mt_of (by decide +kernel) (Nat.le_of_ble_eq_true rfl) ?_
  intro p e s m below meth c ls hadm hC hr hlk hex hw hl
  have hC : CallFix p m c b_cr_planWaitByPiece 5 s _ tws "ChannelRules" := hC
  have hl : lv_has ls 5 [(0, .ref (G.2.1 0)), (1, .int (iI (i)))] := hl
  refine lv_aload_n hC.1 hC.2.1 d_cr_planWaitByPiece_0 rfl (lv_at hl 0 rfl) ?_
  refine lv_iconst (v := iI 0) hC.1 hC.2.1 d_cr_planWaitByPiece_1 rfl ?_
  refine lv_iload_n hC.1 hC.2.1 d_cr_planWaitByPiece_2 rfl (lv_at hl 1 rfl) ?_
  refine go_R (ca_V (As := [.int (iI (0)), .int (iI (i))]) (rest := []) hC hw (c_cr_isAgainstOneWay l G S 0 i hI (by omega) (by omega)) (cv_cr_236 hC rfl rfl (Nat.le_of_ble_eq_true rfl) (Nat.le_of_ble_eq_true rfl)) (by decide) rfl rfl rfl hl.1 rfl (Nat.le_of_ble_eq_true rfl) d_cr_planWaitByPiece_3 ⟨Nat.le_of_ble_eq_true rfl, Nat.le_of_ble_eq_true rfl⟩) ?_
  refine ir_bne (tgt := 18) hC d_cr_planWaitByPiece_6 (by decide) (fun c_1 => ?_) (fun c_1 => ?_)
  · skip
    refine ir_ldc hC 1000000 tw_388 (by decide +kernel) d_cr_planWaitByPiece_18 ?_
    exact rt_R hC hr hlk (by first | rfl | (simp [pWp, c_1]; done) | (simp [pWp, c_1]; omega) | (simp [pWp, c_1] <;> split <;> omega) | omega) d_cr_planWaitByPiece_20
  · skip
    refine lv_aload_n hC.1 hC.2.1 d_cr_planWaitByPiece_9 rfl (lv_at hl 0 rfl) ?_
    refine lv_iconst (v := iI 0) hC.1 hC.2.1 d_cr_planWaitByPiece_10 rfl ?_
    refine lv_iload_n hC.1 hC.2.1 d_cr_planWaitByPiece_11 rfl (lv_at hl 1 rfl) ?_
    refine go_R (ca_V (As := [.int (iI (0)), .int (iI (i))]) (rest := []) hC hw (c_cr_isBarredInWind l G S 0 i hI (by omega) (by omega)) (cv_cr_242 hC rfl rfl (Nat.le_of_ble_eq_true rfl) (Nat.le_of_ble_eq_true rfl)) (by decide) rfl rfl rfl hl.1 rfl (Nat.le_of_ble_eq_true rfl) d_cr_planWaitByPiece_12 ⟨Nat.le_of_ble_eq_true rfl, Nat.le_of_ble_eq_true rfl⟩) ?_
    refine ir_beq (tgt := 21) hC d_cr_planWaitByPiece_15 (by decide) (fun c_2 => ?_) (fun c_2 => ?_)
    · skip
      refine lv_aload_n hC.1 hC.2.1 d_cr_planWaitByPiece_21 rfl (lv_at hl 0 rfl) ?_
      refine gf_cr_26 hC hw d_cr_planWaitByPiece_22 ?_
      refine lv_iconst (v := iI 0) hC.1 hC.2.1 d_cr_planWaitByPiece_25 rfl ?_
      refine lv_iload_n hC.1 hC.2.1 d_cr_planWaitByPiece_26 rfl (lv_at hl 1 rfl) ?_
      refine go_R (ca_V (As := [.int (iI (0)), .int (iI (i))]) (rest := []) hC hw (c_ps_entersAt l G S 0 i hI (by omega) (by omega)) (cv_cr_169 hC rfl rfl (Nat.le_of_ble_eq_true rfl) (Nat.le_of_ble_eq_true rfl)) (by decide) rfl rfl rfl hl.1 rfl (Nat.le_of_ble_eq_true rfl) d_cr_planWaitByPiece_27 ⟨Nat.le_of_ble_eq_true rfl, Nat.le_of_ble_eq_true rfl⟩) ?_
      have r_3 := enA_b hI 0 i
      refine lv_istore_n (lv' := [(2, .int (iI (enA S 0 i))), (0, .ref (G.2.1 0)), (1, .int (iI (i)))]) hC.1 hC.2.1 d_cr_planWaitByPiece_30 rfl hl (by decide) rfl (fun ls hl => ?_)
      refine lv_aload_n hC.1 hC.2.1 d_cr_planWaitByPiece_31 rfl (lv_at hl 1 rfl) ?_
      refine gf_cr_26 hC hw d_cr_planWaitByPiece_32 ?_
      refine lv_iconst (v := iI 0) hC.1 hC.2.1 d_cr_planWaitByPiece_35 rfl ?_
      refine lv_iload_n hC.1 hC.2.1 d_cr_planWaitByPiece_36 rfl (lv_at hl 2 rfl) ?_
      refine go_R (ca_V (As := [.int (iI (0)), .int (iI (i))]) (rest := []) hC hw (c_ps_leavesAt l G S 0 i hI (by omega) (by omega)) (cv_cr_172 hC rfl rfl (Nat.le_of_ble_eq_true rfl) (Nat.le_of_ble_eq_true rfl)) (by decide) rfl rfl rfl hl.1 rfl (Nat.le_of_ble_eq_true rfl) d_cr_planWaitByPiece_37 ⟨Nat.le_of_ble_eq_true rfl, Nat.le_of_ble_eq_true rfl⟩) ?_
      have r_4 := lvA_b hI 0 i
      refine lv_istore_n (lv' := [(3, .int (iI (lvA S 0 i))), (2, .int (iI (enA S 0 i))), (0, .ref (G.2.1 0)), (1, .int (iI (i)))]) hC.1 hC.2.1 d_cr_planWaitByPiece_40 rfl hl (by decide) rfl (fun ls hl => ?_)
      refine lv_aload_n hC.1 hC.2.1 d_cr_planWaitByPiece_41 rfl (lv_at hl 2 rfl) ?_
      refine gf_cr_12 hC hw d_cr_planWaitByPiece_42 ?_
      refine lv_aload_n hC.1 hC.2.1 d_cr_planWaitByPiece_45 rfl (lv_at hl 2 rfl) ?_
      refine gf_cr_26 hC hw d_cr_planWaitByPiece_46 ?_
      refine lv_iconst (v := iI 0) hC.1 hC.2.1 d_cr_planWaitByPiece_49 rfl ?_
      refine lv_iload_n hC.1 hC.2.1 d_cr_planWaitByPiece_50 rfl (lv_at hl 3 rfl) ?_
      refine go_R (ca_V (As := [.int (iI (0)), .int (iI (i))]) (rest := [.ref (G.2.1 1)]) hC hw (c_ps_pieceOf l G S 0 i hI (by omega) (by omega)) (cv_cr_100 hC rfl rfl (Nat.le_of_ble_eq_true rfl) (Nat.le_of_ble_eq_true rfl)) (by decide) rfl rfl rfl hl.1 rfl (Nat.le_of_ble_eq_true rfl) d_cr_planWaitByPiece_51 ⟨Nat.le_of_ble_eq_true rfl, Nat.le_of_ble_eq_true rfl⟩) ?_
      have r_5 := pOf_b hI 0 i
      refine lv_iload_n hC.1 hC.2.1 d_cr_planWaitByPiece_54 rfl (lv_at hl 1 rfl) ?_
      refine lv_iload_n hC.1 hC.2.1 d_cr_planWaitByPiece_55 rfl (lv_at hl 0 rfl) ?_
      refine go_R (ca_V (As := [.int (iI (pOf S 0 i)), .int (iI (enA S 0 i)), .int (iI (lvA S 0 i))]) (rest := []) hC hw (c_pc_closedFor l G S (pOf S 0 i) (enA S 0 i) (lvA S 0 i) hI (by omega) (by omega) (by omega)) (cv_cr_245 hC rfl rfl (Nat.le_of_ble_eq_true rfl) (Nat.le_of_ble_eq_true rfl)) (by decide) rfl rfl rfl hl.1 rfl (Nat.le_of_ble_eq_true rfl) d_cr_planWaitByPiece_56 ⟨Nat.le_of_ble_eq_true rfl, Nat.le_of_ble_eq_true rfl⟩) ?_
      have r_6 := clF_b hI (pOf S 0 i) (enA S 0 i) (lvA S 0 i) (S 11 (pOf S 0 i).toNat).toNat
      refine lv_istore (lv' := [(4, .int (iI (clF S (pOf S 0 i) (enA S 0 i) (lvA S 0 i) (S 11 (pOf S 0 i).toNat).toNat))), (3, .int (iI (lvA S 0 i))), (2, .int (iI (enA S 0 i))), (0, .ref (G.2.1 0)), (1, .int (iI (i)))]) hC.1 hC.2.1 d_cr_planWaitByPiece_59 hl (by decide) rfl (fun ls hl => ?_)
      refine lv_iload hC.1 hC.2.1 d_cr_planWaitByPiece_61 (lv_at hl 0 rfl) ?_
      refine lv_aload_n hC.1 hC.2.1 d_cr_planWaitByPiece_63 rfl (lv_at hl 3 rfl) ?_
      refine lv_iconst (v := iI 0) hC.1 hC.2.1 d_cr_planWaitByPiece_64 rfl ?_
      refine lv_iload_n hC.1 hC.2.1 d_cr_planWaitByPiece_65 rfl (lv_at hl 4 rfl) ?_
      refine go_R (ca_V (As := [.int (iI (0)), .int (iI (i))]) (rest := [.int (iI (clF S (pOf S 0 i) (enA S 0 i) (lvA S 0 i) (S 11 (pOf S 0 i).toNat).toNat))]) hC hw (c_cr_isBarredAtNight l G S 0 i hI (by omega) (by omega)) (cv_cr_239 hC rfl rfl (Nat.le_of_ble_eq_true rfl) (Nat.le_of_ble_eq_true rfl)) (by decide) rfl rfl rfl hl.1 rfl (Nat.le_of_ble_eq_true rfl) d_cr_planWaitByPiece_66 ⟨Nat.le_of_ble_eq_true rfl, Nat.le_of_ble_eq_true rfl⟩) ?_
      refine ir_beq (tgt := 79) hC d_cr_planWaitByPiece_69 (by decide) (fun c_7 => ?_) (fun c_7 => ?_)
      · skip
        refine lv_iconst (v := iI 0) hC.1 hC.2.1 d_cr_planWaitByPiece_79 rfl ?_
        refine ir_max hC tw_484 tw_451 tw_11 tw_452 hl.1 (Nat.le_of_ble_eq_true rfl) (Nat.le_of_ble_eq_true rfl) (Nat.zero_le _) (Nat.zero_le _) ⟨by omega, by omega⟩ (by decide) d_cr_planWaitByPiece_80 ?_
        exact rt_R hC hr hlk (by first | rfl | (simp [pWp, c_1, c_2, c_7]; done) | (simp [pWp, c_1, c_2, c_7]; omega) | (simp [pWp, c_1, c_2, c_7] <;> split <;> omega) | omega) d_cr_planWaitByPiece_83
      · skip
        refine lv_iload_n hC.1 hC.2.1 d_cr_planWaitByPiece_72 rfl (lv_at hl 2 rfl) ?_
        refine go_R (ca_S (As := [.int (iI (enA S 0 i))]) (rest := [.int (iI (clF S (pOf S 0 i) (enA S 0 i) (lvA S 0 i) (S 11 (pOf S 0 i).toNat).toNat))]) hC hw (c_cr_minutesToMorning l G S (enA S 0 i) (by omega)) (cv_cr_279 hC rfl rfl (Nat.le_of_ble_eq_true rfl) (Nat.le_of_ble_eq_true rfl)) rfl hl.1 rfl (Nat.le_of_ble_eq_true rfl) d_cr_planWaitByPiece_73 ⟨Nat.le_of_ble_eq_true rfl, Nat.le_of_ble_eq_true rfl⟩) ?_
        have r_8 := mtm_b (enA S 0 i)
        refine lv_goto (tgt := 80) hC.1 hC.2.1 d_cr_planWaitByPiece_76 (by decide) ?_
        refine ir_max hC tw_484 tw_451 tw_11 tw_452 hl.1 (Nat.le_of_ble_eq_true rfl) (Nat.le_of_ble_eq_true rfl) (Nat.zero_le _) (Nat.zero_le _) ⟨by omega, by omega⟩ ⟨by omega, by omega⟩ d_cr_planWaitByPiece_80 ?_
        exact rt_R hC hr hlk (by first | rfl | (simp [pWp, c_1, c_2, c_7]; done) | (simp [pWp, c_1, c_2, c_7]; omega) | (simp [pWp, c_1, c_2, c_7] <;> split <;> omega) | omega) d_cr_planWaitByPiece_83
    · skip
      refine ir_ldc hC 1000000 tw_388 (by decide +kernel) d_cr_planWaitByPiece_18 ?_
      exact rt_R hC hr hlk (by first | rfl | (simp [pWp, c_1, c_2]; done) | (simp [pWp, c_1, c_2]; omega) | (simp [pWp, c_1, c_2] <;> split <;> omega) | omega) d_cr_planWaitByPiece_20
set_option maxHeartbeats 4000000 in
set_option maxRecDepth 100000 in
theorem c_cr_planWaitFor (l : Launch) (G : Gt) (S : St) (k : Int) (i : Int) (hI : Inv S) (hk : 0 ≤ k ∧ k ≤ 30) (hi : 0 ≤ i ∧ i < 7) : Met l y_cr_planWaitFor [.code y_cr_planWaitFor b_cr_planWaitFor 8 (some .int)] { frames := 3, cells := 0, slots := 0, locals := 79 } (va_Pc [.ref (G.2.1 0), .int (iI (k)), .int (iI (i))] (fun U => wu G S U)) (qR (pWf S k i)) 0 0 (fun _ => False) := by
  refine mt_of (by decide +kernel) (Nat.le_of_ble_eq_true rfl) ?_
  intro p e s m below meth c ls hadm hC hr hlk hex hw hl
  have hC : CallFix p m c b_cr_planWaitFor 8 s _ tws "ChannelRules" := hC
  have hl : lv_has ls 8 [(0, .ref (G.2.1 0)), (1, .int (iI (k))), (2, .int (iI (i)))] := hl
  refine lv_aload_n hC.1 hC.2.1 d_cr_planWaitFor_0 rfl (lv_at hl 0 rfl) ?_
  refine lv_iload_n hC.1 hC.2.1 d_cr_planWaitFor_1 rfl (lv_at hl 1 rfl) ?_
  refine lv_iconst (v := iI 0) hC.1 hC.2.1 d_cr_planWaitFor_2 rfl ?_
  refine lv_iload_n hC.1 hC.2.1 d_cr_planWaitFor_3 rfl (lv_at hl 2 rfl) ?_
  refine go_R (ca_V (As := [.int (iI (k)), .int (iI (0)), .int (iI (i))]) (rest := []) hC hw (c_cr_conflictWith l G S k 0 i hI (by omega) (by omega) (by omega)) (cv_cr_257 hC rfl rfl (Nat.le_of_ble_eq_true rfl) (Nat.le_of_ble_eq_true rfl)) (by decide) rfl rfl rfl hl.1 rfl (Nat.le_of_ble_eq_true rfl) d_cr_planWaitFor_4 ⟨Nat.le_of_ble_eq_true rfl, Nat.le_of_ble_eq_true rfl⟩) ?_
  have r_1 := cfw_b S k 0 i
  refine lv_istore_n (lv' := [(3, .int (iI (cfw S k 0 i))), (0, .ref (G.2.1 0)), (1, .int (iI (k))), (2, .int (iI (i)))]) hC.1 hC.2.1 d_cr_planWaitFor_7 rfl hl (by decide) rfl (fun ls hl => ?_)
  refine lv_aload_n hC.1 hC.2.1 d_cr_planWaitFor_8 rfl (lv_at hl 1 rfl) ?_
  refine gf_cr_26 hC hw d_cr_planWaitFor_9 ?_
  refine lv_iload_n hC.1 hC.2.1 d_cr_planWaitFor_12 rfl (lv_at hl 2 rfl) ?_
  refine lv_aload_n hC.1 hC.2.1 d_cr_planWaitFor_13 rfl (lv_at hl 1 rfl) ?_
  refine gf_cr_26 hC hw d_cr_planWaitFor_14 ?_
  refine lv_iconst (v := iI 0) hC.1 hC.2.1 d_cr_planWaitFor_17 rfl ?_
  refine lv_iload_n hC.1 hC.2.1 d_cr_planWaitFor_18 rfl (lv_at hl 3 rfl) ?_
  refine go_R (ca_V (As := [.int (iI (0)), .int (iI (i))]) (rest := [.int (iI (k)), .ref (G.2.1 3)]) hC hw (c_ps_pieceOf l G S 0 i hI (by omega) (by omega)) (cv_cr_100 hC rfl rfl (Nat.le_of_ble_eq_true rfl) (Nat.le_of_ble_eq_true rfl)) (by decide) rfl rfl rfl hl.1 rfl (Nat.le_of_ble_eq_true rfl) d_cr_planWaitFor_19 ⟨Nat.le_of_ble_eq_true rfl, Nat.le_of_ble_eq_true rfl⟩) ?_
  have r_2 := pOf_b hI 0 i
  refine go_R (ca_V (As := [.int (iI (k)), .int (iI (pOf S 0 i))]) (rest := []) hC hw (c_ps_stayOn l G S k (pOf S 0 i) hI (by omega) (by omega)) (cv_cr_260 hC rfl rfl (Nat.le_of_ble_eq_true rfl) (Nat.le_of_ble_eq_true rfl)) (by decide) rfl rfl rfl hl.1 rfl (Nat.le_of_ble_eq_true rfl) d_cr_planWaitFor_22 ⟨Nat.le_of_ble_eq_true rfl, Nat.le_of_ble_eq_true rfl⟩) ?_
  have r_3 := stO_b hI k (pOf S 0 i)
  refine lv_istore (lv' := [(4, .int (iI (stO S k (pOf S 0 i)))), (3, .int (iI (cfw S k 0 i))), (0, .ref (G.2.1 0)), (1, .int (iI (k))), (2, .int (iI (i)))]) hC.1 hC.2.1 d_cr_planWaitFor_25 hl (by decide) rfl (fun ls hl => ?_)
  refine lv_iload_n hC.1 hC.2.1 d_cr_planWaitFor_27 rfl (lv_at hl 1 rfl) ?_
  refine ir_if_eq (tgt := 37) hC.1 hC.2.1 d_cr_planWaitFor_28 (by decide) ⟨by omega, by omega⟩ (fun c_4 => ?_) (fun c_4 => ?_)
  · skip
    refine lv_iconst (v := iI 0) hC.1 hC.2.1 d_cr_planWaitFor_37 rfl ?_
    exact rt_R hC hr hlk (by first | rfl | (simp [pWf, c_4]; done) | (simp [pWf, c_4]; omega) | (simp [pWf, c_4] <;> split <;> omega) | omega) d_cr_planWaitFor_38
  · skip
    refine lv_iload hC.1 hC.2.1 d_cr_planWaitFor_31 (lv_at hl 0 rfl) ?_
    refine lv_iconst (v := iI (-1)) hC.1 hC.2.1 d_cr_planWaitFor_33 rfl ?_
    refine ir_ne (tgt := 39) hC.1 hC.2.1 d_cr_planWaitFor_34 (by decide) ⟨by omega, by omega⟩ (by decide) (fun c_5 => ?_) (fun c_5 => ?_)
    · skip
      refine lv_aload_n hC.1 hC.2.1 d_cr_planWaitFor_39 rfl (lv_at hl 2 rfl) ?_
      refine gf_cr_26 hC hw d_cr_planWaitFor_40 ?_
      refine lv_iconst (v := iI 0) hC.1 hC.2.1 d_cr_planWaitFor_43 rfl ?_
      refine lv_iload_n hC.1 hC.2.1 d_cr_planWaitFor_44 rfl (lv_at hl 4 rfl) ?_
      refine go_R (ca_V (As := [.int (iI (0)), .int (iI (i))]) (rest := []) hC hw (c_ps_entersAt l G S 0 i hI (by omega) (by omega)) (cv_cr_169 hC rfl rfl (Nat.le_of_ble_eq_true rfl) (Nat.le_of_ble_eq_true rfl)) (by decide) rfl rfl rfl hl.1 rfl (Nat.le_of_ble_eq_true rfl) d_cr_planWaitFor_45 ⟨Nat.le_of_ble_eq_true rfl, Nat.le_of_ble_eq_true rfl⟩) ?_
      have r_6 := enA_b hI 0 i
      refine lv_istore (lv' := [(5, .int (iI (enA S 0 i))), (4, .int (iI (stO S k (pOf S 0 i)))), (3, .int (iI (cfw S k 0 i))), (0, .ref (G.2.1 0)), (1, .int (iI (k))), (2, .int (iI (i)))]) hC.1 hC.2.1 d_cr_planWaitFor_48 hl (by decide) rfl (fun ls hl => ?_)
      refine lv_iload_n hC.1 hC.2.1 d_cr_planWaitFor_50 rfl (lv_at hl 2 rfl) ?_
      refine lv_bipush (v := iI 7) hC.1 hC.2.1 d_cr_planWaitFor_51 (by decide +kernel) ?_
      refine ir_eq (tgt := 70) hC.1 hC.2.1 d_cr_planWaitFor_53 (by decide) ⟨by omega, by omega⟩ (by decide) (fun c_7 => ?_) (fun c_7 => ?_)
      · skip
        refine lv_aload_n hC.1 hC.2.1 d_cr_planWaitFor_70 rfl (lv_at hl 3 rfl) ?_
        refine gf_cr_26 hC hw d_cr_planWaitFor_71 ?_
        refine lv_iload_n hC.1 hC.2.1 d_cr_planWaitFor_74 rfl (lv_at hl 4 rfl) ?_
        refine lv_iload hC.1 hC.2.1 d_cr_planWaitFor_75 (lv_at hl 1 rfl) ?_
        refine go_R (ca_V (As := [.int (iI (k)), .int (iI (stO S k (pOf S 0 i)))]) (rest := []) hC hw (c_ps_entersAt l G S k (stO S k (pOf S 0 i)) hI (by omega) (by omega)) (cv_cr_169 hC rfl rfl (Nat.le_of_ble_eq_true rfl) (Nat.le_of_ble_eq_true rfl)) (by decide) rfl rfl rfl hl.1 rfl (Nat.le_of_ble_eq_true rfl) d_cr_planWaitFor_77 ⟨Nat.le_of_ble_eq_true rfl, Nat.le_of_ble_eq_true rfl⟩) ?_
        have r_8 := enA_b hI k (stO S k (pOf S 0 i))
        refine lv_iload hC.1 hC.2.1 d_cr_planWaitFor_80 (lv_at hl 0 rfl) ?_
        refine ir_sub hC.1 hC.2.1 d_cr_planWaitFor_82 ?_
        refine lv_istore (lv' := [(6, .int (iI ((enA S k (stO S k (pOf S 0 i))) - (enA S 0 i)))), (5, .int (iI (enA S 0 i))), (4, .int (iI (stO S k (pOf S 0 i)))), (3, .int (iI (cfw S k 0 i))), (0, .ref (G.2.1 0)), (1, .int (iI (k))), (2, .int (iI (i)))]) hC.1 hC.2.1 d_cr_planWaitFor_83 hl (by decide) rfl (fun ls hl => ?_)
        refine lv_aload_n hC.1 hC.2.1 d_cr_planWaitFor_85 rfl (lv_at hl 4 rfl) ?_
        refine gf_cr_26 hC hw d_cr_planWaitFor_86 ?_
        refine lv_iload_n hC.1 hC.2.1 d_cr_planWaitFor_89 rfl (lv_at hl 5 rfl) ?_
        refine lv_iload hC.1 hC.2.1 d_cr_planWaitFor_90 (lv_at hl 2 rfl) ?_
        refine go_R (ca_V (As := [.int (iI (k)), .int (iI (stO S k (pOf S 0 i)))]) (rest := []) hC hw (c_ps_leavesAt l G S k (stO S k (pOf S 0 i)) hI (by omega) (by omega)) (cv_cr_172 hC rfl rfl (Nat.le_of_ble_eq_true rfl) (Nat.le_of_ble_eq_true rfl)) (by decide) rfl rfl rfl hl.1 rfl (Nat.le_of_ble_eq_true rfl) d_cr_planWaitFor_92 ⟨Nat.le_of_ble_eq_true rfl, Nat.le_of_ble_eq_true rfl⟩) ?_
        have r_9 := lvA_b hI k (stO S k (pOf S 0 i))
        refine lv_aload_n hC.1 hC.2.1 d_cr_planWaitFor_95 rfl (lv_at hl 4 rfl) ?_
        refine gf_cr_26 hC hw d_cr_planWaitFor_96 ?_
        refine lv_iconst (v := iI 0) hC.1 hC.2.1 d_cr_planWaitFor_99 rfl ?_
        refine lv_iload_n hC.1 hC.2.1 d_cr_planWaitFor_100 rfl (lv_at hl 6 rfl) ?_
        refine go_R (ca_V (As := [.int (iI (0)), .int (iI (i))]) (rest := [.int (iI (lvA S k (stO S k (pOf S 0 i))))]) hC hw (c_ps_leavesAt l G S 0 i hI (by omega) (by omega)) (cv_cr_172 hC rfl rfl (Nat.le_of_ble_eq_true rfl) (Nat.le_of_ble_eq_true rfl)) (by decide) rfl rfl rfl hl.1 rfl (Nat.le_of_ble_eq_true rfl) d_cr_planWaitFor_101 ⟨Nat.le_of_ble_eq_true rfl, Nat.le_of_ble_eq_true rfl⟩) ?_
        have r_10 := lvA_b hI 0 i
        refine ir_sub hC.1 hC.2.1 d_cr_planWaitFor_104 ?_
        refine lv_istore (lv' := [(7, .int (iI ((lvA S k (stO S k (pOf S 0 i))) - (lvA S 0 i)))), (6, .int (iI ((enA S k (stO S k (pOf S 0 i))) - (enA S 0 i)))), (5, .int (iI (enA S 0 i))), (4, .int (iI (stO S k (pOf S 0 i)))), (3, .int (iI (cfw S k 0 i))), (0, .ref (G.2.1 0)), (1, .int (iI (k))), (2, .int (iI (i)))]) hC.1 hC.2.1 d_cr_planWaitFor_105 hl (by decide) rfl (fun ls hl => ?_)
        refine lv_iload hC.1 hC.2.1 d_cr_planWaitFor_107 (lv_at hl 1 rfl) ?_
        refine lv_iload hC.1 hC.2.1 d_cr_planWaitFor_109 (lv_at hl 0 rfl) ?_
        refine ir_max hC tw_484 tw_451 tw_11 tw_452 hl.1 (Nat.le_of_ble_eq_true rfl) (Nat.le_of_ble_eq_true rfl) (Nat.zero_le _) (Nat.zero_le _) ⟨by omega, by omega⟩ ⟨by omega, by omega⟩ d_cr_planWaitFor_111 ?_
        refine lv_iconst (v := iI 1) hC.1 hC.2.1 d_cr_planWaitFor_114 rfl ?_
        refine ir_add hC.1 hC.2.1 d_cr_planWaitFor_115 ?_
        exact rt_R hC hr hlk (by first | rfl | (simp [pWf, c_4, c_5, c_7]; done) | (simp [pWf, c_4, c_5, c_7]; omega) | (simp [pWf, c_4, c_5, c_7] <;> split <;> omega) | omega) d_cr_planWaitFor_116
      · skip
        refine lv_aload_n hC.1 hC.2.1 d_cr_planWaitFor_56 rfl (lv_at hl 3 rfl) ?_
        refine gf_cr_26 hC hw d_cr_planWaitFor_57 ?_
        refine lv_iload_n hC.1 hC.2.1 d_cr_planWaitFor_60 rfl (lv_at hl 4 rfl) ?_
        refine lv_iload hC.1 hC.2.1 d_cr_planWaitFor_61 (lv_at hl 1 rfl) ?_
        refine go_R (ca_V (As := [.int (iI (k)), .int (iI (stO S k (pOf S 0 i)))]) (rest := []) hC hw (c_ps_leavesAt l G S k (stO S k (pOf S 0 i)) hI (by omega) (by omega)) (cv_cr_172 hC rfl rfl (Nat.le_of_ble_eq_true rfl) (Nat.le_of_ble_eq_true rfl)) (by decide) rfl rfl rfl hl.1 rfl (Nat.le_of_ble_eq_true rfl) d_cr_planWaitFor_63 ⟨Nat.le_of_ble_eq_true rfl, Nat.le_of_ble_eq_true rfl⟩) ?_
        have r_11 := lvA_b hI k (stO S k (pOf S 0 i))
        refine lv_iload hC.1 hC.2.1 d_cr_planWaitFor_66 (lv_at hl 0 rfl) ?_
        refine ir_sub hC.1 hC.2.1 d_cr_planWaitFor_68 ?_
        exact rt_R hC hr hlk (by first | rfl | (simp [pWf, c_4, c_5, c_7]; done) | (simp [pWf, c_4, c_5, c_7]; omega) | (simp [pWf, c_4, c_5, c_7] <;> split <;> omega) | omega) d_cr_planWaitFor_69
    · skip
      refine lv_iconst (v := iI 0) hC.1 hC.2.1 d_cr_planWaitFor_37 rfl ?_
      exact rt_R hC hr hlk (by first | rfl | (simp [pWf, c_4, c_5]; done) | (simp [pWf, c_4, c_5]; omega) | (simp [pWf, c_4, c_5] <;> split <;> omega) | omega) d_cr_planWaitFor_38
set_option maxHeartbeats 4000000 in
set_option maxRecDepth 100000 in
theorem c_cr_planWaitBySlots (l : Launch) (G : Gt) (S : St) (i : Int) (hI : Inv S) (hi : 0 ≤ i ∧ i < 7) : Met l y_cr_planWaitBySlots [.code y_cr_planWaitBySlots b_cr_planWaitBySlots 4 (some .int)] { frames := 4, cells := 0, slots := 0, locals := 106 } (va_Pc [.ref (G.2.1 0), .int (iI (i))] (fun U => wu G S U)) (qR (pWs S i (S 3 0).toNat)) 0 0 (fun _ => False) := by
  refine mt_of (by decide +kernel) (Nat.le_of_ble_eq_true rfl) ?_
  intro p e s m below meth c ls hadm hC hr hlk hex hw hl
  have hC : CallFix p m c b_cr_planWaitBySlots 4 s _ tws "ChannelRules" := hC
  have hl : lv_has ls 4 [(0, .ref (G.2.1 0)), (1, .int (iI (i)))] := hl
  have i3 := iv_3 hI 0
  refine lv_iconst (v := iI 0) hC.1 hC.2.1 d_cr_planWaitBySlots_0 rfl ?_
  refine lv_istore_n (lv' := [(2, .int (iI (0))), (0, .ref (G.2.1 0)), (1, .int (iI (i)))]) hC.1 hC.2.1 d_cr_planWaitBySlots_1 rfl hl (by decide) rfl (fun ls hl => ?_)
  refine lv_iconst (v := iI 1) hC.1 hC.2.1 d_cr_planWaitBySlots_2 rfl ?_
  refine lv_istore_n (lv' := [(3, .int (iI (1))), (2, .int (iI (0))), (0, .ref (G.2.1 0)), (1, .int (iI (i)))]) hC.1 hC.2.1 d_cr_planWaitBySlots_3 rfl hl (by decide) rfl (fun ls hl => ?_)
  have loop_4 : ∀ (n : Nat) (k : Nat) (x2 : Int) (x3 : Int), (S 3 0).toNat - k < n → x2 = pWs S i k → x3 = (k : Int) + 1 → (k : Int) ≤ S 3 0 → ∀ (ls : Array Slot), lv_has ls 4 [(3, .int (iI (x3))), (2, .int (iI (x2))), (0, .ref (G.2.1 0)), (1, .int (iI (i)))] → W p l e { frames := 4, cells := 0, slots := 0, locals := 106 } s m ([.ref (G.2.1 0), .int (iI (i))] : List Value).toArray below meth c s.heap [] 0 0 (MQ below (qR (pWs S i (S 3 0).toNat)) ([.ref (G.2.1 0), .int (iI (i))] : List Value).toArray s 0 0 (fun _ => False)) (F0 m 4 ls []) := by
    intro n
    induction n with
    | zero => intros; omega
    | succ n ih_4 =>
      intro k x2 x3 hms_4 hx2 hx3 hv0 ls hl
      have bk := pWs_b hI i k
      refine lv_iload_n hC.1 hC.2.1 d_cr_planWaitBySlots_4 rfl (lv_at hl 0 rfl) ?_
      refine lv_aload_n hC.1 hC.2.1 d_cr_planWaitBySlots_5 rfl (lv_at hl 2 rfl) ?_
      refine gf_cr_26 hC hw d_cr_planWaitBySlots_6 ?_
      refine gf_cr_110 hC hw d_cr_planWaitBySlots_9 ?_
      have b_1 := iv_3 hI 0
      refine ir_gt (tgt := 44) hC.1 hC.2.1 d_cr_planWaitBySlots_12 (by decide) ⟨by omega, by omega⟩ ⟨by omega, by omega⟩ (fun c_2 => ?_) (fun c_2 => ?_)
      · skip
        refine lv_iload_n hC.1 hC.2.1 d_cr_planWaitBySlots_44 rfl (lv_at hl 1 rfl) ?_
        exact rt_R hC hr hlk (by rw [hx2, show (S 3 0).toNat = k by omega]) d_cr_planWaitBySlots_45
      · skip
        refine lv_aload_n hC.1 hC.2.1 d_cr_planWaitBySlots_15 rfl (lv_at hl 2 rfl) ?_
        refine gf_cr_26 hC hw d_cr_planWaitBySlots_16 ?_
        refine gf_cr_142 hC hw d_cr_planWaitBySlots_19 ?_
        refine lv_iload_n hC.1 hC.2.1 d_cr_planWaitBySlots_22 rfl (lv_at hl 0 rfl) ?_
        refine ld_17 hC hw (by omega) (by omega) d_cr_planWaitBySlots_23 ?_
        have b_3 := iv_17 hI x3.toNat
        refine ir_if_eq (tgt := 38) hC.1 hC.2.1 d_cr_planWaitBySlots_24 (by decide) ⟨by omega, by omega⟩ (fun c_4 => ?_) (fun c_4 => ?_)
        · skip
          refine lv_iinc (v := iI (x3 + 1)) (lv' := [(3, .int (iI (x3 + 1))), (2, .int (iI (x2))), (0, .ref (G.2.1 0)), (1, .int (iI (i)))]) hC.1 hC.2.1 d_cr_planWaitBySlots_38 hl (k := 0) rfl (iI_add _ _) (by decide) rfl (fun ls hl => ?_)
          refine lv_goto (tgt := 4) hC.1 hC.2.1 d_cr_planWaitBySlots_41 (by decide) ?_
          exact ih_4 (k + 1) _ _ (by omega) (by have g := pWs_s S i k; simp only [hx3] at *; first | (simp [g, *]; done) | (simp [g, *]; omega) | (rw [g]; (repeat' split) <;> first | omega | (simp_all; done) | (simp_all; omega))) (by first | rfl | omega) (by omega) _ (lv_sub hl [0, 1, 2, 3] rfl)
        · skip
          refine lv_iload_n hC.1 hC.2.1 d_cr_planWaitBySlots_27 rfl (lv_at hl 1 rfl) ?_
          refine lv_aload_n hC.1 hC.2.1 d_cr_planWaitBySlots_28 rfl (lv_at hl 2 rfl) ?_
          refine lv_iload_n hC.1 hC.2.1 d_cr_planWaitBySlots_29 rfl (lv_at hl 0 rfl) ?_
          refine lv_iload_n hC.1 hC.2.1 d_cr_planWaitBySlots_30 rfl (lv_at hl 3 rfl) ?_
          refine go_R (ca_V (As := [.int (iI (x3)), .int (iI (i))]) (rest := [.int (iI (x2))]) hC hw (c_cr_planWaitFor l G S x3 i hI (by omega) (by omega)) (cv_cr_285 hC rfl rfl (Nat.le_of_ble_eq_true rfl) (Nat.le_of_ble_eq_true rfl)) (by decide) rfl rfl rfl hl.1 rfl (Nat.le_of_ble_eq_true rfl) d_cr_planWaitBySlots_31 ⟨Nat.le_of_ble_eq_true rfl, Nat.le_of_ble_eq_true rfl⟩) ?_
          have r_5 := pWf_b hI x3 i
          refine ir_max hC tw_484 tw_451 tw_11 tw_452 hl.1 (Nat.le_of_ble_eq_true rfl) (Nat.le_of_ble_eq_true rfl) (Nat.zero_le _) (Nat.zero_le _) ⟨by omega, by omega⟩ ⟨by omega, by omega⟩ d_cr_planWaitBySlots_34 ?_
          refine lv_istore_n (lv' := [(2, .int (iI (max x2 (pWf S x3 i)))), (3, .int (iI (x3))), (0, .ref (G.2.1 0)), (1, .int (iI (i)))]) hC.1 hC.2.1 d_cr_planWaitBySlots_37 rfl hl (by decide) rfl (fun ls hl => ?_)
          refine lv_iinc (v := iI (x3 + 1)) (lv' := [(3, .int (iI (x3 + 1))), (2, .int (iI (max x2 (pWf S x3 i)))), (0, .ref (G.2.1 0)), (1, .int (iI (i)))]) hC.1 hC.2.1 d_cr_planWaitBySlots_38 hl (k := 1) rfl (iI_add _ _) (by decide) rfl (fun ls hl => ?_)
          refine lv_goto (tgt := 4) hC.1 hC.2.1 d_cr_planWaitBySlots_41 (by decide) ?_
          exact ih_4 (k + 1) _ _ (by omega) (by have g := pWs_s S i k; simp only [hx3] at *; first | (simp [g, *]; done) | (simp [g, *]; omega) | (rw [g]; (repeat' split) <;> first | omega | (simp_all; done) | (simp_all; omega))) (by first | rfl | omega) (by omega) _ (lv_sub hl [0, 1, 2, 3] rfl)
  exact loop_4 _ 0 _ _ (Nat.lt_succ_self _) (by first | rfl | omega) (by first | rfl | omega) (by omega) _ (lv_sub hl [0, 1, 2, 3] rfl)
set_option maxHeartbeats 4000000 in
set_option maxRecDepth 100000 in
theorem c_cr_planWait (l : Launch) (G : Gt) (S : St) (hI : Inv S) : Met l y_cr_planWait [.code y_cr_planWait b_cr_planWait 3 (some .int)] { frames := 5, cells := 0, slots := 0, locals := 129 } (va_Pc [.ref (G.2.1 0)] (fun U => wu G S U)) (qR (pWt S (S 20 0).toNat)) 0 0 (fun _ => False) := by
  refine mt_of (by decide +kernel) (Nat.le_of_ble_eq_true rfl) ?_
  intro p e s m below meth c ls hadm hC hr hlk hex hw hl
  have hC : CallFix p m c b_cr_planWait 3 s _ tws "ChannelRules" := hC
  have hl : lv_has ls 3 [(0, .ref (G.2.1 0))] := hl
  have i20 := iv_20 hI 0
  refine lv_iconst (v := iI 0) hC.1 hC.2.1 d_cr_planWait_0 rfl ?_
  refine lv_istore_n (lv' := [(1, .int (iI (0))), (0, .ref (G.2.1 0))]) hC.1 hC.2.1 d_cr_planWait_1 rfl hl (by decide) rfl (fun ls hl => ?_)
  refine lv_iconst (v := iI 0) hC.1 hC.2.1 d_cr_planWait_2 rfl ?_
  refine lv_istore_n (lv' := [(2, .int (iI (0))), (1, .int (iI (0))), (0, .ref (G.2.1 0))]) hC.1 hC.2.1 d_cr_planWait_3 rfl hl (by decide) rfl (fun ls hl => ?_)
  have loop_4 : ∀ (n : Nat) (k : Nat) (x1 : Int) (x2 : Int), (S 20 0).toNat - k < n → x1 = pWt S k → x2 = (k : Int) → (k : Int) ≤ S 20 0 → ∀ (ls : Array Slot), lv_has ls 3 [(2, .int (iI (x2))), (1, .int (iI (x1))), (0, .ref (G.2.1 0))] → W p l e { frames := 5, cells := 0, slots := 0, locals := 129 } s m ([.ref (G.2.1 0)] : List Value).toArray below meth c s.heap [] 0 0 (MQ below (qR (pWt S (S 20 0).toNat)) ([.ref (G.2.1 0)] : List Value).toArray s 0 0 (fun _ => False)) (F0 m 4 ls []) := by
    intro n
    induction n with
    | zero => intros; omega
    | succ n ih_4 =>
      intro k x1 x2 hms_4 hx1 hx2 hv0 ls hl
      have bk := pWt_b hI k
      refine lv_iload_n hC.1 hC.2.1 d_cr_planWait_4 rfl (lv_at hl 0 rfl) ?_
      refine lv_aload_n hC.1 hC.2.1 d_cr_planWait_5 rfl (lv_at hl 2 rfl) ?_
      refine gf_cr_26 hC hw d_cr_planWait_6 ?_
      refine gf_cr_104 hC hw d_cr_planWait_9 ?_
      refine lv_iconst (v := iI 0) hC.1 hC.2.1 d_cr_planWait_12 rfl ?_
      refine lc_20 0 hC hw (by decide) d_cr_planWait_13 ?_
      have b_1 := iv_20 hI 0
      refine ir_ge (tgt := 41) hC.1 hC.2.1 d_cr_planWait_14 (by decide) ⟨by omega, by omega⟩ ⟨by omega, by omega⟩ (fun c_2 => ?_) (fun c_2 => ?_)
      · skip
        refine lv_iload_n hC.1 hC.2.1 d_cr_planWait_41 rfl (lv_at hl 1 rfl) ?_
        exact rt_R hC hr hlk (by rw [hx1, show (S 20 0).toNat = k by omega]) d_cr_planWait_42
      · skip
        refine lv_iload_n hC.1 hC.2.1 d_cr_planWait_17 rfl (lv_at hl 1 rfl) ?_
        refine lv_aload_n hC.1 hC.2.1 d_cr_planWait_18 rfl (lv_at hl 2 rfl) ?_
        refine lv_iload_n hC.1 hC.2.1 d_cr_planWait_19 rfl (lv_at hl 0 rfl) ?_
        refine go_R (ca_V (As := [.int (iI (x2))]) (rest := [.int (iI (x1))]) hC hw (c_cr_planWaitByPiece l G S x2 hI (by omega)) (cv_cr_270 hC rfl rfl (Nat.le_of_ble_eq_true rfl) (Nat.le_of_ble_eq_true rfl)) (by decide) rfl rfl rfl hl.1 rfl (Nat.le_of_ble_eq_true rfl) d_cr_planWait_20 ⟨Nat.le_of_ble_eq_true rfl, Nat.le_of_ble_eq_true rfl⟩) ?_
        have r_3 := pWp_b hI x2
        refine lv_aload_n hC.1 hC.2.1 d_cr_planWait_23 rfl (lv_at hl 2 rfl) ?_
        refine lv_iload_n hC.1 hC.2.1 d_cr_planWait_24 rfl (lv_at hl 0 rfl) ?_
        refine go_R (ca_V (As := [.int (iI (x2))]) (rest := [.int (iI (pWp S x2)), .int (iI (x1))]) hC hw (c_cr_planWaitBySlots l G S x2 hI (by omega)) (cv_cr_273 hC rfl rfl (Nat.le_of_ble_eq_true rfl) (Nat.le_of_ble_eq_true rfl)) (by decide) rfl rfl rfl hl.1 rfl (Nat.le_of_ble_eq_true rfl) d_cr_planWait_25 ⟨Nat.le_of_ble_eq_true rfl, Nat.le_of_ble_eq_true rfl⟩) ?_
        have r_4 := pWs_b hI x2 (S 3 0).toNat
        refine ir_max hC tw_484 tw_451 tw_11 tw_452 hl.1 (Nat.le_of_ble_eq_true rfl) (Nat.le_of_ble_eq_true rfl) (Nat.zero_le _) (Nat.zero_le _) ⟨by omega, by omega⟩ ⟨by omega, by omega⟩ d_cr_planWait_28 ?_
        refine ir_max hC tw_484 tw_451 tw_11 tw_452 hl.1 (Nat.le_of_ble_eq_true rfl) (Nat.le_of_ble_eq_true rfl) (Nat.zero_le _) (Nat.zero_le _) ⟨by omega, by omega⟩ ⟨by omega, by omega⟩ d_cr_planWait_31 ?_
        refine lv_istore_n (lv' := [(1, .int (iI (max x1 (max (pWp S x2) (pWs S x2 (S 3 0).toNat))))), (2, .int (iI (x2))), (0, .ref (G.2.1 0))]) hC.1 hC.2.1 d_cr_planWait_34 rfl hl (by decide) rfl (fun ls hl => ?_)
        refine lv_iinc (v := iI (x2 + 1)) (lv' := [(2, .int (iI (x2 + 1))), (1, .int (iI (max x1 (max (pWp S x2) (pWs S x2 (S 3 0).toNat))))), (0, .ref (G.2.1 0))]) hC.1 hC.2.1 d_cr_planWait_35 hl (k := 1) rfl (iI_add _ _) (by decide) rfl (fun ls hl => ?_)
        refine lv_goto (tgt := 4) hC.1 hC.2.1 d_cr_planWait_38 (by decide) ?_
        exact ih_4 (k + 1) _ _ (by omega) (by have g := pWt_s S k; simp only [hx2] at *; first | (simp [g, *]; done) | (simp [g, *]; omega) | (rw [g]; (repeat' split) <;> first | omega | (simp_all; done) | (simp_all; omega))) (by first | rfl | omega) (by omega) _ (lv_sub hl [0, 1, 2] rfl)
  exact loop_4 _ 0 _ _ (Nat.lt_succ_self _) (by first | rfl | omega) (by first | rfl | omega) (by omega) _ (lv_sub hl [0, 1, 2] rfl)
set_option maxHeartbeats 4000000 in
set_option maxRecDepth 100000 in
theorem c_cr_nextPiece (l : Launch) (G : Gt) (S : St) (sh : Int) (t : Int) (hI : Inv S) (hsh : 0 ≤ sh ∧ sh < 12) (ht : 0 ≤ t ∧ t ≤ 7) : Met l y_cr_nextPiece [.code y_cr_nextPiece b_cr_nextPiece 5 (some .int)] { frames := 1, cells := 0, slots := 0, locals := 23 } (va_Pc [.ref (G.2.1 0), .int (iI (sh)), .int (iI (t))] (fun U => wu G S U)) (qR (nxP S sh t)) 0 0 (fun _ => False) := by
  refine mt_of (by decide +kernel) (Nat.le_of_ble_eq_true rfl) ?_
  intro p e s m below meth c ls hadm hC hr hlk hex hw hl
  have hC : CallFix p m c b_cr_nextPiece 5 s _ tws "ChannelRules" := hC
  have hl : lv_has ls 5 [(0, .ref (G.2.1 0)), (1, .int (iI (sh))), (2, .int (iI (t)))] := hl
  have i1 := iv_1 hI 0
  refine lv_aload_n hC.1 hC.2.1 d_cr_nextPiece_0 rfl (lv_at hl 0 rfl) ?_
  refine gf_cr_30 hC hw d_cr_nextPiece_1 ?_
  refine lv_iload_n hC.1 hC.2.1 d_cr_nextPiece_4 rfl (lv_at hl 2 rfl) ?_
  refine ld_4 hC hw (by omega) (by omega) d_cr_nextPiece_5 ?_
  have b_1 := iv_4 hI t.toNat
  refine ir_ldc hC 1000000 tw_388 (by decide +kernel) d_cr_nextPiece_6 ?_
  refine ir_lt (tgt := 13) hC.1 hC.2.1 d_cr_nextPiece_8 (by decide) ⟨by omega, by omega⟩ (by decide) (fun c_2 => ?_) (fun c_2 => ?_)
  · skip
    refine lv_iconst (v := iI 0) hC.1 hC.2.1 d_cr_nextPiece_13 rfl ?_
    refine lv_istore_n (lv' := [(3, .int (iI (0))), (0, .ref (G.2.1 0)), (1, .int (iI (sh))), (2, .int (iI (t)))]) hC.1 hC.2.1 d_cr_nextPiece_14 rfl hl (by decide) rfl (fun ls hl => ?_)
    have loop_15 : ∀ (n : Nat) (k : Nat) (x3 : Int), (S 1 0).toNat - k < n → x3 = (k : Int) → (k : Int) ≤ S 1 0 → nxP S sh t = nxF S sh t k ((S 1 0).toNat - k) → ∀ (ls : Array Slot), lv_has ls 5 [(3, .int (iI (x3))), (0, .ref (G.2.1 0)), (1, .int (iI (sh))), (2, .int (iI (t)))] → W p l e { frames := 1, cells := 0, slots := 0, locals := 23 } s m ([.ref (G.2.1 0), .int (iI (sh)), .int (iI (t))] : List Value).toArray below meth c s.heap [] 0 0 (MQ below (qR (nxP S sh t)) ([.ref (G.2.1 0), .int (iI (sh)), .int (iI (t))] : List Value).toArray s 0 0 (fun _ => False)) (F0 m 15 ls []) := by
      intro n
      induction n with
      | zero => intros; omega
      | succ n ih_15 =>
        intro k x3 hms_15 hx3 hv0 hv1 ls hl
        refine lv_iload_n hC.1 hC.2.1 d_cr_nextPiece_15 rfl (lv_at hl 0 rfl) ?_
        refine lv_aload_n hC.1 hC.2.1 d_cr_nextPiece_16 rfl (lv_at hl 1 rfl) ?_
        refine gf_cr_12 hC hw d_cr_nextPiece_17 ?_
        refine gf_cr_62 hC hw d_cr_nextPiece_20 ?_
        have b_3 := iv_1 hI 0
        refine ir_ge (tgt := 83) hC.1 hC.2.1 d_cr_nextPiece_23 (by decide) ⟨by omega, by omega⟩ ⟨by omega, by omega⟩ (fun c_4 => ?_) (fun c_4 => ?_)
        · skip
          refine lv_iconst (v := iI (-1)) hC.1 hC.2.1 d_cr_nextPiece_83 rfl ?_
          exact rt_R hC hr hlk (by rw [hv1, show (S 1 0).toNat - k = 0 by omega]; rfl) d_cr_nextPiece_84
        · skip
          refine lv_aload_n hC.1 hC.2.1 d_cr_nextPiece_26 rfl (lv_at hl 1 rfl) ?_
          refine gf_cr_12 hC hw d_cr_nextPiece_27 ?_
          refine lv_iload_n hC.1 hC.2.1 d_cr_nextPiece_30 rfl (lv_at hl 0 rfl) ?_
          refine lv_iload_n hC.1 hC.2.1 d_cr_nextPiece_31 rfl (lv_at hl 3 rfl) ?_
          refine go_R (ca_V (As := [.int (iI (x3)), .int (iI (t))]) (rest := []) hC hw (c_pc_otherEnd l G S x3 t hI (by omega) (by omega)) (cv_cr_207 hC rfl rfl (Nat.le_of_ble_eq_true rfl) (Nat.le_of_ble_eq_true rfl)) (by decide) rfl rfl rfl hl.1 rfl (Nat.le_of_ble_eq_true rfl) d_cr_nextPiece_32 ⟨Nat.le_of_ble_eq_true rfl, Nat.le_of_ble_eq_true rfl⟩) ?_
          have r_5 := oEnd_b hI x3 t
          refine lv_istore (lv' := [(4, .int (iI (oEnd S x3 t))), (3, .int (iI (x3))), (0, .ref (G.2.1 0)), (1, .int (iI (sh))), (2, .int (iI (t)))]) hC.1 hC.2.1 d_cr_nextPiece_35 hl (by decide) rfl (fun ls hl => ?_)
          refine lv_iload hC.1 hC.2.1 d_cr_nextPiece_37 (lv_at hl 0 rfl) ?_
          refine lv_iconst (v := iI (-1)) hC.1 hC.2.1 d_cr_nextPiece_39 rfl ?_
          refine ir_eq (tgt := 77) hC.1 hC.2.1 d_cr_nextPiece_40 (by decide) ⟨by omega, by omega⟩ (by decide) (fun c_6 => ?_) (fun c_6 => ?_)
          · skip
            refine lv_iinc (v := iI (x3 + 1)) (lv' := [(3, .int (iI (x3 + 1))), (4, .int (iI (oEnd S x3 t))), (0, .ref (G.2.1 0)), (1, .int (iI (sh))), (2, .int (iI (t)))]) hC.1 hC.2.1 d_cr_nextPiece_77 hl (k := 1) rfl (iI_add _ _) (by decide) rfl (fun ls hl => ?_)
            refine lv_goto (tgt := 15) hC.1 hC.2.1 d_cr_nextPiece_80 (by decide) ?_
            exact ih_15 (k + 1) _ (by omega) (by first | rfl | omega) (by omega) (by rw [hv1, nxF_s S sh t k _ (by omega), ← hx3, if_neg (by simp [c_2, c_4, c_6])]) _ (lv_sub hl [0, 2, 3, 4] rfl)
          · skip
            refine lv_aload_n hC.1 hC.2.1 d_cr_nextPiece_43 rfl (lv_at hl 2 rfl) ?_
            refine lv_iload_n hC.1 hC.2.1 d_cr_nextPiece_44 rfl (lv_at hl 3 rfl) ?_
            refine lv_iload_n hC.1 hC.2.1 d_cr_nextPiece_45 rfl (lv_at hl 1 rfl) ?_
            refine go_R (ca_V (As := [.int (iI (sh)), .int (iI (x3))]) (rest := []) hC hw (c_cr_fits l G S sh x3 hI (by omega) (by omega)) (cv_cr_211 hC rfl rfl (Nat.le_of_ble_eq_true rfl) (Nat.le_of_ble_eq_true rfl)) (by decide) rfl rfl rfl hl.1 rfl (Nat.le_of_ble_eq_true rfl) d_cr_nextPiece_46 ⟨Nat.le_of_ble_eq_true rfl, Nat.le_of_ble_eq_true rfl⟩) ?_
            refine ir_beq (tgt := 77) hC d_cr_nextPiece_49 (by decide) (fun c_7 => ?_) (fun c_7 => ?_)
            · skip
              refine lv_iinc (v := iI (x3 + 1)) (lv' := [(3, .int (iI (x3 + 1))), (4, .int (iI (oEnd S x3 t))), (0, .ref (G.2.1 0)), (1, .int (iI (sh))), (2, .int (iI (t)))]) hC.1 hC.2.1 d_cr_nextPiece_77 hl (k := 1) rfl (iI_add _ _) (by decide) rfl (fun ls hl => ?_)
              refine lv_goto (tgt := 15) hC.1 hC.2.1 d_cr_nextPiece_80 (by decide) ?_
              exact ih_15 (k + 1) _ (by omega) (by first | rfl | omega) (by omega) (by rw [hv1, nxF_s S sh t k _ (by omega), ← hx3, if_neg (by simp [c_2, c_4, c_6, c_7])]) _ (lv_sub hl [0, 2, 3, 4] rfl)
            · skip
              refine lv_aload_n hC.1 hC.2.1 d_cr_nextPiece_52 rfl (lv_at hl 2 rfl) ?_
              refine gf_cr_30 hC hw d_cr_nextPiece_53 ?_
              refine lv_iload_n hC.1 hC.2.1 d_cr_nextPiece_56 rfl (lv_at hl 4 rfl) ?_
              refine ld_4 hC hw (by omega) (by omega) d_cr_nextPiece_57 ?_
              have b_8 := iv_4 hI t.toNat
              refine lv_aload_n hC.1 hC.2.1 d_cr_nextPiece_58 rfl (lv_at hl 2 rfl) ?_
              refine lv_iload_n hC.1 hC.2.1 d_cr_nextPiece_59 rfl (lv_at hl 3 rfl) ?_
              refine lv_iload_n hC.1 hC.2.1 d_cr_nextPiece_60 rfl (lv_at hl 1 rfl) ?_
              refine go_R (ca_V (As := [.int (iI (sh)), .int (iI (x3))]) (rest := [.int (iI (S 4 t.toNat))]) hC hw (c_cr_travelTime l G S sh x3 hI (by omega) (by omega)) (cv_cr_200 hC rfl rfl (Nat.le_of_ble_eq_true rfl) (Nat.le_of_ble_eq_true rfl)) (by decide) rfl rfl rfl hl.1 rfl (Nat.le_of_ble_eq_true rfl) d_cr_nextPiece_61 ⟨Nat.le_of_ble_eq_true rfl, Nat.le_of_ble_eq_true rfl⟩) ?_
              have r_9 := tTm_b hI sh x3
              refine lv_aload_n hC.1 hC.2.1 d_cr_nextPiece_64 rfl (lv_at hl 2 rfl) ?_
              refine gf_cr_30 hC hw d_cr_nextPiece_65 ?_
              refine lv_iload hC.1 hC.2.1 d_cr_nextPiece_68 (lv_at hl 0 rfl) ?_
              refine ld_4 hC hw (by omega) (by omega) d_cr_nextPiece_70 ?_
              have b_10 := iv_4 hI ((oEnd S x3 t).toNat)
              refine ir_add hC.1 hC.2.1 d_cr_nextPiece_71 ?_
              refine ir_ne (tgt := 77) hC.1 hC.2.1 d_cr_nextPiece_72 (by decide) ⟨by omega, by omega⟩ ⟨by omega, by omega⟩ (fun c_11 => ?_) (fun c_11 => ?_)
              · skip
                refine lv_iinc (v := iI (x3 + 1)) (lv' := [(3, .int (iI (x3 + 1))), (4, .int (iI (oEnd S x3 t))), (0, .ref (G.2.1 0)), (1, .int (iI (sh))), (2, .int (iI (t)))]) hC.1 hC.2.1 d_cr_nextPiece_77 hl (k := 1) rfl (iI_add _ _) (by decide) rfl (fun ls hl => ?_)
                refine lv_goto (tgt := 15) hC.1 hC.2.1 d_cr_nextPiece_80 (by decide) ?_
                exact ih_15 (k + 1) _ (by omega) (by first | rfl | omega) (by omega) (by rw [hv1, nxF_s S sh t k _ (by omega), ← hx3, if_neg (by simp [c_2, c_4, c_6, c_7, c_11])]) _ (lv_sub hl [0, 2, 3, 4] rfl)
              · skip
                refine lv_iload_n hC.1 hC.2.1 d_cr_nextPiece_75 rfl (lv_at hl 1 rfl) ?_
                exact rt_R hC hr hlk (by rw [hv1, nxF_s S sh t k _ (by omega), ← hx3, if_pos (by simp [c_2, c_4, c_6, c_7, c_11])]) d_cr_nextPiece_76
    exact loop_15 _ 0 _ (Nat.lt_succ_self _) (by first | rfl | omega) (by omega) (by unfold nxP; rw [if_neg (by omega)]; rfl) _ (lv_sub hl [0, 1, 2, 3] rfl)
  · skip
    refine lv_iconst (v := iI (-1)) hC.1 hC.2.1 d_cr_nextPiece_11 rfl ?_
    exact rt_R hC hr hlk (by unfold nxP; rw [if_pos (by omega)]) d_cr_nextPiece_12
end
