section
-- ===== PART A: goes FIRST, ahead of the names: the tables' words, and 'selects' of the private methods out of them =====
/-- a private method of a class that the tables say can be made, by its rows of tables_1 -/
def lw_okq (q : MethodName × Nat) : Prop := (q.1.cls ≠ "java/lang/invoke/MethodHandle" ∧ q.1.cls ≠ "java/lang/invoke/VarHandle") ∧ Cond.instantiable q.1.cls q.2 ∈ tables_1 ∧ Cond.privateMethod q.1 ∈ tables_1 ∧ Cond.instanceMethod q.1 ∈ tables_1
theorem lw_p0 : lw_okq (⟨"TingDecks", "putNumber", "(I)V"⟩, 17) := ⟨⟨by decide +kernel, by decide +kernel⟩, List.mem_of_getElem? (i := 24) (by decide +kernel), List.mem_of_getElem? (i := 455) (by decide +kernel), List.mem_of_getElem? (i := 456) (by decide +kernel)⟩
theorem lw_p1 : lw_okq (⟨"TingDecks", "isRuleOrNone", "(I)Z"⟩, 17) := ⟨⟨by decide +kernel, by decide +kernel⟩, List.mem_of_getElem? (i := 24) (by decide +kernel), List.mem_of_getElem? (i := 467) (by decide +kernel), List.mem_of_getElem? (i := 468) (by decide +kernel)⟩
theorem lw_p2 : lw_okq (⟨"TingDecks", "stateChanged", "()V"⟩, 17) := ⟨⟨by decide +kernel, by decide +kernel⟩, List.mem_of_getElem? (i := 24) (by decide +kernel), List.mem_of_getElem? (i := 475) (by decide +kernel), List.mem_of_getElem? (i := 476) (by decide +kernel)⟩
theorem lw_p3 : lw_okq (⟨"TingDecks", "netByRule", "(I)I"⟩, 17) := ⟨⟨by decide +kernel, by decide +kernel⟩, List.mem_of_getElem? (i := 24) (by decide +kernel), List.mem_of_getElem? (i := 491) (by decide +kernel), List.mem_of_getElem? (i := 492) (by decide +kernel)⟩
theorem lw_p4 : lw_okq (⟨"TingDecks$Trip", "forgetAll", "()V"⟩, 21) := ⟨⟨by decide +kernel, by decide +kernel⟩, List.mem_of_getElem? (i := 236) (by decide +kernel), List.mem_of_getElem? (i := 537) (by decide +kernel), List.mem_of_getElem? (i := 538) (by decide +kernel)⟩
theorem lw_p5 : lw_okq (⟨"TingDecks$Trip", "pickRider", "(II)I"⟩, 21) := ⟨⟨by decide +kernel, by decide +kernel⟩, List.mem_of_getElem? (i := 236) (by decide +kernel), List.mem_of_getElem? (i := 541) (by decide +kernel), List.mem_of_getElem? (i := 542) (by decide +kernel)⟩
theorem lw_p6 : lw_okq (⟨"TingDecks$Trip", "urgeOf", "(III)I"⟩, 21) := ⟨⟨by decide +kernel, by decide +kernel⟩, List.mem_of_getElem? (i := 236) (by decide +kernel), List.mem_of_getElem? (i := 545) (by decide +kernel), List.mem_of_getElem? (i := 546) (by decide +kernel)⟩
theorem lw_p7 : lw_okq (⟨"TingDecks$Trip", "askRider", "(III)I"⟩, 21) := ⟨⟨by decide +kernel, by decide +kernel⟩, List.mem_of_getElem? (i := 236) (by decide +kernel), List.mem_of_getElem? (i := 560) (by decide +kernel), List.mem_of_getElem? (i := 561) (by decide +kernel)⟩
theorem lw_p8 : lw_okq (⟨"TingDecks", "netOf", "(II)I"⟩, 17) := ⟨⟨by decide +kernel, by decide +kernel⟩, List.mem_of_getElem? (i := 24) (by decide +kernel), List.mem_of_getElem? (i := 572) (by decide +kernel), List.mem_of_getElem? (i := 573) (by decide +kernel)⟩
theorem lw_p9 : lw_okq (⟨"TingDecks", "walked", "()LTingDecks$Trip;"⟩, 17) := ⟨⟨by decide +kernel, by decide +kernel⟩, List.mem_of_getElem? (i := 24) (by decide +kernel), List.mem_of_getElem? (i := 580) (by decide +kernel), List.mem_of_getElem? (i := 581) (by decide +kernel)⟩
theorem lw_p10 : lw_okq (⟨"java/lang/Throwable", "fillInStackTrace", "(I)Ljava/lang/Throwable;"⟩, 6) := ⟨⟨by decide +kernel, by decide +kernel⟩, List.mem_of_getElem? (i := 653) (by decide +kernel), List.mem_of_getElem? (i := 651) (by decide +kernel), List.mem_of_getElem? (i := 652) (by decide +kernel)⟩
theorem lw_p11 : lw_okq (⟨"TingDecks$Tokens", "rowEnd", "(II)I"⟩, 6) := ⟨⟨by decide +kernel, by decide +kernel⟩, List.mem_of_getElem? (i := 188) (by decide +kernel), List.mem_of_getElem? (i := 700) (by decide +kernel), List.mem_of_getElem? (i := 701) (by decide +kernel)⟩
theorem lw_p12 : lw_okq (⟨"TingDecks$Tokens", "numberRead", "()I"⟩, 6) := ⟨⟨by decide +kernel, by decide +kernel⟩, List.mem_of_getElem? (i := 188) (by decide +kernel), List.mem_of_getElem? (i := 704) (by decide +kernel), List.mem_of_getElem? (i := 705) (by decide +kernel)⟩
theorem lw_p13 : lw_okq (⟨"TingDecks$Parser", "readLine", "()Z"⟩, 6) := ⟨⟨by decide +kernel, by decide +kernel⟩, List.mem_of_getElem? (i := 182) (by decide +kernel), List.mem_of_getElem? (i := 711) (by decide +kernel), List.mem_of_getElem? (i := 712) (by decide +kernel)⟩
theorem lw_p14 : lw_okq (⟨"TingDecks$Parser", "readRides", "()Z"⟩, 6) := ⟨⟨by decide +kernel, by decide +kernel⟩, List.mem_of_getElem? (i := 182) (by decide +kernel), List.mem_of_getElem? (i := 768) (by decide +kernel), List.mem_of_getElem? (i := 769) (by decide +kernel)⟩
theorem lw_p15 : lw_okq (⟨"TingDecks$Parser", "refuse", "(I)Z"⟩, 6) := ⟨⟨by decide +kernel, by decide +kernel⟩, List.mem_of_getElem? (i := 182) (by decide +kernel), List.mem_of_getElem? (i := 772) (by decide +kernel), List.mem_of_getElem? (i := 773) (by decide +kernel)⟩
def lw_privs_1 : List (MethodName × Nat) := [(⟨"TingDecks", "putNumber", "(I)V"⟩, 17), (⟨"TingDecks", "isRuleOrNone", "(I)Z"⟩, 17), (⟨"TingDecks", "stateChanged", "()V"⟩, 17), (⟨"TingDecks", "netByRule", "(I)I"⟩, 17), (⟨"TingDecks$Trip", "forgetAll", "()V"⟩, 21), (⟨"TingDecks$Trip", "pickRider", "(II)I"⟩, 21), (⟨"TingDecks$Trip", "urgeOf", "(III)I"⟩, 21), (⟨"TingDecks$Trip", "askRider", "(III)I"⟩, 21), (⟨"TingDecks", "netOf", "(II)I"⟩, 17), (⟨"TingDecks", "walked", "()LTingDecks$Trip;"⟩, 17), (⟨"java/lang/Throwable", "fillInStackTrace", "(I)Ljava/lang/Throwable;"⟩, 6), (⟨"TingDecks$Tokens", "rowEnd", "(II)I"⟩, 6), (⟨"TingDecks$Tokens", "numberRead", "()I"⟩, 6), (⟨"TingDecks$Parser", "readLine", "()Z"⟩, 6), (⟨"TingDecks$Parser", "readRides", "()Z"⟩, 6), (⟨"TingDecks$Parser", "refuse", "(I)Z"⟩, 6)]
theorem lw_r1 : ∀ q ∈ lw_privs_1, lw_okq q := List.forall_mem_cons.mpr ⟨lw_p0, List.forall_mem_cons.mpr ⟨lw_p1, List.forall_mem_cons.mpr ⟨lw_p2, List.forall_mem_cons.mpr ⟨lw_p3, List.forall_mem_cons.mpr ⟨lw_p4, List.forall_mem_cons.mpr ⟨lw_p5, List.forall_mem_cons.mpr ⟨lw_p6, List.forall_mem_cons.mpr ⟨lw_p7, List.forall_mem_cons.mpr ⟨lw_p8, List.forall_mem_cons.mpr ⟨lw_p9, List.forall_mem_cons.mpr ⟨lw_p10, List.forall_mem_cons.mpr ⟨lw_p11, List.forall_mem_cons.mpr ⟨lw_p12, List.forall_mem_cons.mpr ⟨lw_p13, List.forall_mem_cons.mpr ⟨lw_p14, List.forall_mem_cons.mpr ⟨lw_p15, fun _ h => absurd h List.not_mem_nil⟩⟩⟩⟩⟩⟩⟩⟩⟩⟩⟩⟩⟩⟩⟩⟩
theorem lw_p16 : lw_okq (⟨"TingDecks$Parser", "passOnce", "(I)Z"⟩, 6) := ⟨⟨by decide +kernel, by decide +kernel⟩, List.mem_of_getElem? (i := 182) (by decide +kernel), List.mem_of_getElem? (i := 776) (by decide +kernel), List.mem_of_getElem? (i := 777) (by decide +kernel)⟩
theorem lw_p17 : lw_okq (⟨"TingDecks$Parser", "isNumber", "(II)Z"⟩, 6) := ⟨⟨by decide +kernel, by decide +kernel⟩, List.mem_of_getElem? (i := 182) (by decide +kernel), List.mem_of_getElem? (i := 781) (by decide +kernel), List.mem_of_getElem? (i := 782) (by decide +kernel)⟩
theorem lw_p18 : lw_okq (⟨"TingDecks$Parser", "passSign", "(I)Z"⟩, 6) := ⟨⟨by decide +kernel, by decide +kernel⟩, List.mem_of_getElem? (i := 182) (by decide +kernel), List.mem_of_getElem? (i := 785) (by decide +kernel), List.mem_of_getElem? (i := 786) (by decide +kernel)⟩
theorem lw_p19 : lw_okq (⟨"TingDecks$Parser", "readRider", "()Z"⟩, 6) := ⟨⟨by decide +kernel, by decide +kernel⟩, List.mem_of_getElem? (i := 182) (by decide +kernel), List.mem_of_getElem? (i := 790) (by decide +kernel), List.mem_of_getElem? (i := 791) (by decide +kernel)⟩
theorem lw_p20 : lw_okq (⟨"TingDecks$Parser", "readPlace", "(I)Z"⟩, 6) := ⟨⟨by decide +kernel, by decide +kernel⟩, List.mem_of_getElem? (i := 182) (by decide +kernel), List.mem_of_getElem? (i := 794) (by decide +kernel), List.mem_of_getElem? (i := 795) (by decide +kernel)⟩
theorem lw_p21 : lw_okq (⟨"TingDecks$Parser", "readNoteAndTenths", "(I)Z"⟩, 6) := ⟨⟨by decide +kernel, by decide +kernel⟩, List.mem_of_getElem? (i := 182) (by decide +kernel), List.mem_of_getElem? (i := 804) (by decide +kernel), List.mem_of_getElem? (i := 805) (by decide +kernel)⟩
theorem lw_p22 : lw_okq (⟨"TingDecks$Parser", "readRule", "(II)Z"⟩, 6) := ⟨⟨by decide +kernel, by decide +kernel⟩, List.mem_of_getElem? (i := 182) (by decide +kernel), List.mem_of_getElem? (i := 811) (by decide +kernel), List.mem_of_getElem? (i := 812) (by decide +kernel)⟩
theorem lw_p23 : lw_okq (⟨"TingDecks$Parser", "readExpr", "(I)Z"⟩, 6) := ⟨⟨by decide +kernel, by decide +kernel⟩, List.mem_of_getElem? (i := 182) (by decide +kernel), List.mem_of_getElem? (i := 815) (by decide +kernel), List.mem_of_getElem? (i := 816) (by decide +kernel)⟩
theorem lw_p24 : lw_okq (⟨"TingDecks$Parser", "canBeginExpr", "()Z"⟩, 6) := ⟨⟨by decide +kernel, by decide +kernel⟩, List.mem_of_getElem? (i := 182) (by decide +kernel), List.mem_of_getElem? (i := 819) (by decide +kernel), List.mem_of_getElem? (i := 820) (by decide +kernel)⟩
theorem lw_p25 : lw_okq (⟨"TingDecks$Parser", "readAnd", "(I)Z"⟩, 6) := ⟨⟨by decide +kernel, by decide +kernel⟩, List.mem_of_getElem? (i := 182) (by decide +kernel), List.mem_of_getElem? (i := 823) (by decide +kernel), List.mem_of_getElem? (i := 824) (by decide +kernel)⟩
theorem lw_p26 : lw_okq (⟨"TingDecks$Parser", "readNot", "(I)Z"⟩, 6) := ⟨⟨by decide +kernel, by decide +kernel⟩, List.mem_of_getElem? (i := 182) (by decide +kernel), List.mem_of_getElem? (i := 827) (by decide +kernel), List.mem_of_getElem? (i := 828) (by decide +kernel)⟩
theorem lw_p27 : lw_okq (⟨"TingDecks$Parser", "readTest", "(I)Z"⟩, 6) := ⟨⟨by decide +kernel, by decide +kernel⟩, List.mem_of_getElem? (i := 182) (by decide +kernel), List.mem_of_getElem? (i := 832) (by decide +kernel), List.mem_of_getElem? (i := 833) (by decide +kernel)⟩
theorem lw_p28 : lw_okq (⟨"TingDecks$Parser", "readSum", "(I)Z"⟩, 6) := ⟨⟨by decide +kernel, by decide +kernel⟩, List.mem_of_getElem? (i := 182) (by decide +kernel), List.mem_of_getElem? (i := 836) (by decide +kernel), List.mem_of_getElem? (i := 837) (by decide +kernel)⟩
theorem lw_p29 : lw_okq (⟨"TingDecks$Parser", "readProduct", "(I)Z"⟩, 6) := ⟨⟨by decide +kernel, by decide +kernel⟩, List.mem_of_getElem? (i := 182) (by decide +kernel), List.mem_of_getElem? (i := 840) (by decide +kernel), List.mem_of_getElem? (i := 841) (by decide +kernel)⟩
theorem lw_p30 : lw_okq (⟨"TingDecks$Parser", "readPart", "(I)Z"⟩, 6) := ⟨⟨by decide +kernel, by decide +kernel⟩, List.mem_of_getElem? (i := 182) (by decide +kernel), List.mem_of_getElem? (i := 844) (by decide +kernel), List.mem_of_getElem? (i := 845) (by decide +kernel)⟩
theorem lw_p31 : lw_okq (⟨"TingDecks$Parser", "valueNamed", "()I"⟩, 6) := ⟨⟨by decide +kernel, by decide +kernel⟩, List.mem_of_getElem? (i := 182) (by decide +kernel), List.mem_of_getElem? (i := 848) (by decide +kernel), List.mem_of_getElem? (i := 849) (by decide +kernel)⟩
def lw_privs_2 : List (MethodName × Nat) := [(⟨"TingDecks$Parser", "passOnce", "(I)Z"⟩, 6), (⟨"TingDecks$Parser", "isNumber", "(II)Z"⟩, 6), (⟨"TingDecks$Parser", "passSign", "(I)Z"⟩, 6), (⟨"TingDecks$Parser", "readRider", "()Z"⟩, 6), (⟨"TingDecks$Parser", "readPlace", "(I)Z"⟩, 6), (⟨"TingDecks$Parser", "readNoteAndTenths", "(I)Z"⟩, 6), (⟨"TingDecks$Parser", "readRule", "(II)Z"⟩, 6), (⟨"TingDecks$Parser", "readExpr", "(I)Z"⟩, 6), (⟨"TingDecks$Parser", "canBeginExpr", "()Z"⟩, 6), (⟨"TingDecks$Parser", "readAnd", "(I)Z"⟩, 6), (⟨"TingDecks$Parser", "readNot", "(I)Z"⟩, 6), (⟨"TingDecks$Parser", "readTest", "(I)Z"⟩, 6), (⟨"TingDecks$Parser", "readSum", "(I)Z"⟩, 6), (⟨"TingDecks$Parser", "readProduct", "(I)Z"⟩, 6), (⟨"TingDecks$Parser", "readPart", "(I)Z"⟩, 6), (⟨"TingDecks$Parser", "valueNamed", "()I"⟩, 6)]
theorem lw_r2 : ∀ q ∈ lw_privs_2, lw_okq q := List.forall_mem_cons.mpr ⟨lw_p16, List.forall_mem_cons.mpr ⟨lw_p17, List.forall_mem_cons.mpr ⟨lw_p18, List.forall_mem_cons.mpr ⟨lw_p19, List.forall_mem_cons.mpr ⟨lw_p20, List.forall_mem_cons.mpr ⟨lw_p21, List.forall_mem_cons.mpr ⟨lw_p22, List.forall_mem_cons.mpr ⟨lw_p23, List.forall_mem_cons.mpr ⟨lw_p24, List.forall_mem_cons.mpr ⟨lw_p25, List.forall_mem_cons.mpr ⟨lw_p26, List.forall_mem_cons.mpr ⟨lw_p27, List.forall_mem_cons.mpr ⟨lw_p28, List.forall_mem_cons.mpr ⟨lw_p29, List.forall_mem_cons.mpr ⟨lw_p30, List.forall_mem_cons.mpr ⟨lw_p31, fun _ h => absurd h List.not_mem_nil⟩⟩⟩⟩⟩⟩⟩⟩⟩⟩⟩⟩⟩⟩⟩⟩
theorem lw_p32 : lw_okq (⟨"TingDecks$Parser", "putCode", "(I)V"⟩, 6) := ⟨⟨by decide +kernel, by decide +kernel⟩, List.mem_of_getElem? (i := 182) (by decide +kernel), List.mem_of_getElem? (i := 859) (by decide +kernel), List.mem_of_getElem? (i := 860) (by decide +kernel)⟩
theorem lw_p33 : lw_okq (⟨"TingDecks$Parser", "passPicks", "()Z"⟩, 6) := ⟨⟨by decide +kernel, by decide +kernel⟩, List.mem_of_getElem? (i := 182) (by decide +kernel), List.mem_of_getElem? (i := 866) (by decide +kernel), List.mem_of_getElem? (i := 867) (by decide +kernel)⟩
theorem lw_p34 : lw_okq (⟨"TingDecks$Parser", "settingNamed", "()I"⟩, 6) := ⟨⟨by decide +kernel, by decide +kernel⟩, List.mem_of_getElem? (i := 182) (by decide +kernel), List.mem_of_getElem? (i := 870) (by decide +kernel), List.mem_of_getElem? (i := 871) (by decide +kernel)⟩
theorem lw_p35 : lw_okq (⟨"TingDecks$Parser", "readSetting", "(I)Z"⟩, 6) := ⟨⟨by decide +kernel, by decide +kernel⟩, List.mem_of_getElem? (i := 182) (by decide +kernel), List.mem_of_getElem? (i := 879) (by decide +kernel), List.mem_of_getElem? (i := 880) (by decide +kernel)⟩
theorem lw_p36 : lw_okq (⟨"TingDecks", "checkStop", "(I)V"⟩, 17) := ⟨⟨by decide +kernel, by decide +kernel⟩, List.mem_of_getElem? (i := 24) (by decide +kernel), List.mem_of_getElem? (i := 918) (by decide +kernel), List.mem_of_getElem? (i := 919) (by decide +kernel)⟩
theorem lw_p37 : lw_okq (⟨"TingDecks", "checkRider", "(I)V"⟩, 17) := ⟨⟨by decide +kernel, by decide +kernel⟩, List.mem_of_getElem? (i := 24) (by decide +kernel), List.mem_of_getElem? (i := 939) (by decide +kernel), List.mem_of_getElem? (i := 940) (by decide +kernel)⟩
theorem lw_p38 : lw_okq (⟨"TingDecks", "checkWhat", "(II)V"⟩, 17) := ⟨⟨by decide +kernel, by decide +kernel⟩, List.mem_of_getElem? (i := 24) (by decide +kernel), List.mem_of_getElem? (i := 952) (by decide +kernel), List.mem_of_getElem? (i := 953) (by decide +kernel)⟩
theorem lw_p39 : lw_okq (⟨"TingDecks", "isFree", "(II)Z"⟩, 17) := ⟨⟨by decide +kernel, by decide +kernel⟩, List.mem_of_getElem? (i := 24) (by decide +kernel), List.mem_of_getElem? (i := 991) (by decide +kernel), List.mem_of_getElem? (i := 992) (by decide +kernel)⟩
theorem lw_p40 : lw_okq (⟨"TingDecks", "ordered", "(LTingDecks$Trip;)LTingDecks$Orders;"⟩, 17) := ⟨⟨by decide +kernel, by decide +kernel⟩, List.mem_of_getElem? (i := 24) (by decide +kernel), List.mem_of_getElem? (i := 1003) (by decide +kernel), List.mem_of_getElem? (i := 1004) (by decide +kernel)⟩
theorem lw_p41 : lw_okq (⟨"TingDecks$Orders", "goOnFrom", "(LTingDecks$Trip;III)V"⟩, 4) := ⟨⟨by decide +kernel, by decide +kernel⟩, List.mem_of_getElem? (i := 342) (by decide +kernel), List.mem_of_getElem? (i := 1013) (by decide +kernel), List.mem_of_getElem? (i := 1014) (by decide +kernel)⟩
theorem lw_p42 : lw_okq (⟨"TingDecks$Orders", "findMost", "(LTingDecks$Trip;I)V"⟩, 4) := ⟨⟨by decide +kernel, by decide +kernel⟩, List.mem_of_getElem? (i := 342) (by decide +kernel), List.mem_of_getElem? (i := 1020) (by decide +kernel), List.mem_of_getElem? (i := 1021) (by decide +kernel)⟩
theorem lw_p43 : lw_okq (⟨"TingDecks", "doorLine", "(III)I"⟩, 17) := ⟨⟨by decide +kernel, by decide +kernel⟩, List.mem_of_getElem? (i := 24) (by decide +kernel), List.mem_of_getElem? (i := 1061) (by decide +kernel), List.mem_of_getElem? (i := 1062) (by decide +kernel)⟩
theorem lw_p44 : lw_okq (⟨"TingDecks", "isAsCounted", "(I)Z"⟩, 17) := ⟨⟨by decide +kernel, by decide +kernel⟩, List.mem_of_getElem? (i := 24) (by decide +kernel), List.mem_of_getElem? (i := 1115) (by decide +kernel), List.mem_of_getElem? (i := 1116) (by decide +kernel)⟩
theorem lw_p45 : lw_okq (⟨"TingDecks", "reckonedChances", "()LTingDecks$Chances;"⟩, 17) := ⟨⟨by decide +kernel, by decide +kernel⟩, List.mem_of_getElem? (i := 24) (by decide +kernel), List.mem_of_getElem? (i := 1204) (by decide +kernel), List.mem_of_getElem? (i := 1205) (by decide +kernel)⟩
theorem lw_p46 : lw_okq (⟨"TingDecksModel", "lays", "(I)V"⟩, 83) := ⟨⟨by decide +kernel, by decide +kernel⟩, List.mem_of_getElem? (i := 1232) (by decide +kernel), List.mem_of_getElem? (i := 1497) (by decide +kernel), List.mem_of_getElem? (i := 1498) (by decide +kernel)⟩
theorem lw_p47 : lw_okq (⟨"TingDecksModel", "right", "(ZI)Z"⟩, 83) := ⟨⟨by decide +kernel, by decide +kernel⟩, List.mem_of_getElem? (i := 1232) (by decide +kernel), List.mem_of_getElem? (i := 1505) (by decide +kernel), List.mem_of_getElem? (i := 1506) (by decide +kernel)⟩
def lw_privs_3 : List (MethodName × Nat) := [(⟨"TingDecks$Parser", "putCode", "(I)V"⟩, 6), (⟨"TingDecks$Parser", "passPicks", "()Z"⟩, 6), (⟨"TingDecks$Parser", "settingNamed", "()I"⟩, 6), (⟨"TingDecks$Parser", "readSetting", "(I)Z"⟩, 6), (⟨"TingDecks", "checkStop", "(I)V"⟩, 17), (⟨"TingDecks", "checkRider", "(I)V"⟩, 17), (⟨"TingDecks", "checkWhat", "(II)V"⟩, 17), (⟨"TingDecks", "isFree", "(II)Z"⟩, 17), (⟨"TingDecks", "ordered", "(LTingDecks$Trip;)LTingDecks$Orders;"⟩, 17), (⟨"TingDecks$Orders", "goOnFrom", "(LTingDecks$Trip;III)V"⟩, 4), (⟨"TingDecks$Orders", "findMost", "(LTingDecks$Trip;I)V"⟩, 4), (⟨"TingDecks", "doorLine", "(III)I"⟩, 17), (⟨"TingDecks", "isAsCounted", "(I)Z"⟩, 17), (⟨"TingDecks", "reckonedChances", "()LTingDecks$Chances;"⟩, 17), (⟨"TingDecksModel", "lays", "(I)V"⟩, 83), (⟨"TingDecksModel", "right", "(ZI)Z"⟩, 83)]
theorem lw_r3 : ∀ q ∈ lw_privs_3, lw_okq q := List.forall_mem_cons.mpr ⟨lw_p32, List.forall_mem_cons.mpr ⟨lw_p33, List.forall_mem_cons.mpr ⟨lw_p34, List.forall_mem_cons.mpr ⟨lw_p35, List.forall_mem_cons.mpr ⟨lw_p36, List.forall_mem_cons.mpr ⟨lw_p37, List.forall_mem_cons.mpr ⟨lw_p38, List.forall_mem_cons.mpr ⟨lw_p39, List.forall_mem_cons.mpr ⟨lw_p40, List.forall_mem_cons.mpr ⟨lw_p41, List.forall_mem_cons.mpr ⟨lw_p42, List.forall_mem_cons.mpr ⟨lw_p43, List.forall_mem_cons.mpr ⟨lw_p44, List.forall_mem_cons.mpr ⟨lw_p45, List.forall_mem_cons.mpr ⟨lw_p46, List.forall_mem_cons.mpr ⟨lw_p47, fun _ h => absurd h List.not_mem_nil⟩⟩⟩⟩⟩⟩⟩⟩⟩⟩⟩⟩⟩⟩⟩⟩
theorem lw_p48 : lw_okq (⟨"TingDecksModel", "goes", "()V"⟩, 83) := ⟨⟨by decide +kernel, by decide +kernel⟩, List.mem_of_getElem? (i := 1232) (by decide +kernel), List.mem_of_getElem? (i := 1509) (by decide +kernel), List.mem_of_getElem? (i := 1510) (by decide +kernel)⟩
theorem lw_p49 : lw_okq (⟨"TingDecksModel", "byteAt", "(I)I"⟩, 83) := ⟨⟨by decide +kernel, by decide +kernel⟩, List.mem_of_getElem? (i := 1232) (by decide +kernel), List.mem_of_getElem? (i := 1513) (by decide +kernel), List.mem_of_getElem? (i := 1514) (by decide +kernel)⟩
theorem lw_p50 : lw_okq (⟨"TingDecksModel", "isGood", "()Z"⟩, 83) := ⟨⟨by decide +kernel, by decide +kernel⟩, List.mem_of_getElem? (i := 1232) (by decide +kernel), List.mem_of_getElem? (i := 1523) (by decide +kernel), List.mem_of_getElem? (i := 1524) (by decide +kernel)⟩
theorem lw_p51 : lw_okq (⟨"TingDecksModel", "line", "()V"⟩, 83) := ⟨⟨by decide +kernel, by decide +kernel⟩, List.mem_of_getElem? (i := 1232) (by decide +kernel), List.mem_of_getElem? (i := 1527) (by decide +kernel), List.mem_of_getElem? (i := 1528) (by decide +kernel)⟩
theorem lw_p52 : lw_okq (⟨"TingDecksModel", "knownWord", "()I"⟩, 83) := ⟨⟨by decide +kernel, by decide +kernel⟩, List.mem_of_getElem? (i := 1232) (by decide +kernel), List.mem_of_getElem? (i := 1531) (by decide +kernel), List.mem_of_getElem? (i := 1532) (by decide +kernel)⟩
theorem lw_p53 : lw_okq (⟨"TingDecksModel", "readsRides", "()V"⟩, 83) := ⟨⟨by decide +kernel, by decide +kernel⟩, List.mem_of_getElem? (i := 1232) (by decide +kernel), List.mem_of_getElem? (i := 1542) (by decide +kernel), List.mem_of_getElem? (i := 1543) (by decide +kernel)⟩
theorem lw_p54 : lw_okq (⟨"TingDecksModel", "wrong", "(I)V"⟩, 83) := ⟨⟨by decide +kernel, by decide +kernel⟩, List.mem_of_getElem? (i := 1232) (by decide +kernel), List.mem_of_getElem? (i := 1546) (by decide +kernel), List.mem_of_getElem? (i := 1547) (by decide +kernel)⟩
theorem lw_p55 : lw_okq (⟨"TingDecksModel", "once", "(I)Z"⟩, 83) := ⟨⟨by decide +kernel, by decide +kernel⟩, List.mem_of_getElem? (i := 1232) (by decide +kernel), List.mem_of_getElem? (i := 1550) (by decide +kernel), List.mem_of_getElem? (i := 1551) (by decide +kernel)⟩
theorem lw_p56 : lw_okq (⟨"TingDecksModel", "number", "(II)I"⟩, 83) := ⟨⟨by decide +kernel, by decide +kernel⟩, List.mem_of_getElem? (i := 1232) (by decide +kernel), List.mem_of_getElem? (i := 1554) (by decide +kernel), List.mem_of_getElem? (i := 1555) (by decide +kernel)⟩
theorem lw_p57 : lw_okq (⟨"TingDecksModel", "numberHere", "(II)Z"⟩, 83) := ⟨⟨by decide +kernel, by decide +kernel⟩, List.mem_of_getElem? (i := 1232) (by decide +kernel), List.mem_of_getElem? (i := 1558) (by decide +kernel), List.mem_of_getElem? (i := 1559) (by decide +kernel)⟩
theorem lw_p58 : lw_okq (⟨"TingDecksModel", "readsRider", "()V"⟩, 83) := ⟨⟨by decide +kernel, by decide +kernel⟩, List.mem_of_getElem? (i := 1232) (by decide +kernel), List.mem_of_getElem? (i := 1562) (by decide +kernel), List.mem_of_getElem? (i := 1563) (by decide +kernel)⟩
theorem lw_p59 : lw_okq (⟨"TingDecksModel", "need", "(Z)V"⟩, 83) := ⟨⟨by decide +kernel, by decide +kernel⟩, List.mem_of_getElem? (i := 1232) (by decide +kernel), List.mem_of_getElem? (i := 1566) (by decide +kernel), List.mem_of_getElem? (i := 1567) (by decide +kernel)⟩
theorem lw_p60 : lw_okq (⟨"TingDecksModel", "expression", "()V"⟩, 83) := ⟨⟨by decide +kernel, by decide +kernel⟩, List.mem_of_getElem? (i := 1232) (by decide +kernel), List.mem_of_getElem? (i := 1570) (by decide +kernel), List.mem_of_getElem? (i := 1571) (by decide +kernel)⟩
theorem lw_p61 : lw_okq (⟨"TingDecksModel", "deeper", "()V"⟩, 83) := ⟨⟨by decide +kernel, by decide +kernel⟩, List.mem_of_getElem? (i := 1232) (by decide +kernel), List.mem_of_getElem? (i := 1574) (by decide +kernel), List.mem_of_getElem? (i := 1575) (by decide +kernel)⟩
theorem lw_p62 : lw_okq (⟨"TingDecksModel", "isSign", "(I)Z"⟩, 83) := ⟨⟨by decide +kernel, by decide +kernel⟩, List.mem_of_getElem? (i := 1232) (by decide +kernel), List.mem_of_getElem? (i := 1578) (by decide +kernel), List.mem_of_getElem? (i := 1579) (by decide +kernel)⟩
theorem lw_p63 : lw_okq (⟨"TingDecksModel", "operand", "(Z)V"⟩, 83) := ⟨⟨by decide +kernel, by decide +kernel⟩, List.mem_of_getElem? (i := 1232) (by decide +kernel), List.mem_of_getElem? (i := 1582) (by decide +kernel), List.mem_of_getElem? (i := 1583) (by decide +kernel)⟩
def lw_privs_4 : List (MethodName × Nat) := [(⟨"TingDecksModel", "goes", "()V"⟩, 83), (⟨"TingDecksModel", "byteAt", "(I)I"⟩, 83), (⟨"TingDecksModel", "isGood", "()Z"⟩, 83), (⟨"TingDecksModel", "line", "()V"⟩, 83), (⟨"TingDecksModel", "knownWord", "()I"⟩, 83), (⟨"TingDecksModel", "readsRides", "()V"⟩, 83), (⟨"TingDecksModel", "wrong", "(I)V"⟩, 83), (⟨"TingDecksModel", "once", "(I)Z"⟩, 83), (⟨"TingDecksModel", "number", "(II)I"⟩, 83), (⟨"TingDecksModel", "numberHere", "(II)Z"⟩, 83), (⟨"TingDecksModel", "readsRider", "()V"⟩, 83), (⟨"TingDecksModel", "need", "(Z)V"⟩, 83), (⟨"TingDecksModel", "expression", "()V"⟩, 83), (⟨"TingDecksModel", "deeper", "()V"⟩, 83), (⟨"TingDecksModel", "isSign", "(I)Z"⟩, 83), (⟨"TingDecksModel", "operand", "(Z)V"⟩, 83)]
theorem lw_r4 : ∀ q ∈ lw_privs_4, lw_okq q := List.forall_mem_cons.mpr ⟨lw_p48, List.forall_mem_cons.mpr ⟨lw_p49, List.forall_mem_cons.mpr ⟨lw_p50, List.forall_mem_cons.mpr ⟨lw_p51, List.forall_mem_cons.mpr ⟨lw_p52, List.forall_mem_cons.mpr ⟨lw_p53, List.forall_mem_cons.mpr ⟨lw_p54, List.forall_mem_cons.mpr ⟨lw_p55, List.forall_mem_cons.mpr ⟨lw_p56, List.forall_mem_cons.mpr ⟨lw_p57, List.forall_mem_cons.mpr ⟨lw_p58, List.forall_mem_cons.mpr ⟨lw_p59, List.forall_mem_cons.mpr ⟨lw_p60, List.forall_mem_cons.mpr ⟨lw_p61, List.forall_mem_cons.mpr ⟨lw_p62, List.forall_mem_cons.mpr ⟨lw_p63, fun _ h => absurd h List.not_mem_nil⟩⟩⟩⟩⟩⟩⟩⟩⟩⟩⟩⟩⟩⟩⟩⟩
theorem lw_p64 : lw_okq (⟨"TingDecksModel", "waitsFor", "(I)V"⟩, 83) := ⟨⟨by decide +kernel, by decide +kernel⟩, List.mem_of_getElem? (i := 1232) (by decide +kernel), List.mem_of_getElem? (i := 1586) (by decide +kernel), List.mem_of_getElem? (i := 1587) (by decide +kernel)⟩
theorem lw_p65 : lw_okq (⟨"TingDecksModel", "part", "()V"⟩, 83) := ⟨⟨by decide +kernel, by decide +kernel⟩, List.mem_of_getElem? (i := 1232) (by decide +kernel), List.mem_of_getElem? (i := 1590) (by decide +kernel), List.mem_of_getElem? (i := 1591) (by decide +kernel)⟩
theorem lw_p66 : lw_okq (⟨"TingDecksModel", "puts", "(I)V"⟩, 83) := ⟨⟨by decide +kernel, by decide +kernel⟩, List.mem_of_getElem? (i := 1232) (by decide +kernel), List.mem_of_getElem? (i := 1594) (by decide +kernel), List.mem_of_getElem? (i := 1595) (by decide +kernel)⟩
theorem lw_p67 : lw_okq (⟨"TingDecksModel", "drops", "(I)V"⟩, 83) := ⟨⟨by decide +kernel, by decide +kernel⟩, List.mem_of_getElem? (i := 1232) (by decide +kernel), List.mem_of_getElem? (i := 1598) (by decide +kernel), List.mem_of_getElem? (i := 1599) (by decide +kernel)⟩
theorem lw_p68 : lw_okq (⟨"TingDecksModel", "isOpened", "()Z"⟩, 83) := ⟨⟨by decide +kernel, by decide +kernel⟩, List.mem_of_getElem? (i := 1232) (by decide +kernel), List.mem_of_getElem? (i := 1608) (by decide +kernel), List.mem_of_getElem? (i := 1609) (by decide +kernel)⟩
theorem lw_p69 : lw_okq (⟨"TingDecksModel", "closes", "()V"⟩, 83) := ⟨⟨by decide +kernel, by decide +kernel⟩, List.mem_of_getElem? (i := 1232) (by decide +kernel), List.mem_of_getElem? (i := 1612) (by decide +kernel), List.mem_of_getElem? (i := 1613) (by decide +kernel)⟩
theorem lw_p70 : lw_okq (⟨"TingDecksModel", "copies", "([I[I)V"⟩, 83) := ⟨⟨by decide +kernel, by decide +kernel⟩, List.mem_of_getElem? (i := 1232) (by decide +kernel), List.mem_of_getElem? (i := 1616) (by decide +kernel), List.mem_of_getElem? (i := 1617) (by decide +kernel)⟩
theorem lw_p71 : lw_okq (⟨"TingDecksModel", "taken", "()I"⟩, 83) := ⟨⟨by decide +kernel, by decide +kernel⟩, List.mem_of_getElem? (i := 1232) (by decide +kernel), List.mem_of_getElem? (i := 1635) (by decide +kernel), List.mem_of_getElem? (i := 1636) (by decide +kernel)⟩
theorem lw_p72 : lw_okq (⟨"TingDecksModel", "everybody", "()I"⟩, 83) := ⟨⟨by decide +kernel, by decide +kernel⟩, List.mem_of_getElem? (i := 1232) (by decide +kernel), List.mem_of_getElem? (i := 1639) (by decide +kernel), List.mem_of_getElem? (i := 1640) (by decide +kernel)⟩
theorem lw_p73 : lw_okq (⟨"TingDecksModel", "takenOf", "(I)I"⟩, 83) := ⟨⟨by decide +kernel, by decide +kernel⟩, List.mem_of_getElem? (i := 1232) (by decide +kernel), List.mem_of_getElem? (i := 1643) (by decide +kernel), List.mem_of_getElem? (i := 1644) (by decide +kernel)⟩
theorem lw_p74 : lw_okq (⟨"TingDecksModel", "runs", "(II)V"⟩, 83) := ⟨⟨by decide +kernel, by decide +kernel⟩, List.mem_of_getElem? (i := 1232) (by decide +kernel), List.mem_of_getElem? (i := 1647) (by decide +kernel), List.mem_of_getElem? (i := 1648) (by decide +kernel)⟩
theorem lw_p75 : lw_okq (⟨"TingDecksModel", "atSecond", "(I)I"⟩, 83) := ⟨⟨by decide +kernel, by decide +kernel⟩, List.mem_of_getElem? (i := 1232) (by decide +kernel), List.mem_of_getElem? (i := 1651) (by decide +kernel), List.mem_of_getElem? (i := 1652) (by decide +kernel)⟩
theorem lw_p76 : lw_okq (⟨"TingDecksModel", "picks", "(IIII)I"⟩, 83) := ⟨⟨by decide +kernel, by decide +kernel⟩, List.mem_of_getElem? (i := 1232) (by decide +kernel), List.mem_of_getElem? (i := 1655) (by decide +kernel), List.mem_of_getElem? (i := 1656) (by decide +kernel)⟩
theorem lw_p77 : lw_okq (⟨"TingDecksModel", "wayTo", "(II)I"⟩, 83) := ⟨⟨by decide +kernel, by decide +kernel⟩, List.mem_of_getElem? (i := 1232) (by decide +kernel), List.mem_of_getElem? (i := 1659) (by decide +kernel), List.mem_of_getElem? (i := 1660) (by decide +kernel)⟩
theorem lw_p78 : lw_okq (⟨"TingDecksModel", "value", "(IIII)I"⟩, 83) := ⟨⟨by decide +kernel, by decide +kernel⟩, List.mem_of_getElem? (i := 1232) (by decide +kernel), List.mem_of_getElem? (i := 1666) (by decide +kernel), List.mem_of_getElem? (i := 1667) (by decide +kernel)⟩
theorem lw_p79 : lw_okq (⟨"TingDecksModel", "fareOf", "(I)I"⟩, 83) := ⟨⟨by decide +kernel, by decide +kernel⟩, List.mem_of_getElem? (i := 1232) (by decide +kernel), List.mem_of_getElem? (i := 1670) (by decide +kernel), List.mem_of_getElem? (i := 1671) (by decide +kernel)⟩
def lw_privs_5 : List (MethodName × Nat) := [(⟨"TingDecksModel", "waitsFor", "(I)V"⟩, 83), (⟨"TingDecksModel", "part", "()V"⟩, 83), (⟨"TingDecksModel", "puts", "(I)V"⟩, 83), (⟨"TingDecksModel", "drops", "(I)V"⟩, 83), (⟨"TingDecksModel", "isOpened", "()Z"⟩, 83), (⟨"TingDecksModel", "closes", "()V"⟩, 83), (⟨"TingDecksModel", "copies", "([I[I)V"⟩, 83), (⟨"TingDecksModel", "taken", "()I"⟩, 83), (⟨"TingDecksModel", "everybody", "()I"⟩, 83), (⟨"TingDecksModel", "takenOf", "(I)I"⟩, 83), (⟨"TingDecksModel", "runs", "(II)V"⟩, 83), (⟨"TingDecksModel", "atSecond", "(I)I"⟩, 83), (⟨"TingDecksModel", "picks", "(IIII)I"⟩, 83), (⟨"TingDecksModel", "wayTo", "(II)I"⟩, 83), (⟨"TingDecksModel", "value", "(IIII)I"⟩, 83), (⟨"TingDecksModel", "fareOf", "(I)I"⟩, 83)]
theorem lw_r5 : ∀ q ∈ lw_privs_5, lw_okq q := List.forall_mem_cons.mpr ⟨lw_p64, List.forall_mem_cons.mpr ⟨lw_p65, List.forall_mem_cons.mpr ⟨lw_p66, List.forall_mem_cons.mpr ⟨lw_p67, List.forall_mem_cons.mpr ⟨lw_p68, List.forall_mem_cons.mpr ⟨lw_p69, List.forall_mem_cons.mpr ⟨lw_p70, List.forall_mem_cons.mpr ⟨lw_p71, List.forall_mem_cons.mpr ⟨lw_p72, List.forall_mem_cons.mpr ⟨lw_p73, List.forall_mem_cons.mpr ⟨lw_p74, List.forall_mem_cons.mpr ⟨lw_p75, List.forall_mem_cons.mpr ⟨lw_p76, List.forall_mem_cons.mpr ⟨lw_p77, List.forall_mem_cons.mpr ⟨lw_p78, List.forall_mem_cons.mpr ⟨lw_p79, fun _ h => absurd h List.not_mem_nil⟩⟩⟩⟩⟩⟩⟩⟩⟩⟩⟩⟩⟩⟩⟩⟩
theorem lw_p80 : lw_okq (⟨"TingDecksModel", "tells", "(I)V"⟩, 83) := ⟨⟨by decide +kernel, by decide +kernel⟩, List.mem_of_getElem? (i := 1232) (by decide +kernel), List.mem_of_getElem? (i := 1674) (by decide +kernel), List.mem_of_getElem? (i := 1675) (by decide +kernel)⟩
theorem lw_p81 : lw_okq (⟨"TingDecksModel", "reckons", "(I)I"⟩, 83) := ⟨⟨by decide +kernel, by decide +kernel⟩, List.mem_of_getElem? (i := 1232) (by decide +kernel), List.mem_of_getElem? (i := 1678) (by decide +kernel), List.mem_of_getElem? (i := 1679) (by decide +kernel)⟩
theorem lw_p82 : lw_okq (⟨"TingDecksModel", "stopBy", "(I)I"⟩, 83) := ⟨⟨by decide +kernel, by decide +kernel⟩, List.mem_of_getElem? (i := 1232) (by decide +kernel), List.mem_of_getElem? (i := 1685) (by decide +kernel), List.mem_of_getElem? (i := 1686) (by decide +kernel)⟩
theorem lw_p83 : lw_okq (⟨"TingDecksModel", "takeOf", "(I)I"⟩, 83) := ⟨⟨by decide +kernel, by decide +kernel⟩, List.mem_of_getElem? (i := 1232) (by decide +kernel), List.mem_of_getElem? (i := 1689) (by decide +kernel), List.mem_of_getElem? (i := 1690) (by decide +kernel)⟩
theorem lw_p84 : lw_okq (⟨"TingDecksModel", "faresOf", "(I)I"⟩, 83) := ⟨⟨by decide +kernel, by decide +kernel⟩, List.mem_of_getElem? (i := 1232) (by decide +kernel), List.mem_of_getElem? (i := 1693) (by decide +kernel), List.mem_of_getElem? (i := 1694) (by decide +kernel)⟩
theorem lw_p85 : lw_okq (⟨"TingDecksModel", "net", "()I"⟩, 83) := ⟨⟨by decide +kernel, by decide +kernel⟩, List.mem_of_getElem? (i := 1232) (by decide +kernel), List.mem_of_getElem? (i := 1697) (by decide +kernel), List.mem_of_getElem? (i := 1698) (by decide +kernel)⟩
theorem lw_p86 : lw_okq (⟨"TingDecksModel", "holds", "()I"⟩, 83) := ⟨⟨by decide +kernel, by decide +kernel⟩, List.mem_of_getElem? (i := 1232) (by decide +kernel), List.mem_of_getElem? (i := 1701) (by decide +kernel), List.mem_of_getElem? (i := 1702) (by decide +kernel)⟩
theorem lw_p87 : lw_okq (⟨"TingDecksModel", "isStop", "(I)Z"⟩, 83) := ⟨⟨by decide +kernel, by decide +kernel⟩, List.mem_of_getElem? (i := 1232) (by decide +kernel), List.mem_of_getElem? (i := 1709) (by decide +kernel), List.mem_of_getElem? (i := 1710) (by decide +kernel)⟩
theorem lw_p88 : lw_okq (⟨"TingDecksModel", "isWhat", "(II)Z"⟩, 83) := ⟨⟨by decide +kernel, by decide +kernel⟩, List.mem_of_getElem? (i := 1232) (by decide +kernel), List.mem_of_getElem? (i := 1713) (by decide +kernel), List.mem_of_getElem? (i := 1714) (by decide +kernel)⟩
theorem lw_p89 : lw_okq (⟨"TingDecksModel", "isThere", "(II)Z"⟩, 83) := ⟨⟨by decide +kernel, by decide +kernel⟩, List.mem_of_getElem? (i := 1232) (by decide +kernel), List.mem_of_getElem? (i := 1717) (by decide +kernel), List.mem_of_getElem? (i := 1718) (by decide +kernel)⟩
theorem lw_p90 : lw_okq (⟨"TingDecksModel", "isRider", "(I)Z"⟩, 83) := ⟨⟨by decide +kernel, by decide +kernel⟩, List.mem_of_getElem? (i := 1232) (by decide +kernel), List.mem_of_getElem? (i := 1725) (by decide +kernel), List.mem_of_getElem? (i := 1726) (by decide +kernel)⟩
theorem lw_p91 : lw_okq (⟨"TingDecksModel", "lastSecond", "()I"⟩, 83) := ⟨⟨by decide +kernel, by decide +kernel⟩, List.mem_of_getElem? (i := 1232) (by decide +kernel), List.mem_of_getElem? (i := 1741) (by decide +kernel), List.mem_of_getElem? (i := 1742) (by decide +kernel)⟩
theorem lw_p92 : lw_okq (⟨"TingDecksModel", "refuses", "(I)I"⟩, 83) := ⟨⟨by decide +kernel, by decide +kernel⟩, List.mem_of_getElem? (i := 1232) (by decide +kernel), List.mem_of_getElem? (i := 1757) (by decide +kernel), List.mem_of_getElem? (i := 1758) (by decide +kernel)⟩
theorem lw_p93 : lw_okq (⟨"TingDecksModel", "keeps", "(I)V"⟩, 83) := ⟨⟨by decide +kernel, by decide +kernel⟩, List.mem_of_getElem? (i := 1232) (by decide +kernel), List.mem_of_getElem? (i := 1761) (by decide +kernel), List.mem_of_getElem? (i := 1762) (by decide +kernel)⟩
theorem lw_p94 : lw_okq (⟨"TingDecksModel", "isFree", "(II)Z"⟩, 83) := ⟨⟨by decide +kernel, by decide +kernel⟩, List.mem_of_getElem? (i := 1232) (by decide +kernel), List.mem_of_getElem? (i := 1769) (by decide +kernel), List.mem_of_getElem? (i := 1770) (by decide +kernel)⟩
theorem lw_p95 : lw_okq (⟨"TingDecksModel", "orders", "(I)V"⟩, 83) := ⟨⟨by decide +kernel, by decide +kernel⟩, List.mem_of_getElem? (i := 1232) (by decide +kernel), List.mem_of_getElem? (i := 1781) (by decide +kernel), List.mem_of_getElem? (i := 1782) (by decide +kernel)⟩
def lw_privs_6 : List (MethodName × Nat) := [(⟨"TingDecksModel", "tells", "(I)V"⟩, 83), (⟨"TingDecksModel", "reckons", "(I)I"⟩, 83), (⟨"TingDecksModel", "stopBy", "(I)I"⟩, 83), (⟨"TingDecksModel", "takeOf", "(I)I"⟩, 83), (⟨"TingDecksModel", "faresOf", "(I)I"⟩, 83), (⟨"TingDecksModel", "net", "()I"⟩, 83), (⟨"TingDecksModel", "holds", "()I"⟩, 83), (⟨"TingDecksModel", "isStop", "(I)Z"⟩, 83), (⟨"TingDecksModel", "isWhat", "(II)Z"⟩, 83), (⟨"TingDecksModel", "isThere", "(II)Z"⟩, 83), (⟨"TingDecksModel", "isRider", "(I)Z"⟩, 83), (⟨"TingDecksModel", "lastSecond", "()I"⟩, 83), (⟨"TingDecksModel", "refuses", "(I)I"⟩, 83), (⟨"TingDecksModel", "keeps", "(I)V"⟩, 83), (⟨"TingDecksModel", "isFree", "(II)Z"⟩, 83), (⟨"TingDecksModel", "orders", "(I)V"⟩, 83)]
theorem lw_r6 : ∀ q ∈ lw_privs_6, lw_okq q := List.forall_mem_cons.mpr ⟨lw_p80, List.forall_mem_cons.mpr ⟨lw_p81, List.forall_mem_cons.mpr ⟨lw_p82, List.forall_mem_cons.mpr ⟨lw_p83, List.forall_mem_cons.mpr ⟨lw_p84, List.forall_mem_cons.mpr ⟨lw_p85, List.forall_mem_cons.mpr ⟨lw_p86, List.forall_mem_cons.mpr ⟨lw_p87, List.forall_mem_cons.mpr ⟨lw_p88, List.forall_mem_cons.mpr ⟨lw_p89, List.forall_mem_cons.mpr ⟨lw_p90, List.forall_mem_cons.mpr ⟨lw_p91, List.forall_mem_cons.mpr ⟨lw_p92, List.forall_mem_cons.mpr ⟨lw_p93, List.forall_mem_cons.mpr ⟨lw_p94, List.forall_mem_cons.mpr ⟨lw_p95, fun _ h => absurd h List.not_mem_nil⟩⟩⟩⟩⟩⟩⟩⟩⟩⟩⟩⟩⟩⟩⟩⟩
theorem lw_p96 : lw_okq (⟨"TingDecksModel", "soonestOf", "(I)I"⟩, 83) := ⟨⟨by decide +kernel, by decide +kernel⟩, List.mem_of_getElem? (i := 1232) (by decide +kernel), List.mem_of_getElem? (i := 1786) (by decide +kernel), List.mem_of_getElem? (i := 1787) (by decide +kernel)⟩
theorem lw_p97 : lw_okq (⟨"TingDecksModel", "netBy", "(I)I"⟩, 83) := ⟨⟨by decide +kernel, by decide +kernel⟩, List.mem_of_getElem? (i := 1232) (by decide +kernel), List.mem_of_getElem? (i := 1798) (by decide +kernel), List.mem_of_getElem? (i := 1799) (by decide +kernel)⟩
theorem lw_p98 : lw_okq (⟨"TingDecksModel", "asks", "()V"⟩, 83) := ⟨⟨by decide +kernel, by decide +kernel⟩, List.mem_of_getElem? (i := 1232) (by decide +kernel), List.mem_of_getElem? (i := 1846) (by decide +kernel), List.mem_of_getElem? (i := 1847) (by decide +kernel)⟩
theorem lw_p99 : lw_okq (⟨"TingDecksModel", "weighs", "(I)J"⟩, 83) := ⟨⟨by decide +kernel, by decide +kernel⟩, List.mem_of_getElem? (i := 1232) (by decide +kernel), List.mem_of_getElem? (i := 1850) (by decide +kernel), List.mem_of_getElem? (i := 1851) (by decide +kernel)⟩
theorem lw_p100 : lw_okq (⟨"TingDecksModel", "tens", "()J"⟩, 83) := ⟨⟨by decide +kernel, by decide +kernel⟩, List.mem_of_getElem? (i := 1232) (by decide +kernel), List.mem_of_getElem? (i := 1854) (by decide +kernel), List.mem_of_getElem? (i := 1855) (by decide +kernel)⟩
theorem lw_p101 : lw_okq (⟨"TingDecksModel", "isCounted", "(I)Z"⟩, 83) := ⟨⟨by decide +kernel, by decide +kernel⟩, List.mem_of_getElem? (i := 1232) (by decide +kernel), List.mem_of_getElem? (i := 1878) (by decide +kernel), List.mem_of_getElem? (i := 1879) (by decide +kernel)⟩
theorem lw_p102 : lw_okq (⟨"TingDecksModel", "draw", "(I)I"⟩, 83) := ⟨⟨by decide +kernel, by decide +kernel⟩, List.mem_of_getElem? (i := 1232) (by decide +kernel), List.mem_of_getElem? (i := 1890) (by decide +kernel), List.mem_of_getElem? (i := 1891) (by decide +kernel)⟩
def lw_privs_7 : List (MethodName × Nat) := [(⟨"TingDecksModel", "soonestOf", "(I)I"⟩, 83), (⟨"TingDecksModel", "netBy", "(I)I"⟩, 83), (⟨"TingDecksModel", "asks", "()V"⟩, 83), (⟨"TingDecksModel", "weighs", "(I)J"⟩, 83), (⟨"TingDecksModel", "tens", "()J"⟩, 83), (⟨"TingDecksModel", "isCounted", "(I)Z"⟩, 83), (⟨"TingDecksModel", "draw", "(I)I"⟩, 83)]
theorem lw_r7 : ∀ q ∈ lw_privs_7, lw_okq q := List.forall_mem_cons.mpr ⟨lw_p96, List.forall_mem_cons.mpr ⟨lw_p97, List.forall_mem_cons.mpr ⟨lw_p98, List.forall_mem_cons.mpr ⟨lw_p99, List.forall_mem_cons.mpr ⟨lw_p100, List.forall_mem_cons.mpr ⟨lw_p101, List.forall_mem_cons.mpr ⟨lw_p102, fun _ h => absurd h List.not_mem_nil⟩⟩⟩⟩⟩⟩⟩
def lw_privs : List (MethodName × Nat) := lw_privs_1 ++ (lw_privs_2 ++ (lw_privs_3 ++ (lw_privs_4 ++ (lw_privs_5 ++ (lw_privs_6 ++ (lw_privs_7))))))
def lw_tbl : List Cond := k2_sels lw_privs ++ tables_1
theorem lw_privs_ok : ∀ q ∈ lw_privs, lw_okq q := by
  show ∀ q ∈ lw_privs_1 ++ (lw_privs_2 ++ (lw_privs_3 ++ (lw_privs_4 ++ (lw_privs_5 ++ (lw_privs_6 ++ (lw_privs_7)))))), lw_okq q
  exact List.forall_mem_append.mpr ⟨lw_r1, List.forall_mem_append.mpr ⟨lw_r2, List.forall_mem_append.mpr ⟨lw_r3, List.forall_mem_append.mpr ⟨lw_r4, List.forall_mem_append.mpr ⟨lw_r5, List.forall_mem_append.mpr ⟨lw_r6, lw_r7⟩⟩⟩⟩⟩⟩
end
section
/-! ===== BEGIN words of one list among another's, by their places ===== -/
theorem goodIn_r {big : List Cond} (ws : List Cond) (ps : List Nat) (hp : ws = ps.filterMap (fun i => big[i]?)) (h : ws.all goodWord = true) : GoodIn big ws := by
  intro w hw
  have h1 := List.all_eq_true.mp h w hw
  rw [hp] at hw
  obtain ⟨i, -, hi⟩ := List.mem_filterMap.mp hw
  have hm : w ∈ big := by first | exact List.mem_of_getElem? hi | exact List.getElem?_mem hi
  exact ⟨hm, good_of_word h1⟩
theorem goodIn_app {big a b : List Cond} (ha : GoodIn big a) (hb : GoodIn big b) : GoodIn big (a ++ b) := fun w h => (List.mem_append.mp h).elim (ha w) (hb w)
theorem goodIn_ca {big a b : List Cond} {c : Cond} (ha : GoodIn big (c :: a)) (hb : GoodIn big b) : GoodIn big (c :: (a ++ b)) := fun w h => (List.mem_cons.mp h).elim (fun e => ha w (List.mem_cons.mpr (Or.inl e))) (fun h => (List.mem_append.mp h).elim (fun h => ha w (List.mem_cons.mpr (Or.inr h))) (hb w))
theorem goodIn_sub {big ws : List Cond} (hm : ∀ w ∈ ws, w ∈ big) (h : ws.all goodWord = true) : GoodIn big ws := fun w hw => ⟨hm w hw, good_of_word (List.all_eq_true.mp h w hw)⟩
/-! ===== END ===== -/

/-! ===== BEGIN exceptions that leave a method, and their catching by the caller (launches without stack traces) ===== -/
section VXA
/-! The laws vx_back, vx_callV, vx_callS, vx_callSW, vx_throw0, vx_throwS follow proofs of the library, with one case more: JvmDerived/Free/Laws.lean (Back.of_free), Shelf42/LK1.lean (callV, callS), Shelf/KitTraced.lean (throwNew0V, throwNewS). -/
/-- where a method has thrown q: the class by its name, the cell, what was written, the world -/
def vx_T (XC : String → State → State → Prop) (st : State) (q : Addr) (t : State) (mc ms : Nat) (free : Addr → Prop) : Prop :=
  ∃ (E : String) (ce : Cell) (L : List Loc), XC E st t ∧ t.heap[q]? = some ce ∧ ce.vm = .none ∧ st.vm.findClass E = some ce.cls ∧ st.WarmedH t.vm ∧ st.sameButNew ({ t with vm := st.vm } : State) L mc ms ∧ ∀ z ∈ L, free z.base
def vx_Q (Qc : Array Value → State → Outcome → State → Prop) (XC : String → State → State → Prop) (mc ms : Nat) (free : Addr → Prop) : Array Value → State → Outcome → State → Prop := fun a st o t =>
  (Qc a st o t ∧ ∃ L, FrameEnd st o t L mc ms ∧ ∀ q ∈ L, free q.base) ∨ ∃ q, o = .threw q ∧ vx_T XC st q t mc ms free
/-- a callee that returns or throws -/
def vx_Met (l : Launch) (y : MethodName) (ws : List Cond) (rm : Room) (Pc : Array Value → State → Prop) (Qc : Array Value → State → Outcome → State → Prop) (XC : String → State → State → Prop) (mc ms : Nat) (free : Addr → Prop) : Prop :=
  MetFree l y (headSpec ws rm) Pc (fun _ _ _ _ _ => True) (vx_Q Qc XC mc ms free)
def vx_Post (XC : String → State → State → Prop) (mc ms : Nat) (free : Addr → Prop) : Pt → Array Value → Addr → Pt → Prop := fun A a q B =>
  ∃ (g : JFrame) (mk : MethodId) (t : State) (L : List Loc) (E : String) (ce : Cell), B.U.heap = t.heap ∧ B.U.vm = t.vm ∧ XC E (A.U.calling g mk a) t ∧ t.heap[q]? = some ce ∧ ce.vm = .none ∧ A.U.vm.findClass E = some ce.cls ∧ B.locs = A.locs ++ L ∧ (∀ z ∈ L, free z.base) ∧ B.cells = A.cells + mc ∧ B.slots = A.slots + ms
def vx_Back (l : Launch) (R : Room) (p : Program) (e : Env) (below : List Frame) (s : State) (sargs : Array Value) (y : MethodName) (len W9 : Nat)
    (Pre : Pt → Array Value → Prop) (Post : Pt → Array Value → Option Value → Pt → Prop) (PostX : Pt → Array Value → Addr → Pt → Prop) : Prop :=
  ∀ (m : MethodId) (meth : Method) (c : Code) (A : Pt) (g : JFrame) (ig : Instr) (mk : MethodId) (a : Array Value),
    Stand p l e R s m sargs below meth c A.U A.locs A.cells A.slots → g.method = m → g.locals.size = c.maxLocals → decode c.code g.pc = .ok (ig, len) →
    2 * g.monitorRoom + (g.stack.map fun v => v.category).sum ≤ W9 → A.U.methodNamed? y = some mk → Pre A a →
    (∃ (v : Option Value) (B : Pt), Stand p l e R s m sargs below meth c B.U B.locs B.cells B.slots ∧ Post A a v B ∧
      Steps p.tables e below (doInvoke e (A.U.setTop g) [] mk a).1 (B.U.setTop { g with pc := g.pc + len, stack := v.toList ++ g.stack })) ∨
    (∃ (q : Addr) (B : Pt), Stand p l e R s m sargs below meth c B.U B.locs B.cells B.slots ∧ PostX A a q B ∧
      Steps p.tables e below (doInvoke e (A.U.setTop g) [] mk a).1 ((B.U.setTop g).pushFrame (.throwing q)))
section Payer
variable {l : Launch} {R : Room} {p : Program} {e : Env} {below : List Frame} {s : State} {sargs : Array Value} {y : MethodName} {len W9 : Nat}
theorem vx_back {ws : List Cond} {rm : Room} {Pc : Array Value → State → Prop} {Qc : Array Value → State → Outcome → State → Prop} {XC : String → State → State → Prop} {mc ms : Nat} {free : Addr → Prop} {bytes : ByteArray} {maxL : Nat} {ret : Option FieldType}
    (hM : vx_Met l y ws rm Pc Qc XC mc ms free) (hblind : FrameBlind Pc) (hrc : rm.cells = mc) (hrs : rm.slots = ms)
    (hframes : rm.frames + 1 ≤ R.frames) (hlocals : W9 + (maxL + 11) + rm.locals ≤ R.locals)
    (hws : ∀ w ∈ ws, ∀ a' U, s.WarmedH U.vm → w.before a' U = true) (hcode : Cond.code y bytes maxL ret ∈ ws) (hinit : ∀ a' U, s.WarmedH U.vm → (Cond.initialized y.cls).before a' U = true) :
    vx_Back l R p e below s sargs y len W9 (PreOf R mc ms Pc) (PostOf Qc mc ms free) (vx_Post XC mc ms free) := by
  intro m meth c A g ig mk a X hg hsize hdg hW hn hp
  have h1 : (headSpec ws rm).pre.before a A.U = true := atoms_intro fun w hw => hws w hw _ _ X.warmed
  have h2 : (Cond.code y bytes maxL ret).before a A.U = true := hws _ hcode _ _ X.warmed
  have h3 : (Cond.initialized y.cls).before a A.U = true := hinit _ _ X.warmed
  have h4 : A.cells + (headSpec ws rm).room.cells ≤ R.cells := by rw [show (headSpec ws rm).room.cells = mc from hrc]; exact hp.1
  have h5 : A.slots + (headSpec ws rm).room.slots ≤ R.slots := by rw [show (headSpec ws rm).room.slots = ms from hrs]; exact hp.2.1
  have hPc : Pc a (A.U.calling g mk a) := hblind _ _ _ _ hp.2.2
  obtain ⟨U, Ls, c0, s0⟩ := A
  dsimp only [Pt.U, Pt.locs, Pt.cells, Pt.slots] at h1 h2 h3 h4 h5 X hn hPc ⊢
  obtain ⟨methY, cY, hmY, hcY, -, hlY, -, -, -, -⟩ := Cond.code_spec hn h2
  obtain ⟨kY, hkY, -⟩ := className_of_methodNamed hn
  have hinitY : kY.init = .initialized := Cond.initialized_spec (findClass_of_methodNamed hn) hkY h3
  have h : At U g.method c below := by rw [hg]; exact X.here
  have hlocals9 : W9 + (maxL + 11) + (headSpec ws rm).room.locals ≤ R.locals := hlocals
  have happ : (headSpec ws rm).appliesLoose y e.platform (U.calling g mk a) = true :=
    Spec.appliesLoose_calling (g := g) h hdg hn hkY hinitY
      (X.room_calling (g := g) (R' := (headSpec ws rm).room) hsize hmY hcY hframes (by rw [hlY]; omega) h4 h5) h1
  obtain ⟨mid, hmid⟩ := h.above
  have hfr : (U.setTop g).frames = (.java g :: mid) ++ below := by rw [State.frames_setTop' g h.top, hmid]; rfl
  obtain ⟨o, s₂, hsteps, -, hend, hq⟩ := Steps.callFree hM p X.admits X.cas X.clock (acts := []) hfr happ hPc trivial
  have hq' : vx_Q Qc XC mc ms free a (U.calling g mk a) o s₂ := hq
  rw [State.frames_setTop' g h.top] at hend
  obtain ⟨g₀, hg0⟩ := Option.isSome_iff_exists.mp h.top
  obtain ⟨r, hr⟩ := State.topJava?_eq_some.mp hg0
  have hr' : (({ U with heap := s₂.heap, slotsUsed := s₂.slotsUsed } : State).setVm s₂.vm).frames = .java g₀ :: r := hr
  rcases hq' with ⟨hqc, L, hfe, hL⟩ | ⟨q, rfl, E, ce, L, hx, hce, hcv, hcl, hW₂, hsm, hL⟩
  · obtain ⟨⟨v, rfl⟩, hW₂, e2, q2, q3, q4, q5, q6⟩ := id hfe
    have e3 : s₂ = ({ (U.calling g mk a).setFrames s₂.frames with heap := s₂.heap, slotsUsed := s₂.slotsUsed } : State).setVm s₂.vm := by
      have : s₂ = ({ s₂ with vm := (U.calling g mk a).vm } : State).setVm s₂.vm := rfl
      rw [e2] at this
      exact this
    obtain ⟨c₂, i₂, len₂, hc₂, hd₂, hf₂⟩ := hend
    have hW' : U.WarmedH s₂.vm := hW₂
    have hcc : c₂ = c := by
      have h1 : s₂.code? g.method = U.code? g.method := by
        rw [State.code?_eq, State.code?_eq, hW'.alike.method?]
      exact Option.some.inj (hc₂.symm.trans (h1.trans h.code))
    subst hcc
    have hlen : len₂ = len := by rw [hdg] at hd₂; cases hd₂; rfl
    subst hlen
    have hs₂ : s₂ = (({ U with heap := s₂.heap, slotsUsed := s₂.slotsUsed } : State).setVm s₂.vm).setTop { g with pc := g.pc + len₂, stack := v.toList ++ g.stack } := by
      refine e3.trans ?_
      rw [hf₂, State.calling_eq h.top, State.setFrames_setFrames, State.setTop_of_frames _ hr', hr]
      rfl
    have hsame : U.sameButNew ({ U with heap := s₂.heap, slotsUsed := s₂.slotsUsed } : State) L mc ms := by
      refine ⟨?_, q2, q3, q4, q5, q6⟩
      obtain ⟨t, ht, -⟩ := State.frames_cons hr
      show ({ U with heap := s₂.heap, slotsUsed := s₂.slotsUsed } : State) = { U.setFrames U.frames with heap := s₂.heap, slotsUsed := s₂.slotsUsed }
      rw [State.setFrames_self ht]
    subst hg
    refine Or.inl ⟨v, ⟨(({ U with heap := s₂.heap, slotsUsed := s₂.slotsUsed } : State).setVm s₂.vm), Ls ++ L, c0 + mc, s0 + ms⟩,
      ⟨X.admits, X.cas, X.clock, X.frames, X.room, X.hears, X.method, X.code, (X.here.setHeapUsed s₂.heap s₂.slotsUsed).setVm hW'.alike, X.tail, State.WarmedH.trans X.warmed hW', X.limits, X.bytes, X.same.trans (hsame.setVm s.vm)⟩,
      ⟨g, mk, s₂, L, rfl, rfl, hqc, rfl, hL, rfl, rfl⟩, ?_⟩
    show Steps p.tables e below _ ((({ U with heap := s₂.heap, slotsUsed := s₂.slotsUsed } : State).setVm s₂.vm).setTop { g with pc := g.pc + len₂, stack := v.toList ++ g.stack })
    rw [← hs₂]
    exact hsteps
  · obtain ⟨e2, q2, q3, q4, q5, q6⟩ := id hsm
    have e3 : s₂ = ({ (U.calling g mk a).setFrames s₂.frames with heap := s₂.heap, slotsUsed := s₂.slotsUsed } : State).setVm s₂.vm := by
      have : s₂ = ({ s₂ with vm := (U.calling g mk a).vm } : State).setVm s₂.vm := rfl
      rw [e2] at this
      exact this
    have hf₂ : s₂.frames = .throwing q :: .java g :: U.frames.tail := hend
    have hW' : U.WarmedH s₂.vm := hW₂
    have hs₂ : s₂ = ((({ U with heap := s₂.heap, slotsUsed := s₂.slotsUsed } : State).setVm s₂.vm).setTop g).pushFrame (.throwing q) := by
      refine e3.trans ?_
      rw [hf₂, State.calling_eq h.top, State.setFrames_setFrames, State.pushFrame, State.frames_setTop _ hr', State.setTop_of_frames _ hr', State.setFrames_setFrames, hr]
      rfl
    have hsame : U.sameButNew ({ U with heap := s₂.heap, slotsUsed := s₂.slotsUsed } : State) L mc ms := by
      refine ⟨?_, q2, q3, q4, q5, q6⟩
      obtain ⟨t, ht, -⟩ := State.frames_cons hr
      show ({ U with heap := s₂.heap, slotsUsed := s₂.slotsUsed } : State) = { U.setFrames U.frames with heap := s₂.heap, slotsUsed := s₂.slotsUsed }
      rw [State.setFrames_self ht]
    subst hg
    refine Or.inr ⟨q, ⟨(({ U with heap := s₂.heap, slotsUsed := s₂.slotsUsed } : State).setVm s₂.vm), Ls ++ L, c0 + mc, s0 + ms⟩,
      ⟨X.admits, X.cas, X.clock, X.frames, X.room, X.hears, X.method, X.code, (X.here.setHeapUsed s₂.heap s₂.slotsUsed).setVm hW'.alike, X.tail, State.WarmedH.trans X.warmed hW', X.limits, X.bytes, X.same.trans (hsame.setVm s.vm)⟩,
      ⟨g, mk, s₂, L, E, ce, rfl, rfl, hx, hce, hcv, hcl, rfl, hL, rfl, rfl⟩, ?_⟩
    show Steps p.tables e below _ (((({ U with heap := s₂.heap, slotsUsed := s₂.slotsUsed } : State).setVm s₂.vm).setTop g).pushFrame (.throwing q))
    rw [← hs₂]
    exact hsteps
end Payer
section Calls
variable {p : Program} {l : Launch} {e : Env} {R : Room} {s : State} {m : MethodId} {args : Array Value} {below : List Frame} {meth : Method} {c : Code} {T : State} {locs : List Loc} {cells slots : Nat}
theorem vx_callV (X : Stand p l e R s m args below meth c T locs cells slots) (hexec : p.tables.exec = Jvm.exec) {own C : String} {index : Nat} {y : MethodName} {bytes : ByteArray} {maxL : Nat} {ret : Option FieldType}
    (hown : s.vm.findClass own = some m.cls) (hlink : (Cond.methodLink own index y).before args s = true) (hinst : (Cond.instanceMethod y).before args s = true) (hsel : (Cond.selects C y y).before args s = true)
    (hcode : (Cond.code y bytes maxL ret).before args s = true) (hy : y.cls ≠ "java/lang/invoke/MethodHandle" ∧ y.cls ≠ "java/lang/invoke/VarHandle")
    {W9 : Nat} {Pre : Pt → Array Value → Prop} {Post : Pt → Array Value → Option Value → Pt → Prop} {PostX : Pt → Array Value → Addr → Pt → Prop} (hK : vx_Back l R p e below s args y 3 W9 Pre Post PostX)
    {b : Addr} {cellB : Cell} (hcell : T.heap[b]? = some cellB) (hobj : cellB.vm.isStatics = false) (hcls : s.vm.findClass C = some cellB.cls)
    {g : JFrame} (hg : g.method = m) (hsize : g.locals.size = c.maxLocals) {argsL rest : List Value} (hlen : ∀ sig, parseMethodDescriptor y.desc = some sig → argsL.length = sig.parameters.length)
    (hstack : g.stack = argsL.reverse ++ .ref b :: rest) (hW : 2 * g.monitorRoom + (rest.map fun v => v.category).sum ≤ W9) (hdg : decode c.code g.pc = .ok (.invokevirtual index, 3))
    (hpre : ∀ vm₁, s.WarmedH vm₁ → Pre ⟨T.setVm vm₁, locs, cells, slots⟩ (Value.ref b :: argsL).toArray) :
    (∃ (v : Option Value) (vm₁ : Vm) (B : Pt), s.WarmedH vm₁ ∧ Stand p l e R s m args below meth c B.U B.locs B.cells B.slots ∧ Post ⟨T.setVm vm₁, locs, cells, slots⟩ (Value.ref b :: argsL).toArray v B ∧
      ∀ target, Steps p.tables e below (B.U.setTop { g with pc := g.pc + 3, stack := v.toList ++ rest }) target → Steps p.tables e below (T.setTop g) target) ∨
    (∃ (q : Addr) (vm₁ : Vm) (B : Pt), s.WarmedH vm₁ ∧ Stand p l e R s m args below meth c B.U B.locs B.cells B.slots ∧ PostX ⟨T.setVm vm₁, locs, cells, slots⟩ (Value.ref b :: argsL).toArray q B ∧
      Steps p.tables e below (T.setTop g) ((B.U.setTop { g with stack := rest }).pushFrame (.throwing q))) := by
  obtain ⟨mk, methM, hnamed, hmethM, hstM, habM⟩ := Cond.instanceMethod_spec hinst
  obtain ⟨methM', cM, hmethM', -, -, -, -, -, -, hsigM⟩ := Cond.code_spec hnamed hcode
  cases hmethM.symm.trans hmethM'
  obtain ⟨c2, r2, m2, q1, q2, q3, q4, kP, hkP, hkPi⟩ := Cond.selects_spec hsel
  cases hcls.symm.trans q1
  cases (State.methodFound?_of_named hnamed hy).symm.trans q2
  cases hnamed.symm.trans q3
  have hselP : selectMethod e.platform s.vm cellB.cls mk = .method mk := by rw [Launch.admits_selectMethod X.admits]; exact q4
  obtain ⟨vm₁, X₁, hstep₁⟩ := X.invokevirtual hexec hown hlink hnamed hmethM hstM hkP hkPi hy (a := b) (cell := cellB) hcell
    (fun z h => by rw [h] at hobj; cases hobj) hselP hmethM habM hkP hkPi (g := g) hg (argsL := argsL) (rest := rest) (hlen _ hsigM) hstack hdg
  rcases hK m meth c ⟨T.setVm vm₁, locs, cells, slots⟩ { g with stack := rest } (.invokevirtual index) mk (Value.ref b :: argsL).toArray X₁ hg hsize hdg hW (X₁.named hnamed) (hpre vm₁ X₁.warmed) with ⟨v, B, X', hpost, hsteps⟩ | ⟨q, B, X', hpost, hsteps⟩
  · exact Or.inl ⟨v, vm₁, B, X₁.warmed, X', hpost, fun target h => hstep₁ _ fun acts => by rw [doInvoke_state]; exact hsteps.trans h⟩
  · exact Or.inr ⟨q, vm₁, B, X₁.warmed, X', hpost, hstep₁ _ fun acts => by rw [doInvoke_state]; exact hsteps⟩
theorem vx_callS (X : Stand p l e R s m args below meth c T locs cells slots) (hexec : p.tables.exec = Jvm.exec) {own : String} {index : Nat} {y : MethodName} {bytes : ByteArray} {maxL : Nat} {ret : Option FieldType}
    (hown : s.vm.findClass own = some m.cls) (hlink : (Cond.methodLink own index y).before args s = true) (hstat : (Cond.static y).before args s = true) (hinit : (Cond.initialized y.cls).before args s = true)
    (hcode : (Cond.code y bytes maxL ret).before args s = true) (hy : y.cls ≠ "java/lang/invoke/MethodHandle" ∧ y.cls ≠ "java/lang/invoke/VarHandle")
    {W9 : Nat} {Pre : Pt → Array Value → Prop} {Post : Pt → Array Value → Option Value → Pt → Prop} {PostX : Pt → Array Value → Addr → Pt → Prop} (hK : vx_Back l R p e below s args y 3 W9 Pre Post PostX)
    {g : JFrame} (hg : g.method = m) (hsize : g.locals.size = c.maxLocals) {argsL rest : List Value} (hlen : ∀ sig, parseMethodDescriptor y.desc = some sig → argsL.length = sig.parameters.length)
    (hstack : g.stack = argsL.reverse ++ rest) (hW : 2 * g.monitorRoom + (rest.map fun v => v.category).sum ≤ W9) (hdg : decode c.code g.pc = .ok (.invokestatic index, 3))
    (hpre : ∀ vm₁, s.WarmedH vm₁ → Pre ⟨T.setVm vm₁, locs, cells, slots⟩ argsL.toArray) :
    (∃ (v : Option Value) (vm₁ : Vm) (B : Pt), s.WarmedH vm₁ ∧ Stand p l e R s m args below meth c B.U B.locs B.cells B.slots ∧ Post ⟨T.setVm vm₁, locs, cells, slots⟩ argsL.toArray v B ∧
      ∀ target, Steps p.tables e below (B.U.setTop { g with pc := g.pc + 3, stack := v.toList ++ rest }) target → Steps p.tables e below (T.setTop g) target) ∨
    (∃ (q : Addr) (vm₁ : Vm) (B : Pt), s.WarmedH vm₁ ∧ Stand p l e R s m args below meth c B.U B.locs B.cells B.slots ∧ PostX ⟨T.setVm vm₁, locs, cells, slots⟩ argsL.toArray q B ∧
      Steps p.tables e below (T.setTop g) ((B.U.setTop { g with stack := rest }).pushFrame (.throwing q))) := by
  obtain ⟨mk, hnamed⟩ := Cond.code_named hcode
  obtain ⟨methM, cM, hmethM, -, -, -, -, -, -, hsigM⟩ := Cond.code_spec hnamed hcode
  have hstatic : methM.isStatic = true := Cond.static_spec hnamed hmethM hstat
  obtain ⟨kP, hkP, -⟩ := className_of_methodNamed hnamed
  have hinitP : kP.init = .initialized := Cond.initialized_spec (findClass_of_methodNamed hnamed) hkP hinit
  obtain ⟨vm₁, X₁, hstep₁⟩ := X.invokestatic hexec hown hlink hnamed hmethM hstatic hkP hinitP hy (g := g) hg (argsL := argsL) (rest := rest) (hlen _ hsigM) hstack hdg
  rcases hK m meth c ⟨T.setVm vm₁, locs, cells, slots⟩ { g with stack := rest } (.invokestatic index) mk argsL.toArray X₁ hg hsize hdg hW (X₁.named hnamed) (hpre vm₁ X₁.warmed) with ⟨v, B, X', hpost, hsteps⟩ | ⟨q, B, X', hpost, hsteps⟩
  · exact Or.inl ⟨v, vm₁, B, X₁.warmed, X', hpost, fun target h => hstep₁ _ fun acts => by rw [doInvoke_state]; exact hsteps.trans h⟩
  · exact Or.inr ⟨q, vm₁, B, X₁.warmed, X', hpost, hstep₁ _ fun acts => by rw [doInvoke_state]; exact hsteps⟩
end Calls
theorem vx_cls {s : State} {T : State} {vm₁ : Vm} {E : String} {k : ClassId} (hW : s.WarmedH vm₁) (h : (T.setVm vm₁).vm.findClass E = some k) : s.vm.findClass E = some k := by
  have h1 : vm₁.findClass E = some k := h
  rw [hW.alike.findClass] at h1
  exact h1
/-- the method's frame g, with q thrown over it -/
def vx_W (p : Program) (l : Launch) (e : Env) (R : Room) (s : State) (m : MethodId) (args : Array Value) (below : List Frame) (meth : Method) (c : Code) (H : Heap) (locs : List Loc) (cells slots : Nat) (Q : State → Prop) (g : JFrame) (q : Addr) : Prop :=
  ∀ T : State, T.heap = H → Stand p l e R s m args below meth c T locs cells slots → ∃ t, Steps p.tables e below ((T.setTop g).pushFrame (.throwing q)) t ∧ Q t
def vx_Run (p : Program) (l : Launch) (e : Env) (R : Room) (s : State) (m : MethodId) (args : Array Value) (below : List Frame) (meth : Method) (c : Code) (H : Heap) (locs : List Loc) (cells slots mc ms : Nat) (g : JFrame) (rest : List Value) (Qa : State → Outcome → State → Prop) (XC : String → State → State → Prop) (free : Addr → Prop) : Prop :=
  ∀ T : State, T.heap = H → Stand p l e R s m args below meth c T locs cells slots →
    (∃ (v : Option Value) (st₀ t T' : State) (L : List Loc), st₀.heap = H ∧ Stand p l e R s m args below meth c T' (locs ++ L) (cells + mc) (slots + ms) ∧ (∀ q ∈ L, free q.base) ∧ T'.heap = t.heap ∧ T'.vm = t.vm ∧ Qa st₀ (.returned v) t ∧
      Goes p e below T g T' { g with pc := g.pc + 3, stack := v.toList ++ rest }) ∨
    (∃ (q : Addr) (st₀ t T' : State) (L : List Loc) (E : String) (ce : Cell), st₀.heap = H ∧ Stand p l e R s m args below meth c T' (locs ++ L) (cells + mc) (slots + ms) ∧ (∀ z ∈ L, free z.base) ∧ T'.heap = t.heap ∧ T'.vm = t.vm ∧ XC E st₀ t ∧ t.heap[q]? = some ce ∧ ce.vm = .none ∧ s.vm.findClass E = some ce.cls ∧
      Steps p.tables e below (T.setTop g) ((T'.setTop { g with stack := rest }).pushFrame (.throwing q)))
def vx_X {S : Type} (px : S → Prop) (B : String → S → State → Prop) (A : Nat → Prop) : String → State → State → Prop := fun E st t => ∃ u : S, px u ∧ B E u t ∧ va_F A st t
section Runs
variable {p : Program} {l : Launch} {e : Env} {R : Room} {s : State} {m : MethodId} {args : Array Value} {below : List Frame} {meth : Method} {c : Code} {H : Heap} {locs : List Loc} {cells slots : Nat}
variable {y : MethodName} {bytes cc : ByteArray} {maxL nL mc ms n index : Nat} {ret : Option FieldType} {ws : List Cond} {rm : Room} {Pc : Array Value → State → Prop} {Qc : Array Value → State → Outcome → State → Prop} {XC : String → State → State → Prop} {free : Addr → Prop} {Ts : List Cond} {own C : String} {b : Addr} {As rest : List Value} {g : JFrame}
theorem vx_callBack (cb : CallB R s args own index y bytes maxL ret ws rm mc ms n) (hM : vx_Met l y ws rm Pc Qc XC mc ms free) (hbl : FrameBlind Pc) : vx_Back l R p e below s args y 3 8 (PreOf R mc ms Pc) (PostOf Qc mc ms free) (vx_Post XC mc ms free) := by
  obtain ⟨hrc, hrs, hfr, hlo, hws, hcw, -, hini, -⟩ := cb
  exact vx_back (bytes := bytes) (maxL := maxL) (ret := ret) hM hbl hrc hrs hfr hlo hws hcw (fun a' U hW => word_at hW (Or.inl (by first | rfl | simp [Cond.onTables, Cond.keeps, Cond.steady])) hini)
theorem vx_runV (S : CallFix p m c cc nL s args Ts own) (hM : vx_Met l y ws rm Pc Qc XC mc ms free) (cw : CallW R s args own C index y bytes maxL ret ws rm mc ms n) (hp : PreV s H C b Pc As)
    (hg : g.method = m) (hn : As.length = n) (hsize : g.locals.size = nL) (hstack : g.stack = As.reverse ++ .ref b :: rest) (hW : 2 * g.monitorRoom + (rest.map fun v => v.category).sum ≤ 8) (hdg : decode cc g.pc = .ok (.invokevirtual index, 3)) (hf : cells + mc ≤ R.cells ∧ slots + ms ≤ R.slots) :
    vx_Run p l e R s m args below meth c H locs cells slots mc ms g rest (Qc (Value.ref b :: As).toArray) XC free := by
  have hK : vx_Back l R p e below s args y 3 8 (PreOf R mc ms Pc) (PostOf Qc mc ms free) (vx_Post XC mc ms free) := vx_callBack cw.1 hM hp.1
  obtain ⟨⟨-, -, -, -, -, -, hcode, -, hy, hlen, hl⟩, hin, hse⟩ := cw
  obtain ⟨hx, hb, hml, ho, -⟩ := S
  obtain ⟨-, ⟨cellB, hcB, hoB, hclB⟩, hPc⟩ := hp
  intro T hT X
  rcases vx_callV X hx (C := C) (bytes := bytes) (maxL := maxL) (ret := ret) ho hl hin hse hcode hy hK (by rw [hT]; exact hcB) hoB hclB hg (hsize.trans hml.symm) (argsL := As) (rest := rest) (fun sig h => hn.trans (hlen sig h)) hstack hW (by rw [hb]; exact hdg)
    (fun vm₁ hW₁ => ⟨hf.1, hf.2, hPc (T.setVm vm₁) hT hW₁⟩) with ⟨v, vm₁, ⟨U', l2, c2, s2⟩, hW₁, X', ⟨g', mk, t, L, e1, e2, hq, h1, hL, h2, h3⟩, st⟩ | ⟨q, vm₁, ⟨U', l2, c2, s2⟩, hW₁, X', ⟨g', mk, t, L, E, ce, e1, e2, hq, hce, hcv, hcl, h1, hL, h2, h3⟩, st⟩
  · dsimp only [Pt.U, Pt.locs, Pt.cells, Pt.slots] at X' e1 e2 h1 h2 h3 st
    subst h1; subst h2; subst h3
    exact Or.inl ⟨v, (T.setVm vm₁).calling g' mk (Value.ref b :: As).toArray, t, U', L, hT, X', hL, e1, e2, hq, st⟩
  · dsimp only [Pt.U, Pt.locs, Pt.cells, Pt.slots] at X' e1 e2 h1 h2 h3 st hcl
    subst h1; subst h2; subst h3
    exact Or.inr ⟨q, (T.setVm vm₁).calling g' mk (Value.ref b :: As).toArray, t, U', L, E, ce, hT, X', hL, e1, e2, hq, hce, hcv, vx_cls hW₁ hcl, st⟩
theorem vx_runS (S : CallFix p m c cc nL s args Ts own) (hM : vx_Met l y ws rm Pc Qc XC mc ms free) (cw : CallB R s args own index y bytes maxL ret ws rm mc ms n ∧ (Cond.static y).before args s = true) (hp : PreS s H Pc As)
    (hg : g.method = m) (hn : As.length = n) (hsize : g.locals.size = nL) (hstack : g.stack = As.reverse ++ rest) (hW : 2 * g.monitorRoom + (rest.map fun v => v.category).sum ≤ 8) (hdg : decode cc g.pc = .ok (.invokestatic index, 3)) (hf : cells + mc ≤ R.cells ∧ slots + ms ≤ R.slots) :
    vx_Run p l e R s m args below meth c H locs cells slots mc ms g rest (Qc As.toArray) XC free := by
  have hK : vx_Back l R p e below s args y 3 8 (PreOf R mc ms Pc) (PostOf Qc mc ms free) (vx_Post XC mc ms free) := vx_callBack cw.1 hM hp.1
  obtain ⟨⟨-, -, -, -, -, -, hcode, hini, hy, hlen, hl⟩, hstt⟩ := cw
  obtain ⟨hx, hb, hml, ho, -⟩ := S
  intro T hT X
  rcases vx_callS X hx (bytes := bytes) (maxL := maxL) (ret := ret) ho hl hstt hini hcode hy hK hg (hsize.trans hml.symm) (argsL := As) (rest := rest) (fun sig h => hn.trans (hlen sig h)) hstack hW (by rw [hb]; exact hdg)
    (fun vm₁ hW₁ => ⟨hf.1, hf.2, hp.2 (T.setVm vm₁) hT hW₁⟩) with ⟨v, vm₁, ⟨U', l2, c2, s2⟩, hW₁, X', ⟨g', mk, t, L, e1, e2, hq, h1, hL, h2, h3⟩, st⟩ | ⟨q, vm₁, ⟨U', l2, c2, s2⟩, hW₁, X', ⟨g', mk, t, L, E, ce, e1, e2, hq, hce, hcv, hcl, h1, hL, h2, h3⟩, st⟩
  · dsimp only [Pt.U, Pt.locs, Pt.cells, Pt.slots] at X' e1 e2 h1 h2 h3 st
    subst h1; subst h2; subst h3
    exact Or.inl ⟨v, (T.setVm vm₁).calling g' mk As.toArray, t, U', L, hT, X', hL, e1, e2, hq, st⟩
  · dsimp only [Pt.U, Pt.locs, Pt.cells, Pt.slots] at X' e1 e2 h1 h2 h3 st hcl
    subst h1; subst h2; subst h3
    exact Or.inr ⟨q, (T.setVm vm₁).calling g' mk As.toArray, t, U', L, E, ce, hT, X', hL, e1, e2, hq, hce, hcv, vx_cls hW₁ hcl, st⟩
end Runs
section Rows
variable {p : Program} {l : Launch} {e : Env} {R : Room} {s : State} {m : MethodId} {args : Array Value} {below : List Frame} {meth : Method} {c : Code} {H : Heap} {locs : List Loc} {cells slots : Nat} {Q : State → Prop}
variable {mc ms : Nat} {free : Addr → Prop} {A0 A1 : Nat → Prop} {H0 : Heap} {a : Array Value} {pc : Nat} {ls : Array Slot} {st0 rest : List Value}
theorem vx_keep {st₀ t T' : State} {L : List Loc} (h0 : st₀.heap = H) (e1 : T'.heap = t.heap) (hS : va_S A0 H0 H locs) (hA : ∀ q, q < H.size → A1 q → A0 q) (hf : ∀ q, free q → A0 q) (hL : ∀ q ∈ L, free q.base) (hF : va_F A1 st₀ t) :
    H.size ≤ T'.heap.size ∧ (∀ q : Nat, q < H.size → ¬ A1 q → T'.heap[q]? = H[q]?) ∧ va_S A0 H0 T'.heap (locs ++ L) := by
  obtain ⟨hz, hk⟩ := hF
  rw [h0] at hz hk
  exact ⟨by rw [e1]; exact hz, fun q h1 h2 => by rw [e1]; exact hk q h1 h2,
    ⟨Nat.le_trans hS.1 (by rw [e1]; exact hz), fun q h1 h2 => by rw [e1, hk q (Nat.lt_of_lt_of_le h1 hS.1) (fun z => h2 (hA q (Nat.lt_of_lt_of_le h1 hS.1) z))]; exact hS.2.1 q h1 h2, fun q hq => by
      rcases List.mem_append.mp hq with h | h
      · exact hS.2.2 q h
      · exact hf _ (hL q h)⟩⟩
theorem vx_calli {S SX : Type} {post : Int32 → S → Prop} {px : SX → Prop} {B : S → State → Prop} {BX : String → SX → State → Prop} {AX : Nat → Prop} (hr : vx_Run p l e R s m args below meth c H locs cells slots mc ms (F0 m pc ls st0) rest (va_Qi post B A1 a) (vx_X px BX AX) free) (hS : va_S A0 H0 H locs) (hA : ∀ q, q < H.size → A1 q → A0 q) (hf : ∀ q, free q → A0 q) (hAX : ∀ q, q < H.size → AX q → A0 q)
    (kx : ∀ (E : String) (ce : Cell) (q9 : Addr) (u : SX) (t : State) (H1 : Heap) (locs1 : List Loc), t.heap = H1 → s.vm.Alike t.vm → px u → BX E u t → H.size ≤ H1.size → (∀ q : Nat, q < H.size → ¬ AX q → H1[q]? = H[q]?) → va_S A0 H0 H1 locs1 → H1[q9]? = some ce → ce.vm = .none → s.vm.findClass E = some ce.cls → vx_W p l e R s m args below meth c H1 locs1 (cells + mc) (slots + ms) Q (F0 m pc ls rest) q9)
    (kk : ∀ (r : Int32) (u : S) (t : State) (H1 : Heap) (locs1 : List Loc), t.heap = H1 → s.vm.Alike t.vm → post r u → B u t → H.size ≤ H1.size → (∀ q : Nat, q < H.size → ¬ A1 q → H1[q]? = H[q]?) → va_S A0 H0 H1 locs1 → W p l e R s m args below meth c H1 locs1 (cells + mc) (slots + ms) Q (F0 m (pc + 3) ls (.int r :: rest))) : W p l e R s m args below meth c H locs cells slots Q (F0 m pc ls st0) := by
  intro T hT X
  rcases hr T hT X with ⟨v, st₀, t, T', L, h0, X', hL, e1, e2, ⟨⟨r, u, hv, hp, hb⟩, hF⟩, st⟩ | ⟨q, st₀, t, T', L, E, ce, h0, X', hL, e1, e2, ⟨u, hp, hb, hF⟩, hce, hcv, hcl, st⟩
  · cases hv
    obtain ⟨k1, k2, k3⟩ := vx_keep h0 e1 hS hA hf hL hF
    obtain ⟨t2, a1, b1⟩ := kk r u t T'.heap (locs ++ L) e1.symm (by rw [← e2]; exact X'.warmed.alike) hp hb k1 k2 k3 T' rfl X'
    exact ⟨t2, st t2 a1, b1⟩
  · obtain ⟨k1, k2, k3⟩ := vx_keep h0 e1 hS hAX hf hL hF
    obtain ⟨t2, a1, b1⟩ := kx E ce q u t T'.heap (locs ++ L) e1.symm (by rw [← e2]; exact X'.warmed.alike) hp hb k1 k2 k3 (by rw [e1]; exact hce) hcv hcl T' rfl X'
    exact ⟨t2, st.trans a1, b1⟩
theorem vx_calll {S SX : Type} {post : Int64 → S → Prop} {px : SX → Prop} {B : S → State → Prop} {BX : String → SX → State → Prop} {AX : Nat → Prop} (hr : vx_Run p l e R s m args below meth c H locs cells slots mc ms (F0 m pc ls st0) rest (va_Ql post B A1 a) (vx_X px BX AX) free) (hS : va_S A0 H0 H locs) (hA : ∀ q, q < H.size → A1 q → A0 q) (hf : ∀ q, free q → A0 q) (hAX : ∀ q, q < H.size → AX q → A0 q)
    (kx : ∀ (E : String) (ce : Cell) (q9 : Addr) (u : SX) (t : State) (H1 : Heap) (locs1 : List Loc), t.heap = H1 → s.vm.Alike t.vm → px u → BX E u t → H.size ≤ H1.size → (∀ q : Nat, q < H.size → ¬ AX q → H1[q]? = H[q]?) → va_S A0 H0 H1 locs1 → H1[q9]? = some ce → ce.vm = .none → s.vm.findClass E = some ce.cls → vx_W p l e R s m args below meth c H1 locs1 (cells + mc) (slots + ms) Q (F0 m pc ls rest) q9)
    (kk : ∀ (r : Int64) (u : S) (t : State) (H1 : Heap) (locs1 : List Loc), t.heap = H1 → s.vm.Alike t.vm → post r u → B u t → H.size ≤ H1.size → (∀ q : Nat, q < H.size → ¬ A1 q → H1[q]? = H[q]?) → va_S A0 H0 H1 locs1 → W p l e R s m args below meth c H1 locs1 (cells + mc) (slots + ms) Q (F0 m (pc + 3) ls (.long r :: rest))) : W p l e R s m args below meth c H locs cells slots Q (F0 m pc ls st0) := by
  intro T hT X
  rcases hr T hT X with ⟨v, st₀, t, T', L, h0, X', hL, e1, e2, ⟨⟨r, u, hv, hp, hb⟩, hF⟩, st⟩ | ⟨q, st₀, t, T', L, E, ce, h0, X', hL, e1, e2, ⟨u, hp, hb, hF⟩, hce, hcv, hcl, st⟩
  · cases hv
    obtain ⟨k1, k2, k3⟩ := vx_keep h0 e1 hS hA hf hL hF
    obtain ⟨t2, a1, b1⟩ := kk r u t T'.heap (locs ++ L) e1.symm (by rw [← e2]; exact X'.warmed.alike) hp hb k1 k2 k3 T' rfl X'
    exact ⟨t2, st t2 a1, b1⟩
  · obtain ⟨k1, k2, k3⟩ := vx_keep h0 e1 hS hAX hf hL hF
    obtain ⟨t2, a1, b1⟩ := kx E ce q u t T'.heap (locs ++ L) e1.symm (by rw [← e2]; exact X'.warmed.alike) hp hb k1 k2 k3 (by rw [e1]; exact hce) hcv hcl T' rfl X'
    exact ⟨t2, st.trans a1, b1⟩
theorem vx_callf {S SX : Type} {post : UInt32 → S → Prop} {px : SX → Prop} {B : S → State → Prop} {BX : String → SX → State → Prop} {AX : Nat → Prop} (hr : vx_Run p l e R s m args below meth c H locs cells slots mc ms (F0 m pc ls st0) rest (va_Qf post B A1 a) (vx_X px BX AX) free) (hS : va_S A0 H0 H locs) (hA : ∀ q, q < H.size → A1 q → A0 q) (hf : ∀ q, free q → A0 q) (hAX : ∀ q, q < H.size → AX q → A0 q)
    (kx : ∀ (E : String) (ce : Cell) (q9 : Addr) (u : SX) (t : State) (H1 : Heap) (locs1 : List Loc), t.heap = H1 → s.vm.Alike t.vm → px u → BX E u t → H.size ≤ H1.size → (∀ q : Nat, q < H.size → ¬ AX q → H1[q]? = H[q]?) → va_S A0 H0 H1 locs1 → H1[q9]? = some ce → ce.vm = .none → s.vm.findClass E = some ce.cls → vx_W p l e R s m args below meth c H1 locs1 (cells + mc) (slots + ms) Q (F0 m pc ls rest) q9)
    (kk : ∀ (r : UInt32) (u : S) (t : State) (H1 : Heap) (locs1 : List Loc), t.heap = H1 → s.vm.Alike t.vm → post r u → B u t → H.size ≤ H1.size → (∀ q : Nat, q < H.size → ¬ A1 q → H1[q]? = H[q]?) → va_S A0 H0 H1 locs1 → W p l e R s m args below meth c H1 locs1 (cells + mc) (slots + ms) Q (F0 m (pc + 3) ls (.float r :: rest))) : W p l e R s m args below meth c H locs cells slots Q (F0 m pc ls st0) := by
  intro T hT X
  rcases hr T hT X with ⟨v, st₀, t, T', L, h0, X', hL, e1, e2, ⟨⟨r, u, hv, hp, hb⟩, hF⟩, st⟩ | ⟨q, st₀, t, T', L, E, ce, h0, X', hL, e1, e2, ⟨u, hp, hb, hF⟩, hce, hcv, hcl, st⟩
  · cases hv
    obtain ⟨k1, k2, k3⟩ := vx_keep h0 e1 hS hA hf hL hF
    obtain ⟨t2, a1, b1⟩ := kk r u t T'.heap (locs ++ L) e1.symm (by rw [← e2]; exact X'.warmed.alike) hp hb k1 k2 k3 T' rfl X'
    exact ⟨t2, st t2 a1, b1⟩
  · obtain ⟨k1, k2, k3⟩ := vx_keep h0 e1 hS hAX hf hL hF
    obtain ⟨t2, a1, b1⟩ := kx E ce q u t T'.heap (locs ++ L) e1.symm (by rw [← e2]; exact X'.warmed.alike) hp hb k1 k2 k3 (by rw [e1]; exact hce) hcv hcl T' rfl X'
    exact ⟨t2, st.trans a1, b1⟩
theorem vx_calld {S SX : Type} {post : UInt64 → S → Prop} {px : SX → Prop} {B : S → State → Prop} {BX : String → SX → State → Prop} {AX : Nat → Prop} (hr : vx_Run p l e R s m args below meth c H locs cells slots mc ms (F0 m pc ls st0) rest (va_Qd post B A1 a) (vx_X px BX AX) free) (hS : va_S A0 H0 H locs) (hA : ∀ q, q < H.size → A1 q → A0 q) (hf : ∀ q, free q → A0 q) (hAX : ∀ q, q < H.size → AX q → A0 q)
    (kx : ∀ (E : String) (ce : Cell) (q9 : Addr) (u : SX) (t : State) (H1 : Heap) (locs1 : List Loc), t.heap = H1 → s.vm.Alike t.vm → px u → BX E u t → H.size ≤ H1.size → (∀ q : Nat, q < H.size → ¬ AX q → H1[q]? = H[q]?) → va_S A0 H0 H1 locs1 → H1[q9]? = some ce → ce.vm = .none → s.vm.findClass E = some ce.cls → vx_W p l e R s m args below meth c H1 locs1 (cells + mc) (slots + ms) Q (F0 m pc ls rest) q9)
    (kk : ∀ (r : UInt64) (u : S) (t : State) (H1 : Heap) (locs1 : List Loc), t.heap = H1 → s.vm.Alike t.vm → post r u → B u t → H.size ≤ H1.size → (∀ q : Nat, q < H.size → ¬ A1 q → H1[q]? = H[q]?) → va_S A0 H0 H1 locs1 → W p l e R s m args below meth c H1 locs1 (cells + mc) (slots + ms) Q (F0 m (pc + 3) ls (.double r :: rest))) : W p l e R s m args below meth c H locs cells slots Q (F0 m pc ls st0) := by
  intro T hT X
  rcases hr T hT X with ⟨v, st₀, t, T', L, h0, X', hL, e1, e2, ⟨⟨r, u, hv, hp, hb⟩, hF⟩, st⟩ | ⟨q, st₀, t, T', L, E, ce, h0, X', hL, e1, e2, ⟨u, hp, hb, hF⟩, hce, hcv, hcl, st⟩
  · cases hv
    obtain ⟨k1, k2, k3⟩ := vx_keep h0 e1 hS hA hf hL hF
    obtain ⟨t2, a1, b1⟩ := kk r u t T'.heap (locs ++ L) e1.symm (by rw [← e2]; exact X'.warmed.alike) hp hb k1 k2 k3 T' rfl X'
    exact ⟨t2, st t2 a1, b1⟩
  · obtain ⟨k1, k2, k3⟩ := vx_keep h0 e1 hS hAX hf hL hF
    obtain ⟨t2, a1, b1⟩ := kx E ce q u t T'.heap (locs ++ L) e1.symm (by rw [← e2]; exact X'.warmed.alike) hp hb k1 k2 k3 (by rw [e1]; exact hce) hcv hcl T' rfl X'
    exact ⟨t2, st.trans a1, b1⟩
theorem vx_callv {S SX : Type} {post : S → Prop} {px : SX → Prop} {B : S → State → Prop} {BX : String → SX → State → Prop} {AX : Nat → Prop} (hr : vx_Run p l e R s m args below meth c H locs cells slots mc ms (F0 m pc ls st0) rest (va_Qv post B A1 a) (vx_X px BX AX) free) (hS : va_S A0 H0 H locs) (hA : ∀ q, q < H.size → A1 q → A0 q) (hf : ∀ q, free q → A0 q) (hAX : ∀ q, q < H.size → AX q → A0 q)
    (kx : ∀ (E : String) (ce : Cell) (q9 : Addr) (u : SX) (t : State) (H1 : Heap) (locs1 : List Loc), t.heap = H1 → s.vm.Alike t.vm → px u → BX E u t → H.size ≤ H1.size → (∀ q : Nat, q < H.size → ¬ AX q → H1[q]? = H[q]?) → va_S A0 H0 H1 locs1 → H1[q9]? = some ce → ce.vm = .none → s.vm.findClass E = some ce.cls → vx_W p l e R s m args below meth c H1 locs1 (cells + mc) (slots + ms) Q (F0 m pc ls rest) q9)
    (kk : ∀ (u : S) (t : State) (H1 : Heap) (locs1 : List Loc), t.heap = H1 → s.vm.Alike t.vm → post u → B u t → H.size ≤ H1.size → (∀ q : Nat, q < H.size → ¬ A1 q → H1[q]? = H[q]?) → va_S A0 H0 H1 locs1 → W p l e R s m args below meth c H1 locs1 (cells + mc) (slots + ms) Q (F0 m (pc + 3) ls (rest))) : W p l e R s m args below meth c H locs cells slots Q (F0 m pc ls st0) := by
  intro T hT X
  rcases hr T hT X with ⟨v, st₀, t, T', L, h0, X', hL, e1, e2, ⟨⟨u, hv, hp, hb⟩, hF⟩, st⟩ | ⟨q, st₀, t, T', L, E, ce, h0, X', hL, e1, e2, ⟨u, hp, hb, hF⟩, hce, hcv, hcl, st⟩
  · cases hv
    obtain ⟨k1, k2, k3⟩ := vx_keep h0 e1 hS hA hf hL hF
    obtain ⟨t2, a1, b1⟩ := kk u t T'.heap (locs ++ L) e1.symm (by rw [← e2]; exact X'.warmed.alike) hp hb k1 k2 k3 T' rfl X'
    exact ⟨t2, st t2 a1, b1⟩
  · obtain ⟨k1, k2, k3⟩ := vx_keep h0 e1 hS hAX hf hL hF
    obtain ⟨t2, a1, b1⟩ := kx E ce q u t T'.heap (locs ++ L) e1.symm (by rw [← e2]; exact X'.warmed.alike) hp hb k1 k2 k3 (by rw [e1]; exact hce) hcv hcl T' rfl X'
    exact ⟨t2, st.trans a1, b1⟩
end Rows
section Ends
variable {p : Program} {l : Launch} {e : Env} {R : Room} {s : State} {m : MethodId} {args : Array Value} {below : List Frame} {meth : Method} {c : Code} {H : Heap} {locs : List Loc} {cells slots : Nat} {Q : State → Prop}
variable {mc ms : Nat} {free : Addr → Prop} {A0 A1 : Nat → Prop} {H0 : Heap} {a : Array Value} {ls : Array Slot} {st0 rest : List Value}
variable {Qc : Array Value → State → Outcome → State → Prop} {XC : String → State → State → Prop}
/-- what a body that may throw owes at its end -/
def vx_MQ (below : List Frame) (Qc : Array Value → State → Outcome → State → Prop) (XC : String → State → State → Prop) (a : Array Value) (s : State) (mc ms : Nat) (free : Addr → Prop) : State → Prop := fun t =>
  ∃ o, t.status = .running ∧ Ended t below o ∧ vx_Q Qc XC mc ms free a s o t
theorem vx_ret {g : JFrame} {mc ms : Nat} (k : W p l e R s m args below meth c H locs cells slots (MQ below Qc args s mc ms free) g) : W p l e R s m args below meth c H locs cells slots (vx_MQ below Qc XC args s mc ms free) g := by
  intro T hT X
  obtain ⟨t, a1, o, b1, b2, b3, b4⟩ := k T hT X
  exact ⟨t, a1, o, b1, b2, Or.inl ⟨b3, b4⟩⟩
/-- not caught here: it goes on to the caller -/
theorem vx_widen {g : JFrame} {q : Addr} {k n : Nat} (h1 : cells ≤ k) (h2 : slots ≤ n) (kk : vx_W p l e R s m args below meth c H locs k n Q g q) : vx_W p l e R s m args below meth c H locs cells slots Q g q := fun T hT X => kk T hT (stand_widen X h1 h2)
theorem vx_out {pc : Nat} {E : String} {ce : Cell} {q : Addr} {mc ms : Nat} (hout : ∀ x ∈ c.exceptionTable.toList, covers x pc = false) (hlocks : meth.locks = false) (hcell : H[q]? = some ce) (hv : ce.vm = .none) (hcl : s.vm.findClass E = some ce.cls)
    (hx : ∀ t : State, t.heap = H → s.vm.Alike t.vm → XC E s t) (hf : ∀ z ∈ locs, free z.base) (hc : cells ≤ mc) (hs : slots ≤ ms) :
    vx_W p l e R s m args below meth c H locs cells slots (vx_MQ below Qc XC args s mc ms free) (F0 m pc ls rest) q := by
  intro T hT X
  obtain ⟨st1, hrun, hend, hW, hsm⟩ := X.leaveThrown q (g := F0 m pc ls rest) rfl rfl rfl hout hlocks
  have hcell9 : (T.setFrames (.throwing q :: below)).heap[q]? = some ce := by
    show T.heap[q]? = some ce
    rw [hT]; exact hcell
  exact ⟨_, st1, .threw q, hrun, hend, Or.inr ⟨q, rfl, E, ce, locs, hx _ hT hW.alike, hcell9, hv, hcl, hW, hsm.mono hc hs, hf⟩⟩
theorem vx_frame {U : State} {k n : Nat} (h : s.sameButNew ({ U with vm := s.vm } : State) locs k n) : s.heap.size ≤ U.heap.size ∧ ∀ q : Nat, q < s.heap.size → (∀ z ∈ locs, z.base ≠ q) → U.heap[q]? = s.heap[q]? := by
  obtain ⟨-, h2, -, -, -, h6⟩ := h
  refine ⟨h2, fun q hq hz => ?_⟩
  obtain ⟨c9, e1, e2, e3, e4⟩ := h6 q _ (Array.getElem?_eq_getElem hq)
  have hs : c9.slots = (s.heap[q]).slots := Array.ext_getElem? fun i => e4 i fun hm => hz _ hm rfl
  have h9 : c9 = s.heap[q] := by
    rw [hs] at e2
    exact e2
  have e5 : U.heap[q]? = some c9 := e1
  rw [e5, h9, Array.getElem?_eq_getElem hq]
/-- the words of a throw but the four that speak of the heap -/
def vx_no (w : Cond) : Bool := decide (w ≠ .isRef (.static Bundle.tN "UNASSIGNED_STACK" Bundle.steD)) && decide (w ≠ .isRef (.static Bundle.tN "SUPPRESSED_SENTINEL" Bundle.listD)) && decide (w ≠ .laysStatic Bundle.tN "UNASSIGNED_STACK" Bundle.steD) && decide (w ≠ .laysStatic Bundle.tN "SUPPRESSED_SENTINEL" Bundle.listD)
def vx_at0 (own : String) (ic : Nat) (X : String) (names : List String) : List Cond := (Bundle.ownAtoms0 own ic X names).filter vx_no
def vx_atS (own : String) (ic : Nat) (X : String) (names : List String) : List Cond := (Bundle.ownAtoms own ic X names).filter vx_no
/-- a word that the tables alone decide, or a good one -/
def vx_ot (w : Cond) : Bool := w.onTables || goodWord w
theorem vx_ot_at {args a' : Array Value} {s U : State} {w : Cond} (hW : s.WarmedH U.vm) (hvm : s.vm = U.vm) (hg : vx_ot w = true) (h : w.before args s = true) : w.before a' U = true := by
  simp only [vx_ot, Bool.or_eq_true] at hg
  rcases hg with hg | hg
  · exact va_tabs hg hvm h
  · exact word_at hW (good_of_word hg) h
/-- a list's words: the good ones out of the method's own list, the others by premises of their own -/
theorem vx_hat {args : Array Value} {s : State} {L B : List Cond} (h1 : ∀ w ∈ L.filter goodWord, w.before args s = true) (h2 : ∀ w ∈ L.filter (fun w => !goodWord w), w ∈ B) (h3 : ∀ w ∈ B, w.before args s = true) : ∀ w ∈ L, w.before args s = true := by
  intro w hw
  by_cases g : goodWord w = true
  · exact h1 w (List.mem_filter.mpr ⟨hw, g⟩)
  · refine h3 w (h2 w (List.mem_filter.mpr ⟨hw, ?_⟩))
    show (!goodWord w) = true
    cases hgw : goodWord w
    · rfl
    · exact absurd hgw g
theorem vx_c {args : Array Value} {s : State} {w : Cond} {B : List Cond} (h : w.before args s = true) (t : ∀ w ∈ B, w.before args s = true) : ∀ w' ∈ w :: B, w'.before args s = true := fun w' h' => (List.mem_cons.mp h').elim (fun e => by rw [e]; exact h) (t w')
theorem vx_n {args : Array Value} {s : State} : ∀ w ∈ ([] : List Cond), w.before args s = true := fun _ h => nomatch h
theorem vx_own {args : Array Value} {s : State} {L : List Cond} (h1 : ∀ w ∈ L.filter vx_no, w.before args s = true)
    (hU : (Cond.isRef (.static Bundle.tN "UNASSIGNED_STACK" Bundle.steD)).before args s = true) (hN : (Cond.isRef (.static Bundle.tN "SUPPRESSED_SENTINEL" Bundle.listD)).before args s = true)
    (lU : (Cond.laysStatic Bundle.tN "UNASSIGNED_STACK" Bundle.steD).before args s = true) (lN : (Cond.laysStatic Bundle.tN "SUPPRESSED_SENTINEL" Bundle.listD).before args s = true) : ∀ w ∈ L, w.before args s = true := by
  intro w hw
  by_cases e1 : w = .isRef (.static Bundle.tN "UNASSIGNED_STACK" Bundle.steD)
  · rw [e1]; exact hU
  · by_cases e2 : w = .isRef (.static Bundle.tN "SUPPRESSED_SENTINEL" Bundle.listD)
    · rw [e2]; exact hN
    · by_cases e3 : w = .laysStatic Bundle.tN "UNASSIGNED_STACK" Bundle.steD
      · rw [e3]; exact lU
      · by_cases e4 : w = .laysStatic Bundle.tN "SUPPRESSED_SENTINEL" Bundle.listD
        · rw [e4]; exact lN
        · exact h1 w (List.mem_filter.mpr ⟨hw, by unfold vx_no; rw [decide_eq_true e1, decide_eq_true e2, decide_eq_true e3, decide_eq_true e4]; rfl⟩)
/-- where a static field lies, its class's statics cell in H -/
def vx_L (C n d : String) (A : Nat → Prop) (U : State) (H : Heap) : Prop := ∃ (c : ClassId) (k : Class) (i : Nat) (f : Field) (a : Nat) (cell : Cell), U.vm.findClass C = some c ∧ U.fieldFound? C n d = some (c, k, i, f) ∧ f.isStatic = true ∧ k.statics = some a ∧ H[a]? = some cell ∧ cell.vm.isStatics = true ∧ cell.cls = c ∧ f.slot < cell.slots.size ∧ k.staticTypes[f.slot]? = some f.type ∧ ¬ A a
theorem vx_L.moved {C n d : String} {A : Nat → Prop} {u U : State} {H : Heap} (hvm : u.vm.Alike U.vm) (h : vx_L C n d A u H) : vx_L C n d A U H := by
  obtain ⟨c, k, i, f, a, cell, h1, h2, h3, h4, h5, h6, h7, h8, h9, h10⟩ := h
  obtain ⟨k', hi', he⟩ := State.fieldFound?_setVm hvm h2
  exact ⟨c, k', i, f, a, cell, by rw [hvm.findClass]; exact h1, hi', h3, by rw [he]; exact h4, h5, h6, h7, h8, by rw [he]; exact h9, h10⟩
theorem vx_L.kept {C n d : String} {A : Nat → Prop} {U : State} {H H1 : Heap} (h : vx_L C n d A U H) (hq : ∀ a : Nat, a < H.size → ¬ A a → H1[a]? = H[a]?) : vx_L C n d A U H1 := by
  obtain ⟨c, k, i, f, a, cell, h1, h2, h3, h4, h5, h6, h7, h8, h9, h10⟩ := h
  exact ⟨c, k, i, f, a, cell, h1, h2, h3, h4, by rw [hq a (Array.getElem?_eq_some_iff.mp h5).1 h10]; exact h5, h6, h7, h8, h9, h10⟩
theorem vx_L.narrow {C n d : String} {A B : Nat → Prop} {U : State} {H : Heap} (h : vx_L C n d A U H) (hAB : ∀ q, B q → A q) : vx_L C n d B U H := by
  obtain ⟨c, k, i, f, a, cell, h1, h2, h3, h4, h5, h6, h7, h8, h9, h10⟩ := h
  exact ⟨c, k, i, f, a, cell, h1, h2, h3, h4, h5, h6, h7, h8, h9, fun z => h10 (hAB _ z)⟩
theorem vx_L.word {C n d : String} {A : Nat → Prop} {s : State} {args : Array Value} (h : vx_L C n d A s s.heap) : (Cond.laysStatic C n d).before args s = true := by
  obtain ⟨c, k, i, f, a, cell, h1, h2, h3, h4, h5, h6, h7, h8, h9, -⟩ := h
  show (Cond.laysStatic C n d).holds args s none s [] = true
  exact Cond.laysStatic_of h1 h2 h3 h4 h5 h6 h7 h8 h9
/-- .. and what it holds: null or some reference -/
def vx_Zq (C n d : String) (A : Nat → Prop) (U : State) (H : Heap) : Prop := va_Zq C n d A U H ∧ vx_L C n d A U H
theorem vx_Zq.moved {C n d : String} {A : Nat → Prop} {u U : State} {H : Heap} (hvm : u.vm.Alike U.vm) (h : vx_Zq C n d A u H) : vx_Zq C n d A U H := ⟨va_Zq.moved hvm h.1, vx_L.moved hvm h.2⟩
theorem vx_Zq.kept {C n d : String} {A : Nat → Prop} {U : State} {H H1 : Heap} (h : vx_Zq C n d A U H) (hq : ∀ a : Nat, a < H.size → ¬ A a → H1[a]? = H[a]?) : vx_Zq C n d A U H1 := ⟨va_Zq.kept h.1 hq, vx_L.kept h.2 hq⟩
theorem vx_Zq.narrow {C n d : String} {A B : Nat → Prop} {U : State} {H : Heap} (h : vx_Zq C n d A U H) (hAB : ∀ q, B q → A q) : vx_Zq C n d B U H := ⟨va_Zq.narrow h.1 hAB, vx_L.narrow h.2 hAB⟩
theorem vx_Zqof {args : Array Value} {s : State} {C n d : String} {A : Nat → Prop} (hl : (Cond.laysStatic C n d).before args s = true) (hini : (Cond.initialized C).before args s = true) (h : (Cond.isRef (.static C n d)).before args s = true) (hA : ∀ a : Nat, a < s.heap.size → ¬ A a) : vx_Zq C n d A s s.heap := by
  refine ⟨va_Zqof hl hini h hA, ?_⟩
  obtain ⟨c, k, i, f, a, cell, h1, h2, h3, h4, h5, h6, h7, h8, h9⟩ := Cond.laysStatic_spec hl
  exact ⟨c, k, i, f, a, cell, h1, h2, h3, h4, h5, h6, h7, h8, h9, hA a (Array.getElem?_eq_some_iff.mp h5).1⟩
theorem vx_isRef {C n d : String} {v : Value} {A : Nat → Prop} {s : State} {args : Array Value} (h : va_Z C n d v A s s.heap) (hv : v.isRef = true) : (Cond.isRef (.static C n d)).before args s = true := by
  obtain ⟨cf, kf, fi, f, a, cell, h1, h2, h3, h4, h5, h6, h7, -⟩ := h
  have he : (Term.static C n d).eval args s none [] s = some v := by
    simp [Term.eval, State.fieldNamed?, h1, h2, h4, h5, h6, h7]
  simp only [Cond.before, Cond.holds, Cond.value, he]
  cases v <;> simp_all [Value.isRef]
theorem vx_isRefq {C n d : String} {A : Nat → Prop} {s : State} {args : Array Value} (h : va_Zq C n d A s s.heap) : (Cond.isRef (.static C n d)).before args s = true := by
  rcases h with h | ⟨t, h⟩
  · exact vx_isRef h rfl
  · exact vx_isRef h rfl
/-- the same frame, seen from here: as if the method were called anew in this heap -/
theorem vx_rebase {T : State} (X : Stand p l e R s m args below meth c T locs cells slots) {R' : Room} (hf : R'.frames ≤ R.frames) (hl : R'.locals ≤ R.locals) (hc : cells + R'.cells ≤ R.cells) (hs : slots + R'.slots ≤ R.slots) :
    Stand p l e R' ((T.setVm s.vm).setFrames (.invoking m args :: below)) m args below meth c T [] 0 0 := by
  have htop : (T.setVm s.vm).topJava?.isSome := X.here.top
  have hF : ((T.setVm s.vm).setFrames (.invoking m args :: below)).frames = .invoking m args :: below := State.frames_setFrames _ (State.cur_lt_of_top htop)
  obtain ⟨g₀, hg0⟩ := Option.isSome_iff_exists.mp htop
  obtain ⟨r, hr⟩ := State.topJava?_eq_some.mp hg0
  have hl9 : e.platform.stackLimits (T.setVm s.vm).me = e.platform.stackLimits s.me := X.limits
  have hb9 : (T.setVm s.vm).me.stackBytes = s.me.stackBytes := X.bytes
  refine ⟨X.admits, X.cas, X.clock, hF, ?_, X.hears, X.method, X.code, X.here, X.tail, X.warmed, ?_, ?_, ?_⟩
  · have h := X.room
    have hU : ((T.setVm s.vm).setFrames (.invoking m args :: below)).localsInUse = s.localsInUse := by
      rw [State.localsInUse_invoking hF (meth := meth) (c := c) X.method X.code, State.localsInUse_invoking X.frames X.method X.code]
    simp only [State.hasRoom, Bool.and_eq_true, decide_eq_true_eq] at h ⊢
    obtain ⟨⟨⟨⟨h1, h2, h3, h4, h5, h6⟩, h7⟩, h8⟩, h9⟩ := h
    rw [X.frames, List.length_cons] at h2 h3
    have q1 := X.heapSize
    have q2 := X.used
    simp only [hF, hU, List.length_cons, State.stackLimits_setFrames, State.stackBytes_setFrames, hl9, hb9]
    refine ⟨⟨⟨⟨by omega, by omega, by omega, by omega, by omega, h6⟩, ?_⟩, ?_⟩, X.book⟩
    · show T.heap.size + R'.cells ≤ e.platform.maxCells
      omega
    · show T.slotsUsed + R'.slots ≤ e.platform.maxSlots
      omega
  · rw [State.stackLimits_setFrames]; rfl
  · rw [State.stackBytes_setFrames]; rfl
  · refine ⟨?_, Nat.le_refl _, Nat.le_refl _, ?_, ?_, fun a c9 h9 => ⟨c9, h9, rfl, rfl, fun _ _ => rfl⟩⟩
    · obtain ⟨t, ht, -⟩ := State.frames_cons hr
      show T.setVm s.vm = { ((T.setVm s.vm).setFrames (.invoking m args :: below)).setFrames (T.setVm s.vm).frames with heap := T.heap, slotsUsed := T.slotsUsed }
      rw [State.setFrames_setFrames, State.setFrames_self ht]
      rfl
    · show T.slotsUsed = T.slotsUsed + ((T.heap.toList.drop T.heap.size).map (·.slots.size)).sum
      rw [List.drop_eq_nil_of_le (Nat.le_of_eq Array.length_toList)]
      rfl
    · show ((T.heap.toList.drop T.heap.size).map (·.slots.size)).sum ≤ 0
      rw [List.drop_eq_nil_of_le (Nat.le_of_eq Array.length_toList)]
      exact Nat.le_refl _
/-- 'throw new E()': new; dup; invokespecial; athrow -/
theorem vx_throw0 {cc : ByteArray} {pc : Nat} (hexec : p.tables.exec = Jvm.exec) (hb : c.code = cc) (hl : l.stackTraces = false) {own cls : String} {names : List String} {ik ic mc ms : Nat} {A : Nat → Prop}
    (hown : s.vm.findClass own = some m.cls) (hcls : Bundle.fit cls = true) (hnames : ∀ n ∈ names, Bundle.fit n = true)
    (hk : (Cond.classLink own ik cls).before args s = true) (hini : (Cond.initialized cls).before args s = true) (hat : ∀ w ∈ vx_at0 own ic cls names, w.before args s = true)
    (hgood : ∀ w ∈ Cond.classLink own ik cls :: Cond.initialized cls :: vx_at0 own ic cls names, vx_ot w = true)
    (hU : vx_Zq Bundle.tN "UNASSIGNED_STACK" Bundle.steD A s s.heap) (hN : vx_Zq Bundle.tN "SUPPRESSED_SENTINEL" Bundle.listD A s s.heap) (hS : va_S A s.heap H locs) (hsize : ls.size = c.maxLocals)
    (d0 : decode cc pc = .ok (.new ik, 3)) (d3 : decode cc (pc + 3) = .ok (.dup, 1)) (d4 : decode cc (pc + 4) = .ok (.invokespecial ic, 3)) (d7 : decode cc (pc + 7) = .ok (.athrow, 1))
    (hout : ∀ x ∈ c.exceptionTable.toList, covers x (pc + 7) = false)
    (hRframes : names.length + 3 < R.frames) (hRlocals : (rest.map fun v => v.category).sum + (13 * (names.length + 1) + 42) ≤ R.locals) (hRcells : cells + 1 ≤ R.cells) (hRslots : slots + 6 ≤ R.slots) (hlocks : meth.locks = false)
    (hx : ∀ t : State, s.vm.Alike t.vm → H.size ≤ t.heap.size → (∀ q : Nat, q < H.size → t.heap[q]? = H[q]?) → XC cls s t)
    (hf : ∀ z ∈ locs, free z.base) (hc : cells + 1 ≤ mc) (hs : slots + 6 ≤ ms) :
    W p l e R s m args below meth c H locs cells slots (vx_MQ below Qc XC args s mc ms free) (F0 m pc ls rest) := by
  intro T hT X
  have htr : e.platform.stackTraces = false := (show e.platform.stackTraces = l.stackTraces by rw [X.admits.platform]).trans hl
  have Y := vx_rebase X (R' := { frames := R.frames, locals := R.locals, cells := 1, slots := 6 }) (Nat.le_refl _) (Nat.le_refl _) hRcells hRslots
  obtain ⟨s', hA⟩ : ∃ z, z = (T.setVm s.vm).setFrames (.invoking m args :: below) := ⟨_, rfl⟩
  rw [← hA] at Y
  have hvm : s'.vm = s.vm := by rw [hA]; rfl
  have hhp : s'.heap = H := by rw [hA]; exact hT
  have hW0 : s.WarmedH s'.vm := by rw [hvm]; exact State.WarmedH.refl s
  have hat' : ∀ w ∈ vx_at0 own ic cls names, w.before args s' = true := fun w hw => vx_ot_at hW0 hvm.symm (hgood w (List.mem_cons_of_mem _ (List.mem_cons_of_mem _ hw))) (hat w hw)
  have hk' : (Cond.classLink own ik cls).before args s' = true := vx_ot_at hW0 hvm.symm (hgood _ List.mem_cons_self) hk
  have hini' : (Cond.initialized cls).before args s' = true := vx_ot_at hW0 hvm.symm (hgood _ (List.mem_cons_of_mem _ List.mem_cons_self)) hini
  have hU' : vx_Zq Bundle.tN "UNASSIGNED_STACK" Bundle.steD A s' s'.heap := by rw [hhp]; exact vx_Zq.moved hW0.alike (hU.kept hS.2.1)
  have hN' : vx_Zq Bundle.tN "SUPPRESSED_SENTINEL" Bundle.listD A s' s'.heap := by rw [hhp]; exact vx_Zq.moved hW0.alike (hN.kept hS.2.1)
  have h : ∀ w ∈ Bundle.ownAtoms0 own ic cls names, w.before args s' = true := vx_own hat' (vx_isRefq hU'.1) (vx_isRefq hN'.1) hU'.2.word hN'.2.word
  have hown' : s'.vm.findClass own = some m.cls := by rw [hvm]; exact hown
  have hins : (Cond.instantiable cls 6).before args s' = true := h _ (by simp [Bundle.ownAtoms0])
  obtain ⟨vm₁, cX, kX, hfX, hkX, -, -, X₁, st1⟩ := Y.newCold hexec (own := own) (C := cls) (index := ik) (n := 6) hown' hk' hins hini'
    (g := F0 m pc ls rest) rfl (by rw [hb]; exact d0) (Nat.le_refl _) (Nat.le_refl _)
  generalize hT1 : (T.setVm vm₁).pushCell { cls := cX, slots := kX.instanceTypes.map defaultValue, vm := .none } = T1 at X₁ st1
  have hcat : (Value.ref T.heap.size).category = 1 := rfl
  have hcellA : T1.heap[T.heap.size]? = some (freshCell cX kX) := by rw [← hT1]; exact State.heap_pushCell_size _ _
  have d3' : decode c.code (pc + 3) = .ok (.dup, 1) := by rw [hb]; exact d3
  obtain ⟨U, hsteps, hrun, hend, hW, hsame, ce, hce, hO⟩ := X₁.ctorThrow0 hexec htr (own := own) (cls := cls) (names := names) (ic := ic) hown' hcls hnames h (fun x hx => nomatch hx) hfX hkX hcellA (by rw [hhp, hT]; exact Nat.le_refl _)
    (g := { method := m, pc := pc + 4, locals := ls, stack := .ref T.heap.size :: .ref T.heap.size :: rest, locked := none }) rfl hsize rfl rfl (rest := rest) rfl
    (by rw [hb]; exact d4) (by rw [hb]; exact d7) hout hRframes (by simp only [List.map_cons, List.sum_cons, hcat]; omega) hlocks
  obtain ⟨f1, f2⟩ := vx_frame hsame
  rw [hhp] at f1 f2
  have hWs : s.WarmedH U.vm := State.WarmedH.trans hW0 hW
  have hcl : s.vm.findClass cls = some ce.cls := by
    have h9 := hO.cls
    rw [hvm] at h9
    exact h9
  have hall : s.sameButNew ({ U with vm := s.vm } : State) locs mc ms := by
    subst hA
    obtain ⟨e1, e2⟩ := hsame
    rw [State.setFrames_setFrames] at e1
    have h2 : (T.setVm s.vm).sameButNew ({ U with vm := s.vm } : State) [] (0 + 1) (0 + 6) := ⟨e1, e2⟩
    have h3 := X.same.trans h2
    rw [List.append_nil] at h3
    exact h3.mono hc hs
  refine ⟨U, ?_, .threw T.heap.size, hrun, hend, Or.inr ⟨T.heap.size, rfl, cls, ce, locs, hx U hWs.alike f1 (fun q hq => f2 q hq (fun z hz => nomatch hz)), hce, hO.vm, hcl, hWs, hall, hf⟩⟩
  refine st1 _ ?_
  show Steps p.tables e below (T1.setTop { method := m, pc := pc + 3, locals := ls, stack := .ref T.heap.size :: rest, locked := none }) _
  jvm_step X₁.here [X₁.here.top, hexec, d3', Value.category]
  exact hsteps
/-- 'throw new E("text")': new; dup; ldc; invokespecial; athrow -/
theorem vx_throwS {cc : ByteArray} {pc : Nat} (hexec : p.tables.exec = Jvm.exec) (hb : c.code = cc) (hl : l.stackTraces = false) {own cls text : String} {names : List String} {ik is ic mc ms sa : Nat} {A : Nat → Prop}
    (hown : s.vm.findClass own = some m.cls) (hcls : Bundle.fit cls = true) (hnames : ∀ n ∈ names, Bundle.fit n = true)
    (hk : (Cond.classLink own ik cls).before args s = true) (hini : (Cond.initialized cls).before args s = true) (hstr : vk_R own is text sa s) (hat : ∀ w ∈ vx_atS own ic cls names, w.before args s = true)
    (hgood : ∀ w ∈ Cond.classLink own ik cls :: Cond.initialized cls :: vx_atS own ic cls names, vx_ot w = true)
    (hU : vx_Zq Bundle.tN "UNASSIGNED_STACK" Bundle.steD A s s.heap) (hN : vx_Zq Bundle.tN "SUPPRESSED_SENTINEL" Bundle.listD A s s.heap) (hS : va_S A s.heap H locs) (hsize : ls.size = c.maxLocals)
    (d0 : decode cc pc = .ok (.new ik, 3)) (d3 : decode cc (pc + 3) = .ok (.dup, 1)) (d4 : decode cc (pc + 4) = .ok (.ldc is, 2)) (d6 : decode cc (pc + 6) = .ok (.invokespecial ic, 3)) (d9 : decode cc (pc + 9) = .ok (.athrow, 1))
    (hout : ∀ x ∈ c.exceptionTable.toList, covers x (pc + 9) = false)
    (hRframes : names.length + 3 < R.frames) (hRlocals : (rest.map fun v => v.category).sum + (13 * (names.length + 1) + 43) ≤ R.locals) (hRcells : cells + 1 ≤ R.cells) (hRslots : slots + 6 ≤ R.slots) (hlocks : meth.locks = false)
    (hx : ∀ t : State, s.vm.Alike t.vm → H.size ≤ t.heap.size → (∀ q : Nat, q < H.size → t.heap[q]? = H[q]?) → XC cls s t)
    (hf : ∀ z ∈ locs, free z.base) (hc : cells + 1 ≤ mc) (hs : slots + 6 ≤ ms) :
    W p l e R s m args below meth c H locs cells slots (vx_MQ below Qc XC args s mc ms free) (F0 m pc ls rest) := by
  intro T hT X
  have htr : e.platform.stackTraces = false := (show e.platform.stackTraces = l.stackTraces by rw [X.admits.platform]).trans hl
  have Y := vx_rebase X (R' := { frames := R.frames, locals := R.locals, cells := 1, slots := 6 }) (Nat.le_refl _) (Nat.le_refl _) hRcells hRslots
  obtain ⟨s', hA⟩ : ∃ z, z = (T.setVm s.vm).setFrames (.invoking m args :: below) := ⟨_, rfl⟩
  rw [← hA] at Y
  have hvm : s'.vm = s.vm := by rw [hA]; rfl
  have hhp : s'.heap = H := by rw [hA]; exact hT
  have hW0 : s.WarmedH s'.vm := by rw [hvm]; exact State.WarmedH.refl s
  have hat' : ∀ w ∈ vx_atS own ic cls names, w.before args s' = true := fun w hw => vx_ot_at hW0 hvm.symm (hgood w (List.mem_cons_of_mem _ (List.mem_cons_of_mem _ hw))) (hat w hw)
  have hk' : (Cond.classLink own ik cls).before args s' = true := vx_ot_at hW0 hvm.symm (hgood _ List.mem_cons_self) hk
  have hini' : (Cond.initialized cls).before args s' = true := vx_ot_at hW0 hvm.symm (hgood _ (List.mem_cons_of_mem _ List.mem_cons_self)) hini
  have hU' : vx_Zq Bundle.tN "UNASSIGNED_STACK" Bundle.steD A s' s'.heap := by rw [hhp]; exact vx_Zq.moved hW0.alike (hU.kept hS.2.1)
  have hN' : vx_Zq Bundle.tN "SUPPRESSED_SENTINEL" Bundle.listD A s' s'.heap := by rw [hhp]; exact vx_Zq.moved hW0.alike (hN.kept hS.2.1)
  have h : ∀ w ∈ Bundle.ownAtoms own ic cls names, w.before args s' = true := vx_own hat' (vx_isRefq hU'.1) (vx_isRefq hN'.1) hU'.2.word hN'.2.word
  have hown' : s'.vm.findClass own = some m.cls := by rw [hvm]; exact hown
  have hins : (Cond.instantiable cls 6).before args s' = true := h _ (by simp [Bundle.ownAtoms])
  obtain ⟨vm₁, cX, kX, hfX, hkX, -, -, X₁, st1⟩ := Y.newCold hexec (own := own) (C := cls) (index := ik) (n := 6) hown' hk' hins hini'
    (g := F0 m pc ls rest) rfl (by rw [hb]; exact d0) (Nat.le_refl _) (Nat.le_refl _)
  generalize hT1 : (T.setVm vm₁).pushCell { cls := cX, slots := kX.instanceTypes.map defaultValue, vm := .none } = T1 at X₁ st1
  have hcat : (Value.ref T.heap.size).category = 1 := rfl
  have hcellA : T1.heap[T.heap.size]? = some (freshCell cX kX) := by rw [← hT1]; exact State.heap_pushCell_size _ _
  have d3' : decode c.code (pc + 3) = .ok (.dup, 1) := by rw [hb]; exact d3
  have d4' : decode c.code (pc + 4) = .ok (.ldc is, 2) := by rw [hb]; exact d4
  have hstr' : vk_R own is text sa s' := vk_R.warm hW0 hstr
  obtain ⟨U, hsteps, hrun, hend, hW, hsame, ce, hce, hO⟩ := X₁.ctorThrowS hexec htr (own := own) (cls := cls) (names := names) (ic := ic) hown' hcls hnames h (fun x hx => nomatch hx) hfX hkX hcellA (by rw [hhp, hT]; exact Nat.le_refl _) (msg := .ref sa) rfl
    (g := { method := m, pc := pc + 6, locals := ls, stack := .ref sa :: .ref T.heap.size :: .ref T.heap.size :: rest, locked := none }) rfl hsize rfl rfl (rest := rest) rfl
    (by rw [hb]; exact d6) (by rw [hb]; exact d9) hout hRframes (by simp only [List.map_cons, List.sum_cons, hcat]; omega) hlocks
  obtain ⟨f1, f2⟩ := vx_frame hsame
  rw [hhp] at f1 f2
  have hWs : s.WarmedH U.vm := State.WarmedH.trans hW0 hW
  have hcl : s.vm.findClass cls = some ce.cls := by
    have h9 := hO.cls
    rw [hvm] at h9
    exact h9
  have hall : s.sameButNew ({ U with vm := s.vm } : State) locs mc ms := by
    subst hA
    obtain ⟨e1, e2⟩ := hsame
    rw [State.setFrames_setFrames] at e1
    have h2 : (T.setVm s.vm).sameButNew ({ U with vm := s.vm } : State) [] (0 + 1) (0 + 6) := ⟨e1, e2⟩
    have h3 := X.same.trans h2
    rw [List.append_nil] at h3
    exact h3.mono hc hs
  refine ⟨U, ?_, .threw T.heap.size, hrun, hend, Or.inr ⟨T.heap.size, rfl, cls, ce, locs, hx U hWs.alike f1 (fun q hq => f2 q hq (fun z hz => nomatch hz)), hce, hO.vm, hcl, hWs, hall, hf⟩⟩
  refine st1 _ ?_
  show Steps p.tables e below (T1.setTop { method := m, pc := pc + 3, locals := ls, stack := .ref T.heap.size :: rest, locked := none }) _
  jvm_step X₁.here [X₁.here.top, hexec, d3', Value.category]
  exact X₁.ldcString hexec (own := own) (text := text) (index := is) (a := sa) hown' hstr'.1 hstr'.2
    (g := { method := m, pc := pc + 4, locals := ls, stack := .ref T.heap.size :: .ref T.heap.size :: rest, locked := none }) rfl d4' _ hsteps
/-- 'throw new E("text")', the text by a wide index -/
theorem vx_throwSW {cc : ByteArray} {pc : Nat} (hexec : p.tables.exec = Jvm.exec) (hb : c.code = cc) (hl : l.stackTraces = false) {own cls text : String} {names : List String} {ik is ic mc ms sa : Nat} {A : Nat → Prop}
    (hown : s.vm.findClass own = some m.cls) (hcls : Bundle.fit cls = true) (hnames : ∀ n ∈ names, Bundle.fit n = true)
    (hk : (Cond.classLink own ik cls).before args s = true) (hini : (Cond.initialized cls).before args s = true) (hstr : vk_R own is text sa s) (hat : ∀ w ∈ vx_atS own ic cls names, w.before args s = true)
    (hgood : ∀ w ∈ Cond.classLink own ik cls :: Cond.initialized cls :: vx_atS own ic cls names, vx_ot w = true)
    (hU : vx_Zq Bundle.tN "UNASSIGNED_STACK" Bundle.steD A s s.heap) (hN : vx_Zq Bundle.tN "SUPPRESSED_SENTINEL" Bundle.listD A s s.heap) (hS : va_S A s.heap H locs) (hsize : ls.size = c.maxLocals)
    (d0 : decode cc pc = .ok (.new ik, 3)) (d3 : decode cc (pc + 3) = .ok (.dup, 1)) (d4 : decode cc (pc + 4) = .ok (.ldc_w is, 3)) (d7 : decode cc (pc + 7) = .ok (.invokespecial ic, 3)) (d10 : decode cc (pc + 10) = .ok (.athrow, 1))
    (hout : ∀ x ∈ c.exceptionTable.toList, covers x (pc + 10) = false)
    (hRframes : names.length + 3 < R.frames) (hRlocals : (rest.map fun v => v.category).sum + (13 * (names.length + 1) + 43) ≤ R.locals) (hRcells : cells + 1 ≤ R.cells) (hRslots : slots + 6 ≤ R.slots) (hlocks : meth.locks = false)
    (hx : ∀ t : State, s.vm.Alike t.vm → H.size ≤ t.heap.size → (∀ q : Nat, q < H.size → t.heap[q]? = H[q]?) → XC cls s t)
    (hf : ∀ z ∈ locs, free z.base) (hc : cells + 1 ≤ mc) (hs : slots + 6 ≤ ms) :
    W p l e R s m args below meth c H locs cells slots (vx_MQ below Qc XC args s mc ms free) (F0 m pc ls rest) := by
  intro T hT X
  have htr : e.platform.stackTraces = false := (show e.platform.stackTraces = l.stackTraces by rw [X.admits.platform]).trans hl
  have Y := vx_rebase X (R' := { frames := R.frames, locals := R.locals, cells := 1, slots := 6 }) (Nat.le_refl _) (Nat.le_refl _) hRcells hRslots
  obtain ⟨s', hA⟩ : ∃ z, z = (T.setVm s.vm).setFrames (.invoking m args :: below) := ⟨_, rfl⟩
  rw [← hA] at Y
  have hvm : s'.vm = s.vm := by rw [hA]; rfl
  have hhp : s'.heap = H := by rw [hA]; exact hT
  have hW0 : s.WarmedH s'.vm := by rw [hvm]; exact State.WarmedH.refl s
  have hat' : ∀ w ∈ vx_atS own ic cls names, w.before args s' = true := fun w hw => vx_ot_at hW0 hvm.symm (hgood w (List.mem_cons_of_mem _ (List.mem_cons_of_mem _ hw))) (hat w hw)
  have hk' : (Cond.classLink own ik cls).before args s' = true := vx_ot_at hW0 hvm.symm (hgood _ List.mem_cons_self) hk
  have hini' : (Cond.initialized cls).before args s' = true := vx_ot_at hW0 hvm.symm (hgood _ (List.mem_cons_of_mem _ List.mem_cons_self)) hini
  have hU' : vx_Zq Bundle.tN "UNASSIGNED_STACK" Bundle.steD A s' s'.heap := by rw [hhp]; exact vx_Zq.moved hW0.alike (hU.kept hS.2.1)
  have hN' : vx_Zq Bundle.tN "SUPPRESSED_SENTINEL" Bundle.listD A s' s'.heap := by rw [hhp]; exact vx_Zq.moved hW0.alike (hN.kept hS.2.1)
  have h : ∀ w ∈ Bundle.ownAtoms own ic cls names, w.before args s' = true := vx_own hat' (vx_isRefq hU'.1) (vx_isRefq hN'.1) hU'.2.word hN'.2.word
  have hown' : s'.vm.findClass own = some m.cls := by rw [hvm]; exact hown
  have hins : (Cond.instantiable cls 6).before args s' = true := h _ (by simp [Bundle.ownAtoms])
  obtain ⟨vm₁, cX, kX, hfX, hkX, -, -, X₁, st1⟩ := Y.newCold hexec (own := own) (C := cls) (index := ik) (n := 6) hown' hk' hins hini'
    (g := F0 m pc ls rest) rfl (by rw [hb]; exact d0) (Nat.le_refl _) (Nat.le_refl _)
  generalize hT1 : (T.setVm vm₁).pushCell { cls := cX, slots := kX.instanceTypes.map defaultValue, vm := .none } = T1 at X₁ st1
  have hcat : (Value.ref T.heap.size).category = 1 := rfl
  have hcellA : T1.heap[T.heap.size]? = some (freshCell cX kX) := by rw [← hT1]; exact State.heap_pushCell_size _ _
  have d3' : decode c.code (pc + 3) = .ok (.dup, 1) := by rw [hb]; exact d3
  have d4' : decode c.code (pc + 4) = .ok (.ldc_w is, 3) := by rw [hb]; exact d4
  have hstr' : vk_R own is text sa s' := vk_R.warm hW0 hstr
  obtain ⟨U, hsteps, hrun, hend, hW, hsame, ce, hce, hO⟩ := X₁.ctorThrowS hexec htr (own := own) (cls := cls) (names := names) (ic := ic) hown' hcls hnames h (fun x hx => nomatch hx) hfX hkX hcellA (by rw [hhp, hT]; exact Nat.le_refl _) (msg := .ref sa) rfl
    (g := { method := m, pc := pc + 7, locals := ls, stack := .ref sa :: .ref T.heap.size :: .ref T.heap.size :: rest, locked := none }) rfl hsize rfl rfl (rest := rest) rfl
    (by rw [hb]; exact d7) (by rw [hb]; exact d10) hout hRframes (by simp only [List.map_cons, List.sum_cons, hcat]; omega) hlocks
  obtain ⟨f1, f2⟩ := vx_frame hsame
  rw [hhp] at f1 f2
  have hWs : s.WarmedH U.vm := State.WarmedH.trans hW0 hW
  have hcl : s.vm.findClass cls = some ce.cls := by
    have h9 := hO.cls
    rw [hvm] at h9
    exact h9
  have hall : s.sameButNew ({ U with vm := s.vm } : State) locs mc ms := by
    subst hA
    obtain ⟨e1, e2⟩ := hsame
    rw [State.setFrames_setFrames] at e1
    have h2 : (T.setVm s.vm).sameButNew ({ U with vm := s.vm } : State) [] (0 + 1) (0 + 6) := ⟨e1, e2⟩
    have h3 := X.same.trans h2
    rw [List.append_nil] at h3
    exact h3.mono hc hs
  refine ⟨U, ?_, .threw T.heap.size, hrun, hend, Or.inr ⟨T.heap.size, rfl, cls, ce, locs, hx U hWs.alike f1 (fun q hq => f2 q hq (fun z hz => nomatch hz)), hce, hO.vm, hcl, hWs, hall, hf⟩⟩
  refine st1 _ ?_
  show Steps p.tables e below (T1.setTop { method := m, pc := pc + 3, locals := ls, stack := .ref T.heap.size :: rest, locked := none }) _
  jvm_step X₁.here [X₁.here.top, hexec, d3', Value.category]
  exact X₁.ldcStringW hexec (own := own) (text := text) (index := is) (a := sa) hown' hstr'.1 hstr'.2
    (g := { method := m, pc := pc + 4, locals := ls, stack := .ref T.heap.size :: .ref T.heap.size :: rest, locked := none }) rfl d4' _ hsteps
end Ends
section Bodies
variable {l : Launch}
theorem vx_ofW {y : MethodName} {ws ws' : List Cond} {rm : Room} {Pc : Array Value → State → Prop} {Qc : Array Value → State → Outcome → State → Prop} {XC : String → State → State → Prop} {mc ms : Nat} {free : Addr → Prop} {cc : ByteArray} {maxL : Nat} {ret : Option FieldType}
    (hy : plainName y.cls = true) (hw : ws = Cond.code y cc maxL ret :: ws')
    (body : ∀ p e s m args below meth c s₁, BodyLoose p l y (headSpec ws rm) cc maxL ret e s m args below meth c s₁ → c.maxLocals = maxL → (∀ x ∈ c.exceptionTable.toList, False) → Pc args s →
      W p l e (headSpec ws rm).room s m args below meth c s.heap [] 0 0 (vx_MQ below Qc XC args s mc ms free) (entryFrame m args maxL)) : vx_Met l y ws rm Pc Qc XC mc ms free := by
  refine MetFree.of_bodyS (code := cc) (maxLocals := maxL) (ret := ret) hy ?_ ?_
  · intro args s m h hn
    obtain ⟨meth, c, h1, h2, h3, h4, h5, h6, -, -⟩ := Cond.code_spec hn (atoms_spec (ws := ws) h _ (by rw [hw]; exact List.mem_cons_self))
    exact ⟨meth, c, h1, h2, h3, h4, h5, h6⟩
  · intro p e s m args below meth c s₁ B hml hP _
    have hh0 : s₁.heap = s.heap := by rw [B.state]; rfl
    have ht : ∀ x ∈ c.exceptionTable.toList, False := by
      obtain ⟨meth9, c9, h1, h2, -, -, -, -, h7, -⟩ := Cond.code_spec B.named (atoms_spec (ws := ws) B.pre _ (by rw [hw]; exact List.mem_cons_self))
      cases Option.some.inj (h1.symm.trans B.method)
      cases Option.some.inj (h2.symm.trans (Stand.of_body B).code)
      intro x hx
      rw [Array.isEmpty_iff.mp h7] at hx
      cases hx
    obtain ⟨t, a1, o, b1, b2, b3⟩ := body p e s m args below meth c s₁ B hml ht hP s₁ hh0 (Stand.of_body B)
    exact ⟨t, o, a1, b1, b2, b3⟩
/-- the table of a body with handlers -/
theorem vx_table {p : Program} {x y : MethodName} {S : Spec} {cc bytes : ByteArray} {maxL maxL' : Nat} {ret ret' : Option FieldType} {e : Env} {s s₁ : State} {m : MethodId} {args : Array Value} {below : List Frame} {meth : Method} {c : Code} {hh : List (Nat × Nat × Nat × Nat)}
    (B : BodyLoose p l y S cc maxL ret e s m args below meth c s₁) (h : (Cond.codeWith y bytes maxL' ret' hh).before args s = true) : c.exceptionTable.toList = tableOf hh := by
  obtain ⟨m9, meth9, c9, hn9, h1, h2, -, -, h6, -⟩ := Cond.codeWith_spec h
  cases Option.some.inj (hn9.symm.trans B.named)
  cases Option.some.inj (h1.symm.trans B.method)
  cases Option.some.inj (h2.symm.trans (Stand.of_body B).code)
  rw [← h6, table_eq]
end Bodies
end VXA
/-! ===== END ===== -/
/-! ===== BEGIN a static call of a method with an exception table ===== -/
section VXS
variable {p : Program} {l : Launch} {e : Env} {R : Room} {s : State} {m : MethodId} {args : Array Value} {below : List Frame} {meth : Method} {c : Code} {T : State} {H : Heap} {locs : List Loc} {cells slots : Nat}
abbrev vx_CSW (R : Room) (s : State) (args : Array Value) (own : String) (index : Nat) (y : MethodName) (bytes : ByteArray) (maxL : Nat) (ret : Option FieldType) (hh : List (Nat × Nat × Nat × Nat)) (ws : List Cond) (rm : Room) (mc ms n : Nat) : Prop :=
  (rm.cells = mc ∧ rm.slots = ms ∧ rm.frames + 1 ≤ R.frames ∧ 8 + (maxL + 11) + rm.locals ≤ R.locals ∧ (∀ w ∈ ws, ∀ (a' : Array Value) (U : State), s.WarmedH U.vm → w.before a' U = true) ∧ Cond.codeWith y bytes maxL ret hh ∈ ws) ∧
  (Cond.codeWith y bytes maxL ret hh).before args s = true ∧ (Cond.initialized y.cls).before args s = true ∧ (y.cls ≠ "java/lang/invoke/MethodHandle" ∧ y.cls ≠ "java/lang/invoke/VarHandle") ∧
  (∀ sig, parseMethodDescriptor y.desc = some sig → n = sig.parameters.length) ∧ (Cond.methodLink own index y).before args s = true ∧ (Cond.static y).before args s = true
theorem vx_cwSW {own : String} {index maxL mc ms : Nat} {y : MethodName} {bytes : ByteArray} {ret : Option FieldType} {hh : List (Nat × Nat × Nat × Nat)} {Ts ws ws' : List Cond} {rm : Room} (n : Nat) (ht : ∀ w ∈ Ts, w.before args s = true) (hT : GoodIn Ts (va_wsS own index y ws)) (hw : ws = Cond.codeWith y bytes maxL ret hh :: ws') (hrc : rm.cells = mc) (hrs : rm.slots = ms)
    (hd : y.cls ≠ "java/lang/invoke/MethodHandle" ∧ y.cls ≠ "java/lang/invoke/VarHandle" ∧ (parseMethodDescriptor y.desc).map (fun d => d.parameters.length) = some n) (hR : rm.frames + 1 ≤ R.frames ∧ 8 + (maxL + 11) + rm.locals ≤ R.locals) :
    vx_CSW R s args own index y bytes maxL ret hh ws rm mc ms n := by
  have ok : ∀ w ∈ va_wsS own index y ws, w.before args s = true := fun w h => ht w (hT w h).1
  have hG : GoodIn Ts ws := fun w h => hT w (by unfold va_wsS; exact List.mem_append_right _ h)
  have hc : Cond.codeWith y bytes maxL ret hh ∈ ws := by rw [hw]; exact List.mem_cons_self
  refine ⟨⟨hrc, hrs, hR.1, hR.2, pay_in ht hG, hc⟩, ht _ (hG _ hc).1, ok _ (by simp [va_wsS]), ⟨hd.1, hd.2.1⟩, fun sig h => ?_, ok _ (by simp [va_wsS]), ok _ (by simp [va_wsS])⟩
  have h2 := hd.2.2
  rw [h] at h2
  exact (Option.some.inj h2).symm
theorem vx_callSW (X : Stand p l e R s m args below meth c T locs cells slots) (hexec : p.tables.exec = Jvm.exec) {own : String} {index : Nat} {y : MethodName} {bytes : ByteArray} {maxL : Nat} {ret : Option FieldType} {hh : List (Nat × Nat × Nat × Nat)}
    (hown : s.vm.findClass own = some m.cls) (hlink : (Cond.methodLink own index y).before args s = true) (hstat : (Cond.static y).before args s = true) (hinit : (Cond.initialized y.cls).before args s = true)
    (hcode : (Cond.codeWith y bytes maxL ret hh).before args s = true) (hy : y.cls ≠ "java/lang/invoke/MethodHandle" ∧ y.cls ≠ "java/lang/invoke/VarHandle")
    {W9 : Nat} {Pre : Pt → Array Value → Prop} {Post : Pt → Array Value → Option Value → Pt → Prop} (hK : Back l R p e below s args y 3 W9 Pre Post)
    {g : JFrame} (hg : g.method = m) (hsize : g.locals.size = c.maxLocals) {argsL rest : List Value} (hlen : ∀ sig, parseMethodDescriptor y.desc = some sig → argsL.length = sig.parameters.length)
    (hstack : g.stack = argsL.reverse ++ rest) (hW : 2 * g.monitorRoom + (rest.map fun v => v.category).sum ≤ W9) (hdg : decode c.code g.pc = .ok (.invokestatic index, 3))
    (hpre : ∀ vm₁, s.WarmedH vm₁ → Pre ⟨T.setVm vm₁, locs, cells, slots⟩ argsL.toArray) :
    ∃ (v : Option Value) (vm₁ : Vm) (B : Pt), s.WarmedH vm₁ ∧ Stand p l e R s m args below meth c B.U B.locs B.cells B.slots ∧ Post ⟨T.setVm vm₁, locs, cells, slots⟩ argsL.toArray v B ∧
      ∀ target, Steps p.tables e below (B.U.setTop { g with pc := g.pc + 3, stack := v.toList ++ rest }) target → Steps p.tables e below (T.setTop g) target := by
  obtain ⟨mk, methM, cM, hnamed, hmethM, -, -, -, -, -, -, hsigM⟩ := Cond.codeWith_spec hcode
  have hstatic : methM.isStatic = true := Cond.static_spec hnamed hmethM hstat
  obtain ⟨kP, hkP, -⟩ := className_of_methodNamed hnamed
  have hinitP : kP.init = .initialized := Cond.initialized_spec (findClass_of_methodNamed hnamed) hkP hinit
  obtain ⟨vm₁, X₁, hstep₁⟩ := X.invokestatic hexec hown hlink hnamed hmethM hstatic hkP hinitP hy (g := g) hg (argsL := argsL) (rest := rest) (hlen _ hsigM) hstack hdg
  obtain ⟨v, B, X', hpost, hsteps⟩ := hK m meth c ⟨T.setVm vm₁, locs, cells, slots⟩ { g with stack := rest } (.invokestatic index) mk argsL.toArray X₁ hg hsize hdg hW (X₁.named hnamed) (hpre vm₁ X₁.warmed)
  exact ⟨v, vm₁, B, X₁.warmed, X', hpost, fun target h => hstep₁ _ fun acts => by rw [doInvoke_state]; exact hsteps.trans h⟩
theorem vx_runSW {y : MethodName} {bytes cc : ByteArray} {maxL nL mc ms n index : Nat} {ret : Option FieldType} {hh : List (Nat × Nat × Nat × Nat)} {ws : List Cond} {rm : Room} {Pc : Array Value → State → Prop} {Qc : Array Value → State → Outcome → State → Prop} {free : Addr → Prop} {Ts : List Cond} {own : String} {As rest : List Value} {g : JFrame}
    (S : CallFix p m c cc nL s args Ts own) (hM : Met l y ws rm Pc Qc mc ms free) (cw : vx_CSW R s args own index y bytes maxL ret hh ws rm mc ms n) (hp : PreS s H Pc As)
    (hg : g.method = m) (hn : As.length = n) (hsize : g.locals.size = nL) (hstack : g.stack = As.reverse ++ rest) (hW : 2 * g.monitorRoom + (rest.map fun v => v.category).sum ≤ 8) (hdg : decode cc g.pc = .ok (.invokestatic index, 3)) (hf : cells + mc ≤ R.cells ∧ slots + ms ≤ R.slots) :
    va_Run p l e R s m args below meth c H locs cells slots mc ms g rest (Qc As.toArray) (free) := by
  obtain ⟨⟨hrc, hrs, hfr, hlo, hws, hcw⟩, hcode, hini, hy, hlen, hl, hstt⟩ := cw
  have hK : Back l R p e below s args y 3 8 (PreOf R mc ms Pc) (PostOf Qc mc ms free) := va_backW (hh := hh) (bytes := bytes) (maxL := maxL) (ret := ret) hM hp.1 hrc hrs hfr hlo hws hcw (fun a' U hW => word_at hW (Or.inl (by first | rfl | simp [Cond.onTables, Cond.keeps, Cond.steady])) hini)
  obtain ⟨hx, hb, hml, ho, -⟩ := S
  intro T hT X
  obtain ⟨v, vm₁, ⟨U', l2, c2, s2⟩, hW₁, X', ⟨g', mk, t, L, e1, e2, hq, h1, hL, h2, h3⟩, st⟩ := vx_callSW X hx (hh := hh) (bytes := bytes) (maxL := maxL) (ret := ret) ho hl hstt hini hcode hy hK hg (hsize.trans hml.symm) (argsL := As) (rest := rest) (fun sig h => hn.trans (hlen sig h)) hstack hW (by rw [hb]; exact hdg)
    (fun vm₁ hW₁ => ⟨hf.1, hf.2, hp.2 (T.setVm vm₁) hT hW₁⟩)
  dsimp only [Pt.U, Pt.locs, Pt.cells, Pt.slots] at X' e1 e2 h1 h2 h3 st
  subst h1; subst h2; subst h3
  exact ⟨v, (T.setVm vm₁).calling g' mk As.toArray, t, U', L, hT, X', hL, e1, e2, hq, st⟩
/-- a thing of a world lies in the heap -/
theorem vx_lt {D : va_G} {cl : List vw_C} {ws : va_W} {H1 : Heap} (h : va_P D cl ws H1) {k : Nat} {q : Nat × va_E} (hk : ws[k]? = some q) : q.1 < H1.size := (h k q hk).lt
end VXS
/-! ===== END ===== -/
/-! ===== BEGIN methods with a table of their own: called by a name, returning or throwing ===== -/
section VXH
/-! vx_backW, vx_callVX, vx_callSX, vx_callVW, vx_runVW, vx_runVX, vx_runSX, vx_ofWH follow the same proofs as their sisters above (Free/Laws.lean, Shelf42/LK1.lean); vx_outP calls Shelf42/NT130.lean (outThrough). -/
section
variable {l : Launch} {R : Room} {p : Program} {e : Env} {below : List Frame} {s : State} {sargs : Array Value} {y : MethodName} {len W9 : Nat}
theorem vx_backW {ws : List Cond} {rm : Room} {Pc : Array Value → State → Prop} {Qc : Array Value → State → Outcome → State → Prop} {XC : String → State → State → Prop} {mc ms : Nat} {free : Addr → Prop} {bytes : ByteArray} {maxL : Nat} {ret : Option FieldType} {hh : List (Nat × Nat × Nat × Nat)}
    (hM : vx_Met l y ws rm Pc Qc XC mc ms free) (hblind : FrameBlind Pc) (hrc : rm.cells = mc) (hrs : rm.slots = ms)
    (hframes : rm.frames + 1 ≤ R.frames) (hlocals : W9 + (maxL + 11) + rm.locals ≤ R.locals)
    (hws : ∀ w ∈ ws, ∀ a' U, s.WarmedH U.vm → w.before a' U = true) (hcode : Cond.codeWith y bytes maxL ret hh ∈ ws) (hinit : ∀ a' U, s.WarmedH U.vm → (Cond.initialized y.cls).before a' U = true) :
    vx_Back l R p e below s sargs y len W9 (PreOf R mc ms Pc) (PostOf Qc mc ms free) (vx_Post XC mc ms free) := by
  intro m meth c A g ig mk a X hg hsize hdg hW hn hp
  have h1 : (headSpec ws rm).pre.before a A.U = true := atoms_intro fun w hw => hws w hw _ _ X.warmed
  have h2 : (Cond.codeWith y bytes maxL ret hh).before a A.U = true := hws _ hcode _ _ X.warmed
  have h3 : (Cond.initialized y.cls).before a A.U = true := hinit _ _ X.warmed
  have h4 : A.cells + (headSpec ws rm).room.cells ≤ R.cells := by rw [show (headSpec ws rm).room.cells = mc from hrc]; exact hp.1
  have h5 : A.slots + (headSpec ws rm).room.slots ≤ R.slots := by rw [show (headSpec ws rm).room.slots = ms from hrs]; exact hp.2.1
  have hPc : Pc a (A.U.calling g mk a) := hblind _ _ _ _ hp.2.2
  obtain ⟨U, Ls, c0, s0⟩ := A
  dsimp only [Pt.U, Pt.locs, Pt.cells, Pt.slots] at h1 h2 h3 h4 h5 X hn hPc ⊢
  obtain ⟨m9, methY, cY, hn9, hmY, hcY, -, hlY, -⟩ := Cond.codeWith_spec h2
  cases Option.some.inj (hn9.symm.trans hn)
  obtain ⟨kY, hkY, -⟩ := className_of_methodNamed hn
  have hinitY : kY.init = .initialized := Cond.initialized_spec (findClass_of_methodNamed hn) hkY h3
  have h : At U g.method c below := by rw [hg]; exact X.here
  have hlocals9 : W9 + (maxL + 11) + (headSpec ws rm).room.locals ≤ R.locals := hlocals
  have happ : (headSpec ws rm).appliesLoose y e.platform (U.calling g mk a) = true :=
    Spec.appliesLoose_calling (g := g) h hdg hn hkY hinitY
      (X.room_calling (g := g) (R' := (headSpec ws rm).room) hsize hmY hcY hframes (by rw [hlY]; omega) h4 h5) h1
  obtain ⟨mid, hmid⟩ := h.above
  have hfr : (U.setTop g).frames = (.java g :: mid) ++ below := by rw [State.frames_setTop' g h.top, hmid]; rfl
  obtain ⟨o, s₂, hsteps, -, hend, hq⟩ := Steps.callFree hM p X.admits X.cas X.clock (acts := []) hfr happ hPc trivial
  have hq' : vx_Q Qc XC mc ms free a (U.calling g mk a) o s₂ := hq
  rw [State.frames_setTop' g h.top] at hend
  obtain ⟨g₀, hg0⟩ := Option.isSome_iff_exists.mp h.top
  obtain ⟨r, hr⟩ := State.topJava?_eq_some.mp hg0
  have hr' : (({ U with heap := s₂.heap, slotsUsed := s₂.slotsUsed } : State).setVm s₂.vm).frames = .java g₀ :: r := hr
  rcases hq' with ⟨hqc, L, hfe, hL⟩ | ⟨q, rfl, E, ce, L, hx, hce, hcv, hcl, hW₂, hsm, hL⟩
  · obtain ⟨⟨v, rfl⟩, hW₂, e2, q2, q3, q4, q5, q6⟩ := id hfe
    have e3 : s₂ = ({ (U.calling g mk a).setFrames s₂.frames with heap := s₂.heap, slotsUsed := s₂.slotsUsed } : State).setVm s₂.vm := by
      have : s₂ = ({ s₂ with vm := (U.calling g mk a).vm } : State).setVm s₂.vm := rfl
      rw [e2] at this
      exact this
    obtain ⟨c₂, i₂, len₂, hc₂, hd₂, hf₂⟩ := hend
    have hW' : U.WarmedH s₂.vm := hW₂
    have hcc : c₂ = c := by
      have h1 : s₂.code? g.method = U.code? g.method := by
        rw [State.code?_eq, State.code?_eq, hW'.alike.method?]
      exact Option.some.inj (hc₂.symm.trans (h1.trans h.code))
    subst hcc
    have hlen : len₂ = len := by rw [hdg] at hd₂; cases hd₂; rfl
    subst hlen
    have hs₂ : s₂ = (({ U with heap := s₂.heap, slotsUsed := s₂.slotsUsed } : State).setVm s₂.vm).setTop { g with pc := g.pc + len₂, stack := v.toList ++ g.stack } := by
      refine e3.trans ?_
      rw [hf₂, State.calling_eq h.top, State.setFrames_setFrames, State.setTop_of_frames _ hr', hr]
      rfl
    have hsame : U.sameButNew ({ U with heap := s₂.heap, slotsUsed := s₂.slotsUsed } : State) L mc ms := by
      refine ⟨?_, q2, q3, q4, q5, q6⟩
      obtain ⟨t, ht, -⟩ := State.frames_cons hr
      show ({ U with heap := s₂.heap, slotsUsed := s₂.slotsUsed } : State) = { U.setFrames U.frames with heap := s₂.heap, slotsUsed := s₂.slotsUsed }
      rw [State.setFrames_self ht]
    subst hg
    refine Or.inl ⟨v, ⟨(({ U with heap := s₂.heap, slotsUsed := s₂.slotsUsed } : State).setVm s₂.vm), Ls ++ L, c0 + mc, s0 + ms⟩,
      ⟨X.admits, X.cas, X.clock, X.frames, X.room, X.hears, X.method, X.code, (X.here.setHeapUsed s₂.heap s₂.slotsUsed).setVm hW'.alike, X.tail, State.WarmedH.trans X.warmed hW', X.limits, X.bytes, X.same.trans (hsame.setVm s.vm)⟩,
      ⟨g, mk, s₂, L, rfl, rfl, hqc, rfl, hL, rfl, rfl⟩, ?_⟩
    show Steps p.tables e below _ ((({ U with heap := s₂.heap, slotsUsed := s₂.slotsUsed } : State).setVm s₂.vm).setTop { g with pc := g.pc + len₂, stack := v.toList ++ g.stack })
    rw [← hs₂]
    exact hsteps
  · obtain ⟨e2, q2, q3, q4, q5, q6⟩ := id hsm
    have e3 : s₂ = ({ (U.calling g mk a).setFrames s₂.frames with heap := s₂.heap, slotsUsed := s₂.slotsUsed } : State).setVm s₂.vm := by
      have : s₂ = ({ s₂ with vm := (U.calling g mk a).vm } : State).setVm s₂.vm := rfl
      rw [e2] at this
      exact this
    have hf₂ : s₂.frames = .throwing q :: .java g :: U.frames.tail := hend
    have hW' : U.WarmedH s₂.vm := hW₂
    have hs₂ : s₂ = ((({ U with heap := s₂.heap, slotsUsed := s₂.slotsUsed } : State).setVm s₂.vm).setTop g).pushFrame (.throwing q) := by
      refine e3.trans ?_
      rw [hf₂, State.calling_eq h.top, State.setFrames_setFrames, State.pushFrame, State.frames_setTop _ hr', State.setTop_of_frames _ hr', State.setFrames_setFrames, hr]
      rfl
    have hsame : U.sameButNew ({ U with heap := s₂.heap, slotsUsed := s₂.slotsUsed } : State) L mc ms := by
      refine ⟨?_, q2, q3, q4, q5, q6⟩
      obtain ⟨t, ht, -⟩ := State.frames_cons hr
      show ({ U with heap := s₂.heap, slotsUsed := s₂.slotsUsed } : State) = { U.setFrames U.frames with heap := s₂.heap, slotsUsed := s₂.slotsUsed }
      rw [State.setFrames_self ht]
    subst hg
    refine Or.inr ⟨q, ⟨(({ U with heap := s₂.heap, slotsUsed := s₂.slotsUsed } : State).setVm s₂.vm), Ls ++ L, c0 + mc, s0 + ms⟩,
      ⟨X.admits, X.cas, X.clock, X.frames, X.room, X.hears, X.method, X.code, (X.here.setHeapUsed s₂.heap s₂.slotsUsed).setVm hW'.alike, X.tail, State.WarmedH.trans X.warmed hW', X.limits, X.bytes, X.same.trans (hsame.setVm s.vm)⟩,
      ⟨g, mk, s₂, L, E, ce, rfl, rfl, hx, hce, hcv, hcl, rfl, hL, rfl, rfl⟩, ?_⟩
    show Steps p.tables e below _ (((({ U with heap := s₂.heap, slotsUsed := s₂.slotsUsed } : State).setVm s₂.vm).setTop g).pushFrame (.throwing q))
    rw [← hs₂]
    exact hsteps
end
variable {p : Program} {l : Launch} {e : Env} {R : Room} {s : State} {m : MethodId} {args : Array Value} {below : List Frame} {meth : Method} {c : Code} {T : State} {H : Heap} {locs : List Loc} {cells slots : Nat}
theorem vx_callVX (X : Stand p l e R s m args below meth c T locs cells slots) (hexec : p.tables.exec = Jvm.exec) {own C : String} {index : Nat} {y : MethodName} {bytes : ByteArray} {maxL : Nat} {ret : Option FieldType} {hh : List (Nat × Nat × Nat × Nat)}
    (hown : s.vm.findClass own = some m.cls) (hlink : (Cond.methodLink own index y).before args s = true) (hinst : (Cond.instanceMethod y).before args s = true) (hsel : (Cond.selects C y y).before args s = true)
    (hcode : (Cond.codeWith y bytes maxL ret hh).before args s = true) (hy : y.cls ≠ "java/lang/invoke/MethodHandle" ∧ y.cls ≠ "java/lang/invoke/VarHandle")
    {W9 : Nat} {Pre : Pt → Array Value → Prop} {Post : Pt → Array Value → Option Value → Pt → Prop} {PostX : Pt → Array Value → Addr → Pt → Prop} (hK : vx_Back l R p e below s args y 3 W9 Pre Post PostX)
    {b : Addr} {cellB : Cell} (hcell : T.heap[b]? = some cellB) (hobj : cellB.vm.isStatics = false) (hcls : s.vm.findClass C = some cellB.cls)
    {g : JFrame} (hg : g.method = m) (hsize : g.locals.size = c.maxLocals) {argsL rest : List Value} (hlen : ∀ sig, parseMethodDescriptor y.desc = some sig → argsL.length = sig.parameters.length)
    (hstack : g.stack = argsL.reverse ++ .ref b :: rest) (hW : 2 * g.monitorRoom + (rest.map fun v => v.category).sum ≤ W9) (hdg : decode c.code g.pc = .ok (.invokevirtual index, 3))
    (hpre : ∀ vm₁, s.WarmedH vm₁ → Pre ⟨T.setVm vm₁, locs, cells, slots⟩ (Value.ref b :: argsL).toArray) :
    (∃ (v : Option Value) (vm₁ : Vm) (B : Pt), s.WarmedH vm₁ ∧ Stand p l e R s m args below meth c B.U B.locs B.cells B.slots ∧ Post ⟨T.setVm vm₁, locs, cells, slots⟩ (Value.ref b :: argsL).toArray v B ∧
      ∀ target, Steps p.tables e below (B.U.setTop { g with pc := g.pc + 3, stack := v.toList ++ rest }) target → Steps p.tables e below (T.setTop g) target) ∨
    (∃ (q : Addr) (vm₁ : Vm) (B : Pt), s.WarmedH vm₁ ∧ Stand p l e R s m args below meth c B.U B.locs B.cells B.slots ∧ PostX ⟨T.setVm vm₁, locs, cells, slots⟩ (Value.ref b :: argsL).toArray q B ∧
      Steps p.tables e below (T.setTop g) ((B.U.setTop { g with stack := rest }).pushFrame (.throwing q))) := by
  obtain ⟨mk, methM, hnamed, hmethM, hstM, habM⟩ := Cond.instanceMethod_spec hinst
  obtain ⟨m8, methM', cM, hn8, hmethM', -, -, -, -, -, -, hsigM⟩ := Cond.codeWith_spec hcode
  cases Option.some.inj (hn8.symm.trans hnamed)
  cases hmethM.symm.trans hmethM'
  obtain ⟨c2, r2, m2, q1, q2, q3, q4, kP, hkP, hkPi⟩ := Cond.selects_spec hsel
  cases hcls.symm.trans q1
  cases (State.methodFound?_of_named hnamed hy).symm.trans q2
  cases hnamed.symm.trans q3
  have hselP : selectMethod e.platform s.vm cellB.cls mk = .method mk := by rw [Launch.admits_selectMethod X.admits]; exact q4
  obtain ⟨vm₁, X₁, hstep₁⟩ := X.invokevirtual hexec hown hlink hnamed hmethM hstM hkP hkPi hy (a := b) (cell := cellB) hcell
    (fun z h => by rw [h] at hobj; cases hobj) hselP hmethM habM hkP hkPi (g := g) hg (argsL := argsL) (rest := rest) (hlen _ hsigM) hstack hdg
  rcases hK m meth c ⟨T.setVm vm₁, locs, cells, slots⟩ { g with stack := rest } (.invokevirtual index) mk (Value.ref b :: argsL).toArray X₁ hg hsize hdg hW (X₁.named hnamed) (hpre vm₁ X₁.warmed) with ⟨v, B, X', hpost, hsteps⟩ | ⟨q, B, X', hpost, hsteps⟩
  · exact Or.inl ⟨v, vm₁, B, X₁.warmed, X', hpost, fun target h => hstep₁ _ fun acts => by rw [doInvoke_state]; exact hsteps.trans h⟩
  · exact Or.inr ⟨q, vm₁, B, X₁.warmed, X', hpost, hstep₁ _ fun acts => by rw [doInvoke_state]; exact hsteps⟩
theorem vx_callSX (X : Stand p l e R s m args below meth c T locs cells slots) (hexec : p.tables.exec = Jvm.exec) {own : String} {index : Nat} {y : MethodName} {bytes : ByteArray} {maxL : Nat} {ret : Option FieldType} {hh : List (Nat × Nat × Nat × Nat)}
    (hown : s.vm.findClass own = some m.cls) (hlink : (Cond.methodLink own index y).before args s = true) (hstat : (Cond.static y).before args s = true) (hinit : (Cond.initialized y.cls).before args s = true)
    (hcode : (Cond.codeWith y bytes maxL ret hh).before args s = true) (hy : y.cls ≠ "java/lang/invoke/MethodHandle" ∧ y.cls ≠ "java/lang/invoke/VarHandle")
    {W9 : Nat} {Pre : Pt → Array Value → Prop} {Post : Pt → Array Value → Option Value → Pt → Prop} {PostX : Pt → Array Value → Addr → Pt → Prop} (hK : vx_Back l R p e below s args y 3 W9 Pre Post PostX)
    {g : JFrame} (hg : g.method = m) (hsize : g.locals.size = c.maxLocals) {argsL rest : List Value} (hlen : ∀ sig, parseMethodDescriptor y.desc = some sig → argsL.length = sig.parameters.length)
    (hstack : g.stack = argsL.reverse ++ rest) (hW : 2 * g.monitorRoom + (rest.map fun v => v.category).sum ≤ W9) (hdg : decode c.code g.pc = .ok (.invokestatic index, 3))
    (hpre : ∀ vm₁, s.WarmedH vm₁ → Pre ⟨T.setVm vm₁, locs, cells, slots⟩ argsL.toArray) :
    (∃ (v : Option Value) (vm₁ : Vm) (B : Pt), s.WarmedH vm₁ ∧ Stand p l e R s m args below meth c B.U B.locs B.cells B.slots ∧ Post ⟨T.setVm vm₁, locs, cells, slots⟩ argsL.toArray v B ∧
      ∀ target, Steps p.tables e below (B.U.setTop { g with pc := g.pc + 3, stack := v.toList ++ rest }) target → Steps p.tables e below (T.setTop g) target) ∨
    (∃ (q : Addr) (vm₁ : Vm) (B : Pt), s.WarmedH vm₁ ∧ Stand p l e R s m args below meth c B.U B.locs B.cells B.slots ∧ PostX ⟨T.setVm vm₁, locs, cells, slots⟩ argsL.toArray q B ∧
      Steps p.tables e below (T.setTop g) ((B.U.setTop { g with stack := rest }).pushFrame (.throwing q))) := by
  obtain ⟨mk, methM, cM, hnamed, hmethM, -, -, -, -, -, -, hsigM⟩ := Cond.codeWith_spec hcode
  have hstatic : methM.isStatic = true := Cond.static_spec hnamed hmethM hstat
  obtain ⟨kP, hkP, -⟩ := className_of_methodNamed hnamed
  have hinitP : kP.init = .initialized := Cond.initialized_spec (findClass_of_methodNamed hnamed) hkP hinit
  obtain ⟨vm₁, X₁, hstep₁⟩ := X.invokestatic hexec hown hlink hnamed hmethM hstatic hkP hinitP hy (g := g) hg (argsL := argsL) (rest := rest) (hlen _ hsigM) hstack hdg
  rcases hK m meth c ⟨T.setVm vm₁, locs, cells, slots⟩ { g with stack := rest } (.invokestatic index) mk argsL.toArray X₁ hg hsize hdg hW (X₁.named hnamed) (hpre vm₁ X₁.warmed) with ⟨v, B, X', hpost, hsteps⟩ | ⟨q, B, X', hpost, hsteps⟩
  · exact Or.inl ⟨v, vm₁, B, X₁.warmed, X', hpost, fun target h => hstep₁ _ fun acts => by rw [doInvoke_state]; exact hsteps.trans h⟩
  · exact Or.inr ⟨q, vm₁, B, X₁.warmed, X', hpost, hstep₁ _ fun acts => by rw [doInvoke_state]; exact hsteps⟩
theorem vx_callVW (X : Stand p l e R s m args below meth c T locs cells slots) (hexec : p.tables.exec = Jvm.exec) {own C : String} {index : Nat} {y : MethodName} {bytes : ByteArray} {maxL : Nat} {ret : Option FieldType} {hh : List (Nat × Nat × Nat × Nat)}
    (hown : s.vm.findClass own = some m.cls) (hlink : (Cond.methodLink own index y).before args s = true) (hinst : (Cond.instanceMethod y).before args s = true) (hsel : (Cond.selects C y y).before args s = true)
    (hcode : (Cond.codeWith y bytes maxL ret hh).before args s = true) (hy : y.cls ≠ "java/lang/invoke/MethodHandle" ∧ y.cls ≠ "java/lang/invoke/VarHandle")
    {W9 : Nat} {Pre : Pt → Array Value → Prop} {Post : Pt → Array Value → Option Value → Pt → Prop} (hK : Back l R p e below s args y 3 W9 Pre Post)
    {b : Addr} {cellB : Cell} (hcell : T.heap[b]? = some cellB) (hobj : cellB.vm.isStatics = false) (hcls : s.vm.findClass C = some cellB.cls)
    {g : JFrame} (hg : g.method = m) (hsize : g.locals.size = c.maxLocals) {argsL rest : List Value} (hlen : ∀ sig, parseMethodDescriptor y.desc = some sig → argsL.length = sig.parameters.length)
    (hstack : g.stack = argsL.reverse ++ .ref b :: rest) (hW : 2 * g.monitorRoom + (rest.map fun v => v.category).sum ≤ W9) (hdg : decode c.code g.pc = .ok (.invokevirtual index, 3))
    (hpre : ∀ vm₁, s.WarmedH vm₁ → Pre ⟨T.setVm vm₁, locs, cells, slots⟩ (Value.ref b :: argsL).toArray) :
    ∃ (v : Option Value) (vm₁ : Vm) (B : Pt), s.WarmedH vm₁ ∧ Stand p l e R s m args below meth c B.U B.locs B.cells B.slots ∧ Post ⟨T.setVm vm₁, locs, cells, slots⟩ (Value.ref b :: argsL).toArray v B ∧
      ∀ target, Steps p.tables e below (B.U.setTop { g with pc := g.pc + 3, stack := v.toList ++ rest }) target → Steps p.tables e below (T.setTop g) target := by
  obtain ⟨mk, methM, hnamed, hmethM, hstM, habM⟩ := Cond.instanceMethod_spec hinst
  obtain ⟨m8, methM', cM, hn8, hmethM', -, -, -, -, -, -, hsigM⟩ := Cond.codeWith_spec hcode
  cases Option.some.inj (hn8.symm.trans hnamed)
  cases hmethM.symm.trans hmethM'
  obtain ⟨c2, r2, m2, q1, q2, q3, q4, kP, hkP, hkPi⟩ := Cond.selects_spec hsel
  cases hcls.symm.trans q1
  cases (State.methodFound?_of_named hnamed hy).symm.trans q2
  cases hnamed.symm.trans q3
  have hselP : selectMethod e.platform s.vm cellB.cls mk = .method mk := by rw [Launch.admits_selectMethod X.admits]; exact q4
  obtain ⟨vm₁, X₁, hstep₁⟩ := X.invokevirtual hexec hown hlink hnamed hmethM hstM hkP hkPi hy (a := b) (cell := cellB) hcell
    (fun z h => by rw [h] at hobj; cases hobj) hselP hmethM habM hkP hkPi (g := g) hg (argsL := argsL) (rest := rest) (hlen _ hsigM) hstack hdg
  obtain ⟨v, B, X', hpost, hsteps⟩ := hK m meth c ⟨T.setVm vm₁, locs, cells, slots⟩ { g with stack := rest } (.invokevirtual index) mk (Value.ref b :: argsL).toArray X₁ hg hsize hdg hW (X₁.named hnamed) (hpre vm₁ X₁.warmed)
  exact ⟨v, vm₁, B, X₁.warmed, X', hpost, fun target h => hstep₁ _ fun acts => by rw [doInvoke_state]; exact hsteps.trans h⟩
abbrev vx_CVW (R : Room) (s : State) (args : Array Value) (own C : String) (index : Nat) (y : MethodName) (bytes : ByteArray) (maxL : Nat) (ret : Option FieldType) (hh : List (Nat × Nat × Nat × Nat)) (ws : List Cond) (rm : Room) (mc ms n : Nat) : Prop :=
  (rm.cells = mc ∧ rm.slots = ms ∧ rm.frames + 1 ≤ R.frames ∧ 8 + (maxL + 11) + rm.locals ≤ R.locals ∧ (∀ w ∈ ws, ∀ (a' : Array Value) (U : State), s.WarmedH U.vm → w.before a' U = true) ∧ Cond.codeWith y bytes maxL ret hh ∈ ws) ∧
  (Cond.codeWith y bytes maxL ret hh).before args s = true ∧ (Cond.initialized y.cls).before args s = true ∧ (y.cls ≠ "java/lang/invoke/MethodHandle" ∧ y.cls ≠ "java/lang/invoke/VarHandle") ∧
  (∀ sig, parseMethodDescriptor y.desc = some sig → n = sig.parameters.length) ∧ (Cond.methodLink own index y).before args s = true ∧ (Cond.instanceMethod y).before args s = true ∧ (Cond.selects C y y).before args s = true
theorem vx_cwVW {own C : String} {index maxL mc ms : Nat} {y : MethodName} {bytes : ByteArray} {ret : Option FieldType} {hh : List (Nat × Nat × Nat × Nat)} {Ts ws ws' : List Cond} {rm : Room} (n : Nat) (ht : ∀ w ∈ Ts, w.before args s = true) (hT : GoodIn Ts (wsV own index C y ws)) (hw : ws = Cond.codeWith y bytes maxL ret hh :: ws') (hrc : rm.cells = mc) (hrs : rm.slots = ms)
    (hd : y.cls = C ∧ y.cls ≠ "java/lang/invoke/MethodHandle" ∧ y.cls ≠ "java/lang/invoke/VarHandle" ∧ (parseMethodDescriptor y.desc).map (fun d => d.parameters.length) = some n) (hR : rm.frames + 1 ≤ R.frames ∧ 8 + (maxL + 11) + rm.locals ≤ R.locals) :
    vx_CVW R s args own C index y bytes maxL ret hh ws rm mc ms n := by
  obtain ⟨hC, hd⟩ := hd
  subst hC
  have ok : ∀ w ∈ wsV own index y.cls y ws, w.before args s = true := fun w h => ht w (hT w h).1
  have hG : GoodIn Ts ws := fun w h => hT w (by unfold wsV; exact List.mem_append_right _ h)
  have hc : Cond.codeWith y bytes maxL ret hh ∈ ws := by rw [hw]; exact List.mem_cons_self
  refine ⟨⟨hrc, hrs, hR.1, hR.2, pay_in ht hG, hc⟩, ht _ (hG _ hc).1, ok _ (by simp [wsV]), ⟨hd.1, hd.2.1⟩, fun sig h => ?_, ok _ (by simp [wsV]), ok _ (by simp [wsV]), ok _ (by simp [wsV])⟩
  have h2 := hd.2.2
  rw [h] at h2
  exact (Option.some.inj h2).symm
theorem vx_runVW {y : MethodName} {bytes cc : ByteArray} {maxL nL mc ms n index : Nat} {ret : Option FieldType} {hh : List (Nat × Nat × Nat × Nat)} {ws : List Cond} {rm : Room} {Pc : Array Value → State → Prop} {Qc : Array Value → State → Outcome → State → Prop} {free : Addr → Prop} {Ts : List Cond} {own C : String} {b : Addr} {As rest : List Value} {g : JFrame}
    (S : CallFix p m c cc nL s args Ts own) (hM : Met l y ws rm Pc Qc mc ms free) (cw : vx_CVW R s args own C index y bytes maxL ret hh ws rm mc ms n) (hp : PreV s H C b Pc As)
    (hg : g.method = m) (hn : As.length = n) (hsize : g.locals.size = nL) (hstack : g.stack = As.reverse ++ .ref b :: rest) (hW : 2 * g.monitorRoom + (rest.map fun v => v.category).sum ≤ 8) (hdg : decode cc g.pc = .ok (.invokevirtual index, 3)) (hf : cells + mc ≤ R.cells ∧ slots + ms ≤ R.slots) :
    va_Run p l e R s m args below meth c H locs cells slots mc ms g rest (Qc (Value.ref b :: As).toArray) free := by
  obtain ⟨⟨hrc, hrs, hfr, hlo, hws, hcw⟩, hcode, hini, hy, hlen, hl, hin, hse⟩ := cw
  have hK : Back l R p e below s args y 3 8 (PreOf R mc ms Pc) (PostOf Qc mc ms free) := va_backW (hh := hh) (bytes := bytes) (maxL := maxL) (ret := ret) hM hp.1 hrc hrs hfr hlo hws hcw (fun a' U hW => word_at hW (Or.inl (by first | rfl | simp [Cond.onTables, Cond.keeps, Cond.steady])) hini)
  obtain ⟨hx, hb, hml, ho, -⟩ := S
  obtain ⟨-, ⟨cellB, hcB, hoB, hclB⟩, hPc⟩ := hp
  intro T hT X
  obtain ⟨v, vm₁, ⟨U', l2, c2, s2⟩, hW₁, X', ⟨g', mk, t, L, e1, e2, hq, h1, hL, h2, h3⟩, st⟩ := vx_callVW X hx (C := C) (hh := hh) (bytes := bytes) (maxL := maxL) (ret := ret) ho hl hin hse hcode hy hK (by rw [hT]; exact hcB) hoB hclB hg (hsize.trans hml.symm) (argsL := As) (rest := rest) (fun sig h => hn.trans (hlen sig h)) hstack hW (by rw [hb]; exact hdg)
    (fun vm₁ hW₁ => ⟨hf.1, hf.2, hPc (T.setVm vm₁) hT hW₁⟩)
  dsimp only [Pt.U, Pt.locs, Pt.cells, Pt.slots] at X' e1 e2 h1 h2 h3 st
  subst h1; subst h2; subst h3
  exact ⟨v, (T.setVm vm₁).calling g' mk (Value.ref b :: As).toArray, t, U', L, hT, X', hL, e1, e2, hq, st⟩
section
variable {y : MethodName} {bytes cc : ByteArray} {maxL nL mc ms n index : Nat} {ret : Option FieldType} {ws : List Cond} {rm : Room} {Pc : Array Value → State → Prop} {Qc : Array Value → State → Outcome → State → Prop} {XC : String → State → State → Prop} {free : Addr → Prop} {Ts : List Cond} {own C : String} {b : Addr} {As rest : List Value} {g : JFrame}
theorem vx_runVX {hh : List (Nat × Nat × Nat × Nat)} (S : CallFix p m c cc nL s args Ts own) (hM : vx_Met l y ws rm Pc Qc XC mc ms free) (cw : vx_CVW R s args own C index y bytes maxL ret hh ws rm mc ms n) (hp : PreV s H C b Pc As)
    (hg : g.method = m) (hn : As.length = n) (hsize : g.locals.size = nL) (hstack : g.stack = As.reverse ++ .ref b :: rest) (hW : 2 * g.monitorRoom + (rest.map fun v => v.category).sum ≤ 8) (hdg : decode cc g.pc = .ok (.invokevirtual index, 3)) (hf : cells + mc ≤ R.cells ∧ slots + ms ≤ R.slots) :
    vx_Run p l e R s m args below meth c H locs cells slots mc ms g rest (Qc (Value.ref b :: As).toArray) XC free := by
  obtain ⟨⟨hrc, hrs, hfr, hlo, hws, hcw⟩, hcode, hini, hy, hlen, hl, hin, hse⟩ := cw
  have hK : vx_Back l R p e below s args y 3 8 (PreOf R mc ms Pc) (PostOf Qc mc ms free) (vx_Post XC mc ms free) := vx_backW (hh := hh) (bytes := bytes) (maxL := maxL) (ret := ret) hM hp.1 hrc hrs hfr hlo hws hcw (fun a' U hW => word_at hW (Or.inl (by first | rfl | simp [Cond.onTables, Cond.keeps, Cond.steady])) hini)
  obtain ⟨hx, hb, hml, ho, -⟩ := S
  obtain ⟨-, ⟨cellB, hcB, hoB, hclB⟩, hPc⟩ := hp
  intro T hT X
  rcases vx_callVX X hx (C := C) (hh := hh) (bytes := bytes) (maxL := maxL) (ret := ret) ho hl hin hse hcode hy hK (by rw [hT]; exact hcB) hoB hclB hg (hsize.trans hml.symm) (argsL := As) (rest := rest) (fun sig h => hn.trans (hlen sig h)) hstack hW (by rw [hb]; exact hdg)
    (fun vm₁ hW₁ => ⟨hf.1, hf.2, hPc (T.setVm vm₁) hT hW₁⟩) with ⟨v, vm₁, ⟨U', l2, c2, s2⟩, hW₁, X', ⟨g', mk, t, L, e1, e2, hq, h1, hL, h2, h3⟩, st⟩ | ⟨q, vm₁, ⟨U', l2, c2, s2⟩, hW₁, X', ⟨g', mk, t, L, E, ce, e1, e2, hq, hce, hcv, hcl, h1, hL, h2, h3⟩, st⟩
  · dsimp only [Pt.U, Pt.locs, Pt.cells, Pt.slots] at X' e1 e2 h1 h2 h3 st
    subst h1; subst h2; subst h3
    exact Or.inl ⟨v, (T.setVm vm₁).calling g' mk (Value.ref b :: As).toArray, t, U', L, hT, X', hL, e1, e2, hq, st⟩
  · dsimp only [Pt.U, Pt.locs, Pt.cells, Pt.slots] at X' e1 e2 h1 h2 h3 st hcl
    subst h1; subst h2; subst h3
    exact Or.inr ⟨q, (T.setVm vm₁).calling g' mk (Value.ref b :: As).toArray, t, U', L, E, ce, hT, X', hL, e1, e2, hq, hce, hcv, vx_cls hW₁ hcl, st⟩
theorem vx_runSX {hh : List (Nat × Nat × Nat × Nat)} (S : CallFix p m c cc nL s args Ts own) (hM : vx_Met l y ws rm Pc Qc XC mc ms free) (cw : vx_CSW R s args own index y bytes maxL ret hh ws rm mc ms n) (hp : PreS s H Pc As)
    (hg : g.method = m) (hn : As.length = n) (hsize : g.locals.size = nL) (hstack : g.stack = As.reverse ++ rest) (hW : 2 * g.monitorRoom + (rest.map fun v => v.category).sum ≤ 8) (hdg : decode cc g.pc = .ok (.invokestatic index, 3)) (hf : cells + mc ≤ R.cells ∧ slots + ms ≤ R.slots) :
    vx_Run p l e R s m args below meth c H locs cells slots mc ms g rest (Qc As.toArray) XC free := by
  obtain ⟨⟨hrc, hrs, hfr, hlo, hws, hcw⟩, hcode, hini, hy, hlen, hl, hstt⟩ := cw
  have hK : vx_Back l R p e below s args y 3 8 (PreOf R mc ms Pc) (PostOf Qc mc ms free) (vx_Post XC mc ms free) := vx_backW (hh := hh) (bytes := bytes) (maxL := maxL) (ret := ret) hM hp.1 hrc hrs hfr hlo hws hcw (fun a' U hW => word_at hW (Or.inl (by first | rfl | simp [Cond.onTables, Cond.keeps, Cond.steady])) hini)
  obtain ⟨hx, hb, hml, ho, -⟩ := S
  intro T hT X
  rcases vx_callSX X hx (hh := hh) (bytes := bytes) (maxL := maxL) (ret := ret) ho hl hstt hini hcode hy hK hg (hsize.trans hml.symm) (argsL := As) (rest := rest) (fun sig h => hn.trans (hlen sig h)) hstack hW (by rw [hb]; exact hdg)
    (fun vm₁ hW₁ => ⟨hf.1, hf.2, hp.2 (T.setVm vm₁) hT hW₁⟩) with ⟨v, vm₁, ⟨U', l2, c2, s2⟩, hW₁, X', ⟨g', mk, t, L, e1, e2, hq, h1, hL, h2, h3⟩, st⟩ | ⟨q, vm₁, ⟨U', l2, c2, s2⟩, hW₁, X', ⟨g', mk, t, L, E, ce, e1, e2, hq, hce, hcv, hcl, h1, hL, h2, h3⟩, st⟩
  · dsimp only [Pt.U, Pt.locs, Pt.cells, Pt.slots] at X' e1 e2 h1 h2 h3 st
    subst h1; subst h2; subst h3
    exact Or.inl ⟨v, (T.setVm vm₁).calling g' mk As.toArray, t, U', L, hT, X', hL, e1, e2, hq, st⟩
  · dsimp only [Pt.U, Pt.locs, Pt.cells, Pt.slots] at X' e1 e2 h1 h2 h3 st hcl
    subst h1; subst h2; subst h3
    exact Or.inr ⟨q, (T.setVm vm₁).calling g' mk As.toArray, t, U', L, E, ce, hT, X', hL, e1, e2, hq, hce, hcv, vx_cls hW₁ hcl, st⟩
end
end VXH
theorem vx_ofWH {l : Launch} {y : MethodName} {ws ws' : List Cond} {rm : Room} {Pc : Array Value → State → Prop} {Qc : Array Value → State → Outcome → State → Prop} {XC : String → State → State → Prop} {mc ms : Nat} {free : Addr → Prop} {cc : ByteArray} {maxL : Nat} {ret : Option FieldType} {hh : List (Nat × Nat × Nat × Nat)}
    (hy : plainName y.cls = true) (hw : ws = Cond.codeWith y cc maxL ret hh :: ws')
    (body : ∀ p e s m args below meth c s₁, BodyLoose p l y (headSpec ws rm) cc maxL ret e s m args below meth c s₁ → c.maxLocals = maxL → Pc args s →
      W p l e (headSpec ws rm).room s m args below meth c s.heap [] 0 0 (vx_MQ below Qc XC args s mc ms free) (entryFrame m args maxL)) : vx_Met l y ws rm Pc Qc XC mc ms free := by
  refine MetFree.of_bodyS (code := cc) (maxLocals := maxL) (ret := ret) hy ?_ ?_
  · intro args s m h hn
    obtain ⟨m9, meth, c, hn9, h1, h2, h3, h4, -, h5, h6, -⟩ := Cond.codeWith_spec (atoms_spec (ws := ws) h _ (by rw [hw]; exact List.mem_cons_self))
    cases hn.symm.trans hn9
    exact ⟨meth, c, h1, h2, h3, h4, h5, h6⟩
  · intro p e s m args below meth c s₁ B hml hP _
    have hh0 : s₁.heap = s.heap := by rw [B.state]; rfl
    obtain ⟨t, a1, o, b1, b2, b3⟩ := body p e s m args below meth c s₁ B hml hP s₁ hh0 (Stand.of_body B)
    exact ⟨t, o, a1, b1, b2, b3⟩
/-! ===== END ===== -/
end
section
def RX0 : String := "TingDecks$Bus"
def TX0 : u_T := fun k => match k with
  | 0 => ("TingDecks$Bus", "ride", "[I", true)
  | 1 => ("TingDecks$Bus", "from", "[I", true)
  | 2 => ("TingDecks$Bus", "to", "[I", true)
  | 3 => ("TingDecks$Bus", "seat", "[I", true)
  | 4 => ("TingDecks$Bus", "tenths", "[I", true)
  | 5 => ("TingDecks$Bus", "setting", "[I", true)
  | 6 => ("TingDecks$Bus", "ruleStart", "[I", true)
  | 7 => ("TingDecks$Bus", "ruleEnd", "[I", true)
  | 8 => ("TingDecks$Bus", "code", "[I", true)
  | 9 => ("TingDecks$Bus", "codeEnd", "I", false)
  | 10 => ("TingDecks$Bus", "stops", "I", false)
  | 11 => ("TingDecks$Bus", "riders", "I", false)
  | 12 => ("TingDecks$Bus", "picks", "I", false)
  | _ => ("TingDecks$Bus", "notes", "I", false)
def tyX0 : Nat → FieldType := fun k => match k with
  | 0 => .array .int
  | 1 => .array .int
  | 2 => .array .int
  | 3 => .array .int
  | 4 => .array .int
  | 5 => .array .int
  | 6 => .array .int
  | 7 => .array .int
  | 8 => .array .int
  | 9 => .int
  | 10 => .int
  | 11 => .int
  | 12 => .int
  | _ => .int
abbrev wsX00 : List Cond := u_ws RX0 TX0 14
theorem nmX0 : ∀ a, a < 14 → ∀ b, b < 14 → a ≠ b → (TX0 a).2.1 ≠ (TX0 b).2.1 := by decide +kernel
theorem tyX0_ok : ∀ k, k < 14 → parseFieldDescriptor (TX0 k).2.2.1 = some (tyX0 k) := by decide +kernel
abbrev cX0_init : ByteArray := prog_2_method_1_code
def yX0_init : MethodName := ⟨RX0, "<init>", "()V"⟩
abbrev cX0_makeEmpty : ByteArray := prog_2_method_2_code
def yX0_makeEmpty : MethodName := ⟨RX0, "makeEmpty", "()V"⟩
abbrev cX0_hasFareRule : ByteArray := prog_2_method_3_code
def yX0_hasFareRule : MethodName := ⟨RX0, "hasFareRule", "()Z"⟩
abbrev cX0_everybody : ByteArray := prog_2_method_4_code
def yX0_everybody : MethodName := ⟨RX0, "everybody", "()I"⟩
abbrev cX0_hopsOf : ByteArray := prog_2_method_5_code
def yX0_hopsOf : MethodName := ⟨RX0, "hopsOf", "(I)I"⟩
abbrev cX0_takeOf : ByteArray := prog_2_method_6_code
def yX0_takeOf : MethodName := ⟨RX0, "takeOf", "(II)I"⟩
abbrev cX0_rideTogether : ByteArray := prog_2_method_7_code
def yX0_rideTogether : MethodName := ⟨RX0, "rideTogether", "(II)Z"⟩
abbrev cX0_ridersThere : ByteArray := prog_2_method_8_code
def yX0_ridersThere : MethodName := ⟨RX0, "ridersThere", "(I)I"⟩
abbrev cX0_ridersFrom : ByteArray := prog_2_method_9_code
def yX0_ridersFrom : MethodName := ⟨RX0, "ridersFrom", "(I)I"⟩
abbrev cX0_secondsBetween : ByteArray := prog_2_method_10_code
def yX0_secondsBetween : MethodName := ⟨RX0, "secondsBetween", "(II)I"⟩
def RX1 : String := "TingDecks$Chances"
def TX1 : u_T := fun k => match k with
  | 0 => ("TingDecks$Chances", "pays", "[J", true)
  | 1 => ("TingDecks$Chances", "chancy", "[I", true)
  | 2 => ("TingDecks$Chances", "found", "I", false)
  | 3 => ("TingDecks$Chances", "surely", "I", false)
  | 4 => ("TingDecks$Chances", "takenByWeight", "J", false)
  | _ => ("TingDecks$Chances", "whole", "J", false)
def tyX1 : Nat → FieldType := fun k => match k with
  | 0 => .array .long
  | 1 => .array .int
  | 2 => .int
  | 3 => .int
  | 4 => .long
  | _ => .long
abbrev wsX10 : List Cond := u_ws RX1 TX1 6
theorem nmX1 : ∀ a, a < 6 → ∀ b, b < 6 → a ≠ b → (TX1 a).2.1 ≠ (TX1 b).2.1 := by decide +kernel
theorem tyX1_ok : ∀ k, k < 6 → parseFieldDescriptor (TX1 k).2.2.1 = some (tyX1 k) := by decide +kernel
abbrev cX1_init : ByteArray := prog_3_method_1_code
def yX1_init : MethodName := ⟨RX1, "<init>", "()V"⟩
abbrev cX1_begin : ByteArray := prog_3_method_2_code
def yX1_begin : MethodName := ⟨RX1, "begin", "(LTingDecks$Bus;)V"⟩
abbrev cX1_letCome : ByteArray := prog_3_method_3_code
def yX1_letCome : MethodName := ⟨RX1, "letCome", "(LTingDecks$Trip;I)J"⟩
abbrev cX1_addTrip : ByteArray := prog_3_method_4_code
def yX1_addTrip : MethodName := ⟨RX1, "addTrip", "(LTingDecks$Trip;J)V"⟩
abbrev cX1_partOf : ByteArray := prog_3_method_5_code
def yX1_partOf : MethodName := ⟨RX1, "partOf", "(JI)J"⟩
def RX2 : String := "TingDecks$Orders"
def TX2 : u_T := fun k => match k with
  | 0 => ("TingDecks$Orders", "soonestByLast", "[I", false)
  | 1 => ("TingDecks$Orders", "riders", "I", false)
  | 2 => ("TingDecks$Orders", "mostFares", "I", false)
  | _ => ("TingDecks$Orders", "mostSet", "I", false)
def tyX2 : Nat → FieldType := fun k => match k with
  | 0 => .array .int
  | 1 => .int
  | 2 => .int
  | _ => .int
abbrev wsX20 : List Cond := u_ws RX2 TX2 4
theorem nmX2 : ∀ a, a < 4 → ∀ b, b < 4 → a ≠ b → (TX2 a).2.1 ≠ (TX2 b).2.1 := by decide +kernel
theorem tyX2_ok : ∀ k, k < 4 → parseFieldDescriptor (TX2 k).2.2.1 = some (tyX2 k) := by decide +kernel
abbrev cX2_init : ByteArray := prog_4_method_1_code
def yX2_init : MethodName := ⟨RX2, "<init>", "()V"⟩
abbrev cX2_reckon : ByteArray := prog_4_method_2_code
def yX2_reckon : MethodName := ⟨RX2, "reckon", "(LTingDecks$Trip;)V"⟩
abbrev cX2_goOnFrom : ByteArray := prog_4_method_3_code
def yX2_goOnFrom : MethodName := ⟨RX2, "goOnFrom", "(LTingDecks$Trip;III)V"⟩
abbrev cX2_findMost : ByteArray := prog_4_method_4_code
def yX2_findMost : MethodName := ⟨RX2, "findMost", "(LTingDecks$Trip;I)V"⟩
abbrev cX2_soonestOf : ByteArray := prog_4_method_5_code
def yX2_soonestOf : MethodName := ⟨RX2, "soonestOf", "(I)I"⟩
def RX3 : String := "TingDecks$Parser"
def TX3 : u_T := fun k => match k with
  | 0 => ("TingDecks$Parser", "token", "LTingDecks$Tokens;", true)
  | 1 => ("TingDecks$Parser", "bus", "LTingDecks$Bus;", false)
  | 2 => ("TingDecks$Parser", "met", "I", false)
  | 3 => ("TingDecks$Parser", "values", "I", false)
  | 4 => ("TingDecks$Parser", "fault", "I", false)
  | _ => ("TingDecks$Parser", "faultPlace", "I", false)
def tyX3 : Nat → FieldType := fun k => match k with
  | 0 => .object "TingDecks$Tokens"
  | 1 => .object "TingDecks$Bus"
  | 2 => .int
  | 3 => .int
  | 4 => .int
  | _ => .int
abbrev wsX30 : List Cond := u_ws RX3 TX3 6
theorem nmX3 : ∀ a, a < 6 → ∀ b, b < 6 → a ≠ b → (TX3 a).2.1 ≠ (TX3 b).2.1 := by decide +kernel
theorem tyX3_ok : ∀ k, k < 6 → parseFieldDescriptor (TX3 k).2.2.1 = some (tyX3 k) := by decide +kernel
abbrev cX3_init : ByteArray := prog_5_method_1_code
def yX3_init : MethodName := ⟨RX3, "<init>", "([BLTingDecks$Bus;)V"⟩
abbrev cX3_readBus : ByteArray := prog_5_method_2_code
def yX3_readBus : MethodName := ⟨RX3, "readBus", "(ILTingDecks$Bus;)I"⟩
abbrev cX3_refuse : ByteArray := prog_5_method_3_code
def yX3_refuse : MethodName := ⟨RX3, "refuse", "(I)Z"⟩
abbrev cX3_readLine : ByteArray := prog_5_method_4_code
def yX3_readLine : MethodName := ⟨RX3, "readLine", "()Z"⟩
abbrev cX3_settingNamed : ByteArray := prog_5_method_5_code
def yX3_settingNamed : MethodName := ⟨RX3, "settingNamed", "()I"⟩
abbrev cX3_isNumber : ByteArray := prog_5_method_6_code
def yX3_isNumber : MethodName := ⟨RX3, "isNumber", "(II)Z"⟩
abbrev cX3_passSign : ByteArray := prog_5_method_7_code
def yX3_passSign : MethodName := ⟨RX3, "passSign", "(I)Z"⟩
abbrev cX3_passOnce : ByteArray := prog_5_method_8_code
def yX3_passOnce : MethodName := ⟨RX3, "passOnce", "(I)Z"⟩
abbrev cX3_readSetting : ByteArray := prog_5_method_9_code
def yX3_readSetting : MethodName := ⟨RX3, "readSetting", "(I)Z"⟩
abbrev cX3_readRides : ByteArray := prog_5_method_10_code
def yX3_readRides : MethodName := ⟨RX3, "readRides", "()Z"⟩
abbrev cX3_readRider : ByteArray := prog_5_method_11_code
def yX3_readRider : MethodName := ⟨RX3, "readRider", "()Z"⟩
abbrev cX3_readPlace : ByteArray := prog_5_method_12_code
def yX3_readPlace : MethodName := ⟨RX3, "readPlace", "(I)Z"⟩
abbrev cX3_readNoteAndTenths : ByteArray := prog_5_method_13_code
def yX3_readNoteAndTenths : MethodName := ⟨RX3, "readNoteAndTenths", "(I)Z"⟩
abbrev cX3_passPicks : ByteArray := prog_5_method_14_code
def yX3_passPicks : MethodName := ⟨RX3, "passPicks", "()Z"⟩
abbrev cX3_readRule : ByteArray := prog_5_method_15_code
def yX3_readRule : MethodName := ⟨RX3, "readRule", "(II)Z"⟩
abbrev cX3_putCode : ByteArray := prog_5_method_16_code
def yX3_putCode : MethodName := ⟨RX3, "putCode", "(I)V"⟩
abbrev cX3_readExpr : ByteArray := prog_5_method_17_code
def yX3_readExpr : MethodName := ⟨RX3, "readExpr", "(I)Z"⟩
abbrev cX3_canBeginExpr : ByteArray := prog_5_method_18_code
def yX3_canBeginExpr : MethodName := ⟨RX3, "canBeginExpr", "()Z"⟩
abbrev cX3_readAnd : ByteArray := prog_5_method_19_code
def yX3_readAnd : MethodName := ⟨RX3, "readAnd", "(I)Z"⟩
abbrev cX3_readNot : ByteArray := prog_5_method_20_code
def yX3_readNot : MethodName := ⟨RX3, "readNot", "(I)Z"⟩
abbrev cX3_readTest : ByteArray := prog_5_method_21_code
def yX3_readTest : MethodName := ⟨RX3, "readTest", "(I)Z"⟩
abbrev cX3_readSum : ByteArray := prog_5_method_22_code
def yX3_readSum : MethodName := ⟨RX3, "readSum", "(I)Z"⟩
abbrev cX3_readProduct : ByteArray := prog_5_method_23_code
def yX3_readProduct : MethodName := ⟨RX3, "readProduct", "(I)Z"⟩
abbrev cX3_readPart : ByteArray := prog_5_method_24_code
def yX3_readPart : MethodName := ⟨RX3, "readPart", "(I)Z"⟩
abbrev cX3_valueNamed : ByteArray := prog_5_method_25_code
def yX3_valueNamed : MethodName := ⟨RX3, "valueNamed", "()I"⟩
def RX4 : String := "TingDecks$Reckoner"
def TX4 : u_T := fun k => match k with
  | 0 => ("TingDecks$Reckoner", "stack", "[I", true)
  | _ => ("TingDecks$Reckoner", "value", "[I", true)
def tyX4 : Nat → FieldType := fun k => match k with
  | 0 => .array .int
  | _ => .array .int
abbrev wsX40 : List Cond := u_ws RX4 TX4 2
theorem nmX4 : ∀ a, a < 2 → ∀ b, b < 2 → a ≠ b → (TX4 a).2.1 ≠ (TX4 b).2.1 := by decide +kernel
theorem tyX4_ok : ∀ k, k < 2 → parseFieldDescriptor (TX4 k).2.2.1 = some (tyX4 k) := by decide +kernel
abbrev cX4_init : ByteArray := prog_6_method_1_code
def yX4_init : MethodName := ⟨RX4, "<init>", "()V"⟩
abbrev cX4_putRider : ByteArray := prog_6_method_2_code
def yX4_putRider : MethodName := ⟨RX4, "putRider", "(LTingDecks$Bus;II)V"⟩
abbrev cX4_putMoment : ByteArray := prog_6_method_3_code
def yX4_putMoment : MethodName := ⟨RX4, "putMoment", "(IIII)V"⟩
abbrev cX4_reckonRule : ByteArray := prog_6_method_4_code
def yX4_reckonRule : MethodName := ⟨RX4, "reckonRule", "(LTingDecks$Bus;I)I"⟩
abbrev cX4_join : ByteArray := prog_6_method_5_code
def yX4_join : MethodName := ⟨RX4, "join", "(III)I"⟩
def RX5 : String := "TingDecks$State"
def TX5 : u_T := fun k => match k with
  | 0 => ("TingDecks$State", "hold", "[I", true)
  | 1 => ("TingDecks$State", "seat", "[I", true)
  | 2 => ("TingDecks$State", "actKind", "[I", true)
  | 3 => ("TingDecks$State", "actOn", "[I", true)
  | 4 => ("TingDecks$State", "actOld", "[I", true)
  | 5 => ("TingDecks$State", "countedThere", "[I", true)
  | 6 => ("TingDecks$State", "countedDeck", "[I", true)
  | 7 => ("TingDecks$State", "countedHeads", "[I", true)
  | 8 => ("TingDecks$State", "rule", "I", false)
  | 9 => ("TingDecks$State", "acts", "I", false)
  | _ => ("TingDecks$State", "counted", "I", false)
def tyX5 : Nat → FieldType := fun k => match k with
  | 0 => .array .int
  | 1 => .array .int
  | 2 => .array .int
  | 3 => .array .int
  | 4 => .array .int
  | 5 => .array .int
  | 6 => .array .int
  | 7 => .array .int
  | 8 => .int
  | 9 => .int
  | _ => .int
abbrev wsX50 : List Cond := u_ws RX5 TX5 11
theorem nmX5 : ∀ a, a < 11 → ∀ b, b < 11 → a ≠ b → (TX5 a).2.1 ≠ (TX5 b).2.1 := by decide +kernel
theorem tyX5_ok : ∀ k, k < 11 → parseFieldDescriptor (TX5 k).2.2.1 = some (tyX5 k) := by decide +kernel
abbrev cX5_init : ByteArray := prog_7_method_1_code
def yX5_init : MethodName := ⟨RX5, "<init>", "()V"⟩
abbrev cX5_startOn : ByteArray := prog_7_method_2_code
def yX5_startOn : MethodName := ⟨RX5, "startOn", "(LTingDecks$Bus;)V"⟩
abbrev cX5_copyFrom : ByteArray := prog_7_method_3_code
def yX5_copyFrom : MethodName := ⟨RX5, "copyFrom", "(LTingDecks$State;)V"⟩
abbrev cX5_allHolds : ByteArray := prog_7_method_4_code
def yX5_allHolds : MethodName := ⟨RX5, "allHolds", "()I"⟩
abbrev cX5_keepAct : ByteArray := prog_7_method_5_code
def yX5_keepAct : MethodName := ⟨RX5, "keepAct", "(III)V"⟩
abbrev cX5_undoLast : ByteArray := prog_7_method_6_code
def yX5_undoLast : MethodName := ⟨RX5, "undoLast", "()V"⟩
abbrev cX5_keepCounted : ByteArray := prog_7_method_7_code
def yX5_keepCounted : MethodName := ⟨RX5, "keepCounted", "(III)V"⟩
def RX6 : String := "TingDecks$Tokens"
def TX6 : u_T := fun k => match k with
  | 0 => ("TingDecks$Tokens", "text", "[B", true)
  | 1 => ("TingDecks$Tokens", "length", "I", false)
  | 2 => ("TingDecks$Tokens", "start", "I", false)
  | 3 => ("TingDecks$Tokens", "end", "I", false)
  | 4 => ("TingDecks$Tokens", "kind", "I", false)
  | _ => ("TingDecks$Tokens", "number", "I", false)
def tyX6 : Nat → FieldType := fun k => match k with
  | 0 => .array .byte
  | 1 => .int
  | 2 => .int
  | 3 => .int
  | 4 => .int
  | _ => .int
abbrev wsX60 : List Cond := u_ws RX6 TX6 6
theorem nmX6 : ∀ a, a < 6 → ∀ b, b < 6 → a ≠ b → (TX6 a).2.1 ≠ (TX6 b).2.1 := by decide +kernel
theorem tyX6_ok : ∀ k, k < 6 → parseFieldDescriptor (TX6 k).2.2.1 = some (tyX6 k) := by decide +kernel
abbrev cX6_init : ByteArray := prog_8_method_1_code
def yX6_init : MethodName := ⟨RX6, "<init>", "([B)V"⟩
abbrev cX6_begin : ByteArray := prog_8_method_2_code
def yX6_begin : MethodName := ⟨RX6, "begin", "(I)V"⟩
abbrev cX6_goOn : ByteArray := prog_8_method_3_code
def yX6_goOn : MethodName := ⟨RX6, "goOn", "()V"⟩
abbrev cX6_rowEnd : ByteArray := prog_8_method_4_code
def yX6_rowEnd : MethodName := ⟨RX6, "rowEnd", "(II)I"⟩
abbrev cX6_numberRead : ByteArray := prog_8_method_5_code
def yX6_numberRead : MethodName := ⟨RX6, "numberRead", "()I"⟩
abbrev cX6_isThe : ByteArray := prog_8_method_6_code
def yX6_isThe : MethodName := ⟨RX6, "isThe", "(Ljava/lang/String;)Z"⟩
abbrev cX6_isSign : ByteArray := prog_8_method_7_code
def yX6_isSign : MethodName := ⟨RX6, "isSign", "(I)Z"⟩
def RX7 : String := "TingDecks$Trip"
def TX7 : u_T := fun k => match k with
  | 0 => ("TingDecks$Trip", "reckoner", "LTingDecks$Reckoner;", true)
  | 1 => ("TingDecks$Trip", "at", "[I", true)
  | 2 => ("TingDecks$Trip", "seat", "[I", true)
  | 3 => ("TingDecks$Trip", "fare", "[I", true)
  | 4 => ("TingDecks$Trip", "bus", "LTingDecks$Bus;", false)
  | 5 => ("TingDecks$Trip", "take", "I", false)
  | 6 => ("TingDecks$Trip", "rule", "I", false)
  | 7 => ("TingDecks$Trip", "comers", "I", false)
  | 8 => ("TingDecks$Trip", "start", "I", false)
  | 9 => ("TingDecks$Trip", "paidAt", "[I", true)
  | 10 => ("TingDecks$Trip", "askedAs", "[I", true)
  | 11 => ("TingDecks$Trip", "order", "[I", true)
  | 12 => ("TingDecks$Trip", "pickedAt", "[I", true)
  | 13 => ("TingDecks$Trip", "asks", "I", false)
  | 14 => ("TingDecks$Trip", "asked", "I", false)
  | 15 => ("TingDecks$Trip", "payers", "I", false)
  | 16 => ("TingDecks$Trip", "taken", "I", false)
  | 17 => ("TingDecks$Trip", "stairs", "I", false)
  | 18 => ("TingDecks$Trip", "waits", "I", false)
  | 19 => ("TingDecks$Trip", "goes", "I", false)
  | _ => ("TingDecks$Trip", "takes", "I", false)
def tyX7 : Nat → FieldType := fun k => match k with
  | 0 => .object "TingDecks$Reckoner"
  | 1 => .array .int
  | 2 => .array .int
  | 3 => .array .int
  | 4 => .object "TingDecks$Bus"
  | 5 => .int
  | 6 => .int
  | 7 => .int
  | 8 => .int
  | 9 => .array .int
  | 10 => .array .int
  | 11 => .array .int
  | 12 => .array .int
  | 13 => .int
  | 14 => .int
  | 15 => .int
  | 16 => .int
  | 17 => .int
  | 18 => .int
  | 19 => .int
  | _ => .int
abbrev wsX70 : List Cond := u_ws RX7 TX7 21
theorem nmX7 : ∀ a, a < 21 → ∀ b, b < 21 → a ≠ b → (TX7 a).2.1 ≠ (TX7 b).2.1 := by decide +kernel
theorem tyX7_ok : ∀ k, k < 21 → parseFieldDescriptor (TX7 k).2.2.1 = some (tyX7 k) := by decide +kernel
abbrev cX7_init : ByteArray := prog_9_method_1_code
def yX7_init : MethodName := ⟨RX7, "<init>", "(LTingDecks$Bus;)V"⟩
abbrev cX7_prepare : ByteArray := prog_9_method_2_code
def yX7_prepare : MethodName := ⟨RX7, "prepare", "(LTingDecks$Bus;LTingDecks$State;)V"⟩
abbrev cX7_moveRider : ByteArray := prog_9_method_3_code
def yX7_moveRider : MethodName := ⟨RX7, "moveRider", "(II)V"⟩
abbrev cX7_fareOfAll : ByteArray := prog_9_method_4_code
def yX7_fareOfAll : MethodName := ⟨RX7, "fareOfAll", "(I)V"⟩
abbrev cX7_moveBehind : ByteArray := prog_9_method_5_code
def yX7_moveBehind : MethodName := ⟨RX7, "moveBehind", "(II)V"⟩
abbrev cX7_drawComers : ByteArray := prog_9_method_6_code
def yX7_drawComers : MethodName := ⟨RX7, "drawComers", "(I)I"⟩
abbrev cX7_travel : ByteArray := prog_9_method_7_code
def yX7_travel : MethodName := ⟨RX7, "travel", "()V"⟩
abbrev cX7_forgetAll : ByteArray := prog_9_method_8_code
def yX7_forgetAll : MethodName := ⟨RX7, "forgetAll", "()V"⟩
abbrev cX7_pickRider : ByteArray := prog_9_method_9_code
def yX7_pickRider : MethodName := ⟨RX7, "pickRider", "(II)I"⟩
abbrev cX7_urgeOf : ByteArray := prog_9_method_10_code
def yX7_urgeOf : MethodName := ⟨RX7, "urgeOf", "(III)I"⟩
abbrev cX7_askRider : ByteArray := prog_9_method_11_code
def yX7_askRider : MethodName := ⟨RX7, "askRider", "(III)I"⟩
abbrev cX7_placeIn : ByteArray := prog_9_method_12_code
def yX7_placeIn : MethodName := ⟨RX7, "placeIn", "(I)I"⟩
abbrev cX7_stopIn : ByteArray := prog_9_method_13_code
def yX7_stopIn : MethodName := ⟨RX7, "stopIn", "(I)I"⟩
abbrev cX7_payerAt : ByteArray := prog_9_method_14_code
def yX7_payerAt : MethodName := ⟨RX7, "payerAt", "(I)I"⟩
abbrev cX7_lastPaidAt : ByteArray := prog_9_method_15_code
def yX7_lastPaidAt : MethodName := ⟨RX7, "lastPaidAt", "()I"⟩
abbrev cX7_ridersAbove : ByteArray := prog_9_method_16_code
def yX7_ridersAbove : MethodName := ⟨RX7, "ridersAbove", "()I"⟩
abbrev cX7_faresOf : ByteArray := prog_9_method_17_code
def yX7_faresOf : MethodName := ⟨RX7, "faresOf", "(I)I"⟩
def RX8 : String := "TingDecks"
def TX8 : u_T := fun k => match k with
  | 0 => ("TingDecks", "tape", "[B", true)
  | 1 => ("TingDecks", "status", "[I", true)
  | 2 => ("TingDecks", "here", "LTingDecks$Bus;", false)
  | 3 => ("TingDecks", "draft", "LTingDecks$Bus;", false)
  | 4 => ("TingDecks", "state", "LTingDecks$State;", true)
  | 5 => ("TingDecks", "kept", "LTingDecks$State;", true)
  | 6 => ("TingDecks", "parser", "LTingDecks$Parser;", true)
  | 7 => ("TingDecks", "now", "LTingDecks$Trip;", true)
  | 8 => ("TingDecks", "other", "LTingDecks$Trip;", true)
  | 9 => ("TingDecks", "orders", "LTingDecks$Orders;", true)
  | 10 => ("TingDecks", "chances", "LTingDecks$Chances;", true)
  | 11 => ("TingDecks", "tapeEnd", "I", false)
  | 12 => ("TingDecks", "faultPlace", "I", false)
  | 13 => ("TingDecks", "hasImage", "Z", false)
  | 14 => ("TingDecks", "nowStands", "Z", false)
  | 15 => ("TingDecks", "ordersStand", "Z", false)
  | _ => ("TingDecks", "chancesStand", "Z", false)
def tyX8 : Nat → FieldType := fun k => match k with
  | 0 => .array .byte
  | 1 => .array .int
  | 2 => .object "TingDecks$Bus"
  | 3 => .object "TingDecks$Bus"
  | 4 => .object "TingDecks$State"
  | 5 => .object "TingDecks$State"
  | 6 => .object "TingDecks$Parser"
  | 7 => .object "TingDecks$Trip"
  | 8 => .object "TingDecks$Trip"
  | 9 => .object "TingDecks$Orders"
  | 10 => .object "TingDecks$Chances"
  | 11 => .int
  | 12 => .int
  | 13 => .boolean
  | 14 => .boolean
  | 15 => .boolean
  | _ => .boolean
abbrev wsX80 : List Cond := u_ws RX8 TX8 17
theorem nmX8 : ∀ a, a < 17 → ∀ b, b < 17 → a ≠ b → (TX8 a).2.1 ≠ (TX8 b).2.1 := by decide +kernel
theorem tyX8_ok : ∀ k, k < 17 → parseFieldDescriptor (TX8 k).2.2.1 = some (tyX8 k) := by decide +kernel
abbrev cX8_init : ByteArray := prog_1_method_1_code
def yX8_init : MethodName := ⟨RX8, "<init>", "()V"⟩
abbrev cX8_feed : ByteArray := prog_1_method_2_code
def yX8_feed : MethodName := ⟨RX8, "feed", "(IIIII)I"⟩
abbrev cX8_bus : ByteArray := prog_1_method_3_code
def yX8_bus : MethodName := ⟨RX8, "bus", "(I)I"⟩
abbrev cX8_fault : ByteArray := prog_1_method_4_code
def yX8_fault : MethodName := ⟨RX8, "fault", "()I"⟩
abbrev cX8_count : ByteArray := prog_1_method_5_code
def yX8_count : MethodName := ⟨RX8, "count", "(I)I"⟩
abbrev cX8_stop : ByteArray := prog_1_method_6_code
def yX8_stop : MethodName := ⟨RX8, "stop", "(II)I"⟩
abbrev cX8_rider : ByteArray := prog_1_method_7_code
def yX8_rider : MethodName := ⟨RX8, "rider", "(II)I"⟩
abbrev cX8_paid : ByteArray := prog_1_method_8_code
def yX8_paid : MethodName := ⟨RX8, "paid", "(II)I"⟩
abbrev cX8_way : ByteArray := prog_1_method_9_code
def yX8_way : MethodName := ⟨RX8, "way", "(II)I"⟩
abbrev cX8_where : ByteArray := prog_1_method_10_code
def yX8_where : MethodName := ⟨RX8, "where", "(I)I"⟩
abbrev cX8_hold : ByteArray := prog_1_method_11_code
def yX8_hold : MethodName := ⟨RX8, "hold", "(II)I"⟩
abbrev cX8_sit : ByteArray := prog_1_method_12_code
def yX8_sit : MethodName := ⟨RX8, "sit", "(III)I"⟩
abbrev cX8_obey : ByteArray := prog_1_method_13_code
def yX8_obey : MethodName := ⟨RX8, "obey", "(I)Z"⟩
abbrev cX8_undo : ByteArray := prog_1_method_14_code
def yX8_undo : MethodName := ⟨RX8, "undo", "()I"⟩
abbrev cX8_most : ByteArray := prog_1_method_15_code
def yX8_most : MethodName := ⟨RX8, "most", "(I)I"⟩
abbrev cX8_compare : ByteArray := prog_1_method_16_code
def yX8_compare : MethodName := ⟨RX8, "compare", "(I)I"⟩
abbrev cX8_best : ByteArray := prog_1_method_17_code
def yX8_best : MethodName := ⟨RX8, "best", "()I"⟩
abbrev cX8_bell : ByteArray := prog_1_method_18_code
def yX8_bell : MethodName := ⟨RX8, "bell", "(II)I"⟩
abbrev cX8_door : ByteArray := prog_1_method_19_code
def yX8_door : MethodName := ⟨RX8, "door", "(I)I"⟩
abbrev cX8_two : ByteArray := prog_1_method_20_code
def yX8_two : MethodName := ⟨RX8, "two", "(I)I"⟩
abbrev cX8_flat : ByteArray := prog_1_method_21_code
def yX8_flat : MethodName := ⟨RX8, "flat", "()I"⟩
abbrev cX8_hops : ByteArray := prog_1_method_22_code
def yX8_hops : MethodName := ⟨RX8, "hops", "(I)I"⟩
abbrev cX8_again : ByteArray := prog_1_method_23_code
def yX8_again : MethodName := ⟨RX8, "again", "(I)I"⟩
abbrev cX8_head : ByteArray := prog_1_method_24_code
def yX8_head : MethodName := ⟨RX8, "head", "(III)I"⟩
abbrev cX8_forget : ByteArray := prog_1_method_25_code
def yX8_forget : MethodName := ⟨RX8, "forget", "()V"⟩
abbrev cX8_fits : ByteArray := prog_1_method_26_code
def yX8_fits : MethodName := ⟨RX8, "fits", "(I)I"⟩
abbrev cX8_game : ByteArray := prog_1_method_27_code
def yX8_game : MethodName := ⟨RX8, "game", "(III)I"⟩
abbrev cX8_week : ByteArray := prog_1_method_28_code
def yX8_week : MethodName := ⟨RX8, "week", "(III)I"⟩
abbrev cX8_walk : ByteArray := prog_1_method_29_code
def yX8_walk : MethodName := ⟨RX8, "walk", "(I)I"⟩
abbrev cX8_ting : ByteArray := prog_1_method_30_code
def yX8_ting : MethodName := ⟨RX8, "ting", "(I)I"⟩
abbrev cX8_soonest : ByteArray := prog_1_method_31_code
def yX8_soonest : MethodName := ⟨RX8, "soonest", "(I)I"⟩
abbrev cX8_dodge : ByteArray := prog_1_method_32_code
def yX8_dodge : MethodName := ⟨RX8, "dodge", "(II)I"⟩
abbrev cX8_worth : ByteArray := prog_1_method_33_code
def yX8_worth : MethodName := ⟨RX8, "worth", "(I)I"⟩
abbrev cX8_pace : ByteArray := prog_1_method_34_code
def yX8_pace : MethodName := ⟨RX8, "pace", "()I"⟩
abbrev cX8_likely : ByteArray := prog_1_method_35_code
def yX8_likely : MethodName := ⟨RX8, "likely", "(II)J"⟩
abbrev cX8_mean : ByteArray := prog_1_method_36_code
def yX8_mean : MethodName := ⟨RX8, "mean", "(I)J"⟩
abbrev cX8_image : ByteArray := prog_1_method_37_code
def yX8_image : MethodName := ⟨RX8, "image", "()V"⟩
abbrev cX8_restore : ByteArray := prog_1_method_38_code
def yX8_restore : MethodName := ⟨RX8, "restore", "()Z"⟩
abbrev cX8_putNumber : ByteArray := prog_1_method_39_code
def yX8_putNumber : MethodName := ⟨RX8, "putNumber", "(I)V"⟩
abbrev cX8_checkStop : ByteArray := prog_1_method_40_code
def yX8_checkStop : MethodName := ⟨RX8, "checkStop", "(I)V"⟩
abbrev cX8_checkRider : ByteArray := prog_1_method_41_code
def yX8_checkRider : MethodName := ⟨RX8, "checkRider", "(I)V"⟩
abbrev cX8_checkWhat : ByteArray := prog_1_method_42_code
def yX8_checkWhat : MethodName := ⟨RX8, "checkWhat", "(II)V"⟩
abbrev cX8_isRuleOrNone : ByteArray := prog_1_method_43_code
def yX8_isRuleOrNone : MethodName := ⟨RX8, "isRuleOrNone", "(I)Z"⟩
abbrev cX8_stateChanged : ByteArray := prog_1_method_44_code
def yX8_stateChanged : MethodName := ⟨RX8, "stateChanged", "()V"⟩
abbrev cX8_walked : ByteArray := prog_1_method_45_code
def yX8_walked : MethodName := ⟨RX8, "walked", "()LTingDecks$Trip;"⟩
abbrev cX8_ordered : ByteArray := prog_1_method_46_code
def yX8_ordered : MethodName := ⟨RX8, "ordered", "(LTingDecks$Trip;)LTingDecks$Orders;"⟩
abbrev cX8_reckonedChances : ByteArray := prog_1_method_47_code
def yX8_reckonedChances : MethodName := ⟨RX8, "reckonedChances", "()LTingDecks$Chances;"⟩
abbrev cX8_netOf : ByteArray := prog_1_method_48_code
def yX8_netOf : MethodName := ⟨RX8, "netOf", "(II)I"⟩
abbrev cX8_netByRule : ByteArray := prog_1_method_49_code
def yX8_netByRule : MethodName := ⟨RX8, "netByRule", "(I)I"⟩
abbrev cX8_doorLine : ByteArray := prog_1_method_50_code
def yX8_doorLine : MethodName := ⟨RX8, "doorLine", "(III)I"⟩
abbrev cX8_isFree : ByteArray := prog_1_method_51_code
def yX8_isFree : MethodName := ⟨RX8, "isFree", "(II)Z"⟩
abbrev cX8_isAsCounted : ByteArray := prog_1_method_52_code
def yX8_isAsCounted : MethodName := ⟨RX8, "isAsCounted", "(I)Z"⟩
abbrev cX8_restsCouple : ByteArray := prog_1_method_53_code
def yX8_restsCouple : MethodName := ⟨RX8, "restsCouple", "(IIIII)Z"⟩
def RX9 : String := "TingDecksModel"
def TX9 : u_T := fun k => match k with
  | 0 => ("TingDecksModel", "thrown", "I", false)
  | 1 => ("TingDecksModel", "stops", "I", false)
  | 2 => ("TingDecksModel", "riders", "I", false)
  | 3 => ("TingDecksModel", "rules", "I", false)
  | 4 => ("TingDecksModel", "step", "I", false)
  | 5 => ("TingDecksModel", "stair", "I", false)
  | 6 => ("TingDecksModel", "take", "I", false)
  | 7 => ("TingDecksModel", "late", "I", false)
  | 8 => ("TingDecksModel", "fade", "I", false)
  | 9 => ("TingDecksModel", "fareAt", "I", false)
  | 10 => ("TingDecksModel", "from", "[I", true)
  | 11 => ("TingDecksModel", "to", "[I", true)
  | 12 => ("TingDecksModel", "note", "[I", true)
  | 13 => ("TingDecksModel", "tenths", "[I", true)
  | 14 => ("TingDecksModel", "ride", "[I", true)
  | 15 => ("TingDecksModel", "ruleAt", "[I", true)
  | 16 => ("TingDecksModel", "code", "[I", true)
  | 17 => ("TingDecksModel", "tape", "[I", true)
  | 18 => ("TingDecksModel", "taped", "I", false)
  | 19 => ("TingDecksModel", "faultKind", "I", false)
  | 20 => ("TingDecksModel", "faultPlace", "I", false)
  | 21 => ("TingDecksModel", "refused", "[I", true)
  | 22 => ("TingDecksModel", "long1", "I", false)
  | 23 => ("TingDecksModel", "next", "I", false)
  | 24 => ("TingDecksModel", "sort", "I", false)
  | 25 => ("TingDecksModel", "place", "I", false)
  | 26 => ("TingDecksModel", "long0", "I", false)
  | 27 => ("TingDecksModel", "value", "I", false)
  | 28 => ("TingDecksModel", "sign", "I", false)
  | 29 => ("TingDecksModel", "word", "J", false)
  | 30 => ("TingDecksModel", "newStops", "I", false)
  | 31 => ("TingDecksModel", "newRiders", "I", false)
  | 32 => ("TingDecksModel", "newRules", "I", false)
  | 33 => ("TingDecksModel", "newFareAt", "I", false)
  | 34 => ("TingDecksModel", "toldOnce", "I", false)
  | 35 => ("TingDecksModel", "top", "I", false)
  | 36 => ("TingDecksModel", "waiting", "I", false)
  | 37 => ("TingDecksModel", "depth", "I", false)
  | 38 => ("TingDecksModel", "ofFare", "Z", false)
  | 39 => ("TingDecksModel", "newFrom", "[I", true)
  | 40 => ("TingDecksModel", "newTo", "[I", true)
  | 41 => ("TingDecksModel", "newNote", "[I", true)
  | 42 => ("TingDecksModel", "newTenths", "[I", true)
  | 43 => ("TingDecksModel", "newPlace", "[I", true)
  | 44 => ("TingDecksModel", "newRide", "[I", true)
  | 45 => ("TingDecksModel", "newSecond", "[I", true)
  | 46 => ("TingDecksModel", "newRuleAt", "[I", true)
  | 47 => ("TingDecksModel", "readCode", "[I", true)
  | 48 => ("TingDecksModel", "waits", "[I", true)
  | 49 => ("TingDecksModel", "tested", "[Z", true)
  | 50 => ("TingDecksModel", "now", "[I", true)
  | 51 => ("TingDecksModel", "acts", "I", false)
  | 52 => ("TingDecksModel", "act", "[I", true)
  | 53 => ("TingDecksModel", "told", "[I", true)
  | 54 => ("TingDecksModel", "pile", "[I", true)
  | 55 => ("TingDecksModel", "same", "I", false)
  | 56 => ("TingDecksModel", "paidAt", "[I", true)
  | 57 => ("TingDecksModel", "missed", "[I", true)
  | 58 => ("TingDecksModel", "askedAs", "[I", true)
  | 59 => ("TingDecksModel", "wentAt", "[I", true)
  | 60 => ("TingDecksModel", "wentTo", "[I", true)
  | 61 => ("TingDecksModel", "rung", "[I", true)
  | 62 => ("TingDecksModel", "stopSecond", "[I", true)
  | 63 => ("TingDecksModel", "asked", "I", false)
  | 64 => ("TingDecksModel", "paidMany", "I", false)
  | 65 => ("TingDecksModel", "paidSet", "I", false)
  | 66 => ("TingDecksModel", "byStair", "I", false)
  | 67 => ("TingDecksModel", "waited", "I", false)
  | 68 => ("TingDecksModel", "gone", "I", false)
  | 69 => ("TingDecksModel", "took", "I", false)
  | 70 => ("TingDecksModel", "soonestBy", "[I", true)
  | 71 => ("TingDecksModel", "unsure", "[I", true)
  | 72 => ("TingDecksModel", "unsureMany", "I", false)
  | 73 => ("TingDecksModel", "never", "I", false)
  | 74 => ("TingDecksModel", "seenMany", "I", false)
  | 75 => ("TingDecksModel", "seen", "[I", true)
  | 76 => ("TingDecksModel", "its", "I", false)
  | 77 => ("TingDecksModel", "hasImage", "Z", false)
  | 78 => ("TingDecksModel", "imageActs", "I", false)
  | 79 => ("TingDecksModel", "imageSeen", "I", false)
  | 80 => ("TingDecksModel", "imageNow", "[I", true)
  | 81 => ("TingDecksModel", "imageAct", "[I", true)
  | _ => ("TingDecksModel", "imageSees", "[I", true)
def tyX9 : Nat → FieldType := fun k => match k with
  | 0 => .int
  | 1 => .int
  | 2 => .int
  | 3 => .int
  | 4 => .int
  | 5 => .int
  | 6 => .int
  | 7 => .int
  | 8 => .int
  | 9 => .int
  | 10 => .array .int
  | 11 => .array .int
  | 12 => .array .int
  | 13 => .array .int
  | 14 => .array .int
  | 15 => .array .int
  | 16 => .array .int
  | 17 => .array .int
  | 18 => .int
  | 19 => .int
  | 20 => .int
  | 21 => .array .int
  | 22 => .int
  | 23 => .int
  | 24 => .int
  | 25 => .int
  | 26 => .int
  | 27 => .int
  | 28 => .int
  | 29 => .long
  | 30 => .int
  | 31 => .int
  | 32 => .int
  | 33 => .int
  | 34 => .int
  | 35 => .int
  | 36 => .int
  | 37 => .int
  | 38 => .boolean
  | 39 => .array .int
  | 40 => .array .int
  | 41 => .array .int
  | 42 => .array .int
  | 43 => .array .int
  | 44 => .array .int
  | 45 => .array .int
  | 46 => .array .int
  | 47 => .array .int
  | 48 => .array .int
  | 49 => .array .boolean
  | 50 => .array .int
  | 51 => .int
  | 52 => .array .int
  | 53 => .array .int
  | 54 => .array .int
  | 55 => .int
  | 56 => .array .int
  | 57 => .array .int
  | 58 => .array .int
  | 59 => .array .int
  | 60 => .array .int
  | 61 => .array .int
  | 62 => .array .int
  | 63 => .int
  | 64 => .int
  | 65 => .int
  | 66 => .int
  | 67 => .int
  | 68 => .int
  | 69 => .int
  | 70 => .array .int
  | 71 => .array .int
  | 72 => .int
  | 73 => .int
  | 74 => .int
  | 75 => .array .int
  | 76 => .int
  | 77 => .boolean
  | 78 => .int
  | 79 => .int
  | 80 => .array .int
  | 81 => .array .int
  | _ => .array .int
abbrev wsX90 : List Cond := u_ws RX9 TX9 83
theorem nmX9 : ∀ a, a < 83 → ∀ b, b < 83 → a ≠ b → (TX9 a).2.1 ≠ (TX9 b).2.1 := by decide +kernel
theorem tyX9_ok : ∀ k, k < 83 → parseFieldDescriptor (TX9 k).2.2.1 = some (tyX9 k) := by decide +kernel
abbrev cX9_init : ByteArray := prog_11_method_1_code
def yX9_init : MethodName := ⟨RX9, "<init>", "()V"⟩
abbrev cX9_thrown : ByteArray := prog_11_method_2_code
def yX9_thrown : MethodName := ⟨RX9, "thrown", "()I"⟩
abbrev cX9_right : ByteArray := prog_11_method_3_code
def yX9_right : MethodName := ⟨RX9, "right", "(ZI)Z"⟩
abbrev cX9_within : ByteArray := prog_11_method_4_code
def yX9_within : MethodName := ⟨RX9, "within", "(III)Z"⟩
abbrev cX9_off : ByteArray := prog_11_method_5_code
def yX9_off : MethodName := ⟨RX9, "off", "(II)I"⟩
abbrev cX9_copies : ByteArray := prog_11_method_6_code
def yX9_copies : MethodName := ⟨RX9, "copies", "([I[I)V"⟩
abbrev cX9_feed : ByteArray := prog_11_method_8_code
def yX9_feed : MethodName := ⟨RX9, "feed", "(IIIII)I"⟩
abbrev cX9_lays : ByteArray := prog_11_method_9_code
def yX9_lays : MethodName := ⟨RX9, "lays", "(I)V"⟩
abbrev cX9_byteAt : ByteArray := prog_11_method_10_code
def yX9_byteAt : MethodName := ⟨RX9, "byteAt", "(I)I"⟩
abbrev cX9_isLetter : ByteArray := prog_11_method_11_code
def yX9_isLetter : MethodName := ⟨RX9, "isLetter", "(I)Z"⟩
abbrev cX9_isDigit : ByteArray := prog_11_method_12_code
def yX9_isDigit : MethodName := ⟨RX9, "isDigit", "(I)Z"⟩
abbrev cX9_goes : ByteArray := prog_11_method_13_code
def yX9_goes : MethodName := ⟨RX9, "goes", "()V"⟩
abbrev cX9_spelled : ByteArray := prog_11_method_14_code
def yX9_spelled : MethodName := ⟨RX9, "spelled", "(IIIII)J"⟩
abbrev cX9_letters : ByteArray := prog_11_method_15_code
def yX9_letters : MethodName := ⟨RX9, "letters", "(I)J"⟩
abbrev cX9_knownWord : ByteArray := prog_11_method_16_code
def yX9_knownWord : MethodName := ⟨RX9, "knownWord", "()I"⟩
abbrev cX9_wrong : ByteArray := prog_11_method_17_code
def yX9_wrong : MethodName := ⟨RX9, "wrong", "(I)V"⟩
abbrev cX9_isGood : ByteArray := prog_11_method_18_code
def yX9_isGood : MethodName := ⟨RX9, "isGood", "()Z"⟩
abbrev cX9_isSign : ByteArray := prog_11_method_19_code
def yX9_isSign : MethodName := ⟨RX9, "isSign", "(I)Z"⟩
abbrev cX9_need : ByteArray := prog_11_method_20_code
def yX9_need : MethodName := ⟨RX9, "need", "(Z)V"⟩
abbrev cX9_numberHere : ByteArray := prog_11_method_21_code
def yX9_numberHere : MethodName := ⟨RX9, "numberHere", "(II)Z"⟩
abbrev cX9_number : ByteArray := prog_11_method_22_code
def yX9_number : MethodName := ⟨RX9, "number", "(II)I"⟩
abbrev cX9_puts : ByteArray := prog_11_method_23_code
def yX9_puts : MethodName := ⟨RX9, "puts", "(I)V"⟩
abbrev cX9_isOpen : ByteArray := prog_11_method_24_code
def yX9_isOpen : MethodName := ⟨RX9, "isOpen", "(I)Z"⟩
abbrev cX9_strength : ByteArray := prog_11_method_25_code
def yX9_strength : MethodName := ⟨RX9, "strength", "(I)I"⟩
abbrev cX9_drops : ByteArray := prog_11_method_26_code
def yX9_drops : MethodName := ⟨RX9, "drops", "(I)V"⟩
abbrev cX9_waitsFor : ByteArray := prog_11_method_27_code
def yX9_waitsFor : MethodName := ⟨RX9, "waitsFor", "(I)V"⟩
abbrev cX9_part : ByteArray := prog_11_method_28_code
def yX9_part : MethodName := ⟨RX9, "part", "()V"⟩
abbrev cX9_deeper : ByteArray := prog_11_method_29_code
def yX9_deeper : MethodName := ⟨RX9, "deeper", "()V"⟩
abbrev cX9_operand : ByteArray := prog_11_method_30_code
def yX9_operand : MethodName := ⟨RX9, "operand", "(Z)V"⟩
abbrev cX9_isOpened : ByteArray := prog_11_method_31_code
def yX9_isOpened : MethodName := ⟨RX9, "isOpened", "()Z"⟩
abbrev cX9_closes : ByteArray := prog_11_method_32_code
def yX9_closes : MethodName := ⟨RX9, "closes", "()V"⟩
abbrev cX9_expression : ByteArray := prog_11_method_33_code
def yX9_expression : MethodName := ⟨RX9, "expression", "()V"⟩
abbrev cX9_once : ByteArray := prog_11_method_34_code
def yX9_once : MethodName := ⟨RX9, "once", "(I)Z"⟩
abbrev cX9_readsRides : ByteArray := prog_11_method_35_code
def yX9_readsRides : MethodName := ⟨RX9, "readsRides", "()V"⟩
abbrev cX9_readsRider : ByteArray := prog_11_method_36_code
def yX9_readsRider : MethodName := ⟨RX9, "readsRider", "()V"⟩
abbrev cX9_line : ByteArray := prog_11_method_37_code
def yX9_line : MethodName := ⟨RX9, "line", "()V"⟩
abbrev cX9_bus : ByteArray := prog_11_method_38_code
def yX9_bus : MethodName := ⟨RX9, "bus", "(I)I"⟩
abbrev cX9_fault : ByteArray := prog_11_method_39_code
def yX9_fault : MethodName := ⟨RX9, "fault", "()I"⟩
abbrev cX9_keeps : ByteArray := prog_11_method_40_code
def yX9_keeps : MethodName := ⟨RX9, "keeps", "(I)V"⟩
abbrev cX9_refuses : ByteArray := prog_11_method_41_code
def yX9_refuses : MethodName := ⟨RX9, "refuses", "(I)I"⟩
abbrev cX9_undo : ByteArray := prog_11_method_42_code
def yX9_undo : MethodName := ⟨RX9, "undo", "()I"⟩
abbrev cX9_atSecond : ByteArray := prog_11_method_43_code
def yX9_atSecond : MethodName := ⟨RX9, "atSecond", "(I)I"⟩
abbrev cX9_lastSecond : ByteArray := prog_11_method_44_code
def yX9_lastSecond : MethodName := ⟨RX9, "lastSecond", "()I"⟩
abbrev cX9_stopBy : ByteArray := prog_11_method_45_code
def yX9_stopBy : MethodName := ⟨RX9, "stopBy", "(I)I"⟩
abbrev cX9_holds : ByteArray := prog_11_method_46_code
def yX9_holds : MethodName := ⟨RX9, "holds", "()I"⟩
abbrev cX9_works : ByteArray := prog_11_method_47_code
def yX9_works : MethodName := ⟨RX9, "works", "(III)I"⟩
abbrev cX9_reckons : ByteArray := prog_11_method_48_code
def yX9_reckons : MethodName := ⟨RX9, "reckons", "(I)I"⟩
abbrev cX9_tells : ByteArray := prog_11_method_49_code
def yX9_tells : MethodName := ⟨RX9, "tells", "(I)V"⟩
abbrev cX9_fareOf : ByteArray := prog_11_method_50_code
def yX9_fareOf : MethodName := ⟨RX9, "fareOf", "(I)I"⟩
abbrev cX9_faresOf : ByteArray := prog_11_method_51_code
def yX9_faresOf : MethodName := ⟨RX9, "faresOf", "(I)I"⟩
abbrev cX9_takeOf : ByteArray := prog_11_method_52_code
def yX9_takeOf : MethodName := ⟨RX9, "takeOf", "(I)I"⟩
abbrev cX9_wayTo : ByteArray := prog_11_method_53_code
def yX9_wayTo : MethodName := ⟨RX9, "wayTo", "(II)I"⟩
abbrev cX9_value : ByteArray := prog_11_method_54_code
def yX9_value : MethodName := ⟨RX9, "value", "(IIII)I"⟩
abbrev cX9_picks : ByteArray := prog_11_method_55_code
def yX9_picks : MethodName := ⟨RX9, "picks", "(IIII)I"⟩
abbrev cX9_runs : ByteArray := prog_11_method_56_code
def yX9_runs : MethodName := ⟨RX9, "runs", "(II)V"⟩
abbrev cX9_everybody : ByteArray := prog_11_method_57_code
def yX9_everybody : MethodName := ⟨RX9, "everybody", "()I"⟩
abbrev cX9_takenOf : ByteArray := prog_11_method_58_code
def yX9_takenOf : MethodName := ⟨RX9, "takenOf", "(I)I"⟩
abbrev cX9_taken : ByteArray := prog_11_method_59_code
def yX9_taken : MethodName := ⟨RX9, "taken", "()I"⟩
abbrev cX9_net : ByteArray := prog_11_method_60_code
def yX9_net : MethodName := ⟨RX9, "net", "()I"⟩
abbrev cX9_count : ByteArray := prog_11_method_61_code
def yX9_count : MethodName := ⟨RX9, "count", "(I)I"⟩
abbrev cX9_isStop : ByteArray := prog_11_method_62_code
def yX9_isStop : MethodName := ⟨RX9, "isStop", "(I)Z"⟩
abbrev cX9_isRider : ByteArray := prog_11_method_63_code
def yX9_isRider : MethodName := ⟨RX9, "isRider", "(I)Z"⟩
abbrev cX9_isWhat : ByteArray := prog_11_method_64_code
def yX9_isWhat : MethodName := ⟨RX9, "isWhat", "(II)Z"⟩
abbrev cX9_isThere : ByteArray := prog_11_method_65_code
def yX9_isThere : MethodName := ⟨RX9, "isThere", "(II)Z"⟩
abbrev cX9_stop : ByteArray := prog_11_method_66_code
def yX9_stop : MethodName := ⟨RX9, "stop", "(II)I"⟩
abbrev cX9_rider : ByteArray := prog_11_method_67_code
def yX9_rider : MethodName := ⟨RX9, "rider", "(II)I"⟩
abbrev cX9_paid : ByteArray := prog_11_method_68_code
def yX9_paid : MethodName := ⟨RX9, "paid", "(II)I"⟩
abbrev cX9_way : ByteArray := prog_11_method_69_code
def yX9_way : MethodName := ⟨RX9, "way", "(II)I"⟩
abbrev cX9_where : ByteArray := prog_11_method_70_code
def yX9_where : MethodName := ⟨RX9, "where", "(I)I"⟩
abbrev cX9_walk : ByteArray := prog_11_method_71_code
def yX9_walk : MethodName := ⟨RX9, "walk", "(I)I"⟩
abbrev cX9_ting : ByteArray := prog_11_method_72_code
def yX9_ting : MethodName := ⟨RX9, "ting", "(I)I"⟩
abbrev cX9_hold : ByteArray := prog_11_method_73_code
def yX9_hold : MethodName := ⟨RX9, "hold", "(II)I"⟩
abbrev cX9_isFree : ByteArray := prog_11_method_74_code
def yX9_isFree : MethodName := ⟨RX9, "isFree", "(II)Z"⟩
abbrev cX9_sit : ByteArray := prog_11_method_75_code
def yX9_sit : MethodName := ⟨RX9, "sit", "(III)I"⟩
abbrev cX9_obey : ByteArray := prog_11_method_76_code
def yX9_obey : MethodName := ⟨RX9, "obey", "(I)Z"⟩
abbrev cX9_soonestOf : ByteArray := prog_11_method_77_code
def yX9_soonestOf : MethodName := ⟨RX9, "soonestOf", "(I)I"⟩
abbrev cX9_orders : ByteArray := prog_11_method_78_code
def yX9_orders : MethodName := ⟨RX9, "orders", "(I)V"⟩
abbrev cX9_most : ByteArray := prog_11_method_79_code
def yX9_most : MethodName := ⟨RX9, "most", "(I)I"⟩
abbrev cX9_soonest : ByteArray := prog_11_method_80_code
def yX9_soonest : MethodName := ⟨RX9, "soonest", "(I)I"⟩
abbrev cX9_netBy : ByteArray := prog_11_method_81_code
def yX9_netBy : MethodName := ⟨RX9, "netBy", "(I)I"⟩
abbrev cX9_compare : ByteArray := prog_11_method_82_code
def yX9_compare : MethodName := ⟨RX9, "compare", "(I)I"⟩
abbrev cX9_best : ByteArray := prog_11_method_83_code
def yX9_best : MethodName := ⟨RX9, "best", "()I"⟩
abbrev cX9_bell : ByteArray := prog_11_method_84_code
def yX9_bell : MethodName := ⟨RX9, "bell", "(II)I"⟩
abbrev cX9_door : ByteArray := prog_11_method_85_code
def yX9_door : MethodName := ⟨RX9, "door", "(I)I"⟩
abbrev cX9_two : ByteArray := prog_11_method_86_code
def yX9_two : MethodName := ⟨RX9, "two", "(I)I"⟩
abbrev cX9_flat : ByteArray := prog_11_method_87_code
def yX9_flat : MethodName := ⟨RX9, "flat", "()I"⟩
abbrev cX9_pace : ByteArray := prog_11_method_88_code
def yX9_pace : MethodName := ⟨RX9, "pace", "()I"⟩
abbrev cX9_hops : ByteArray := prog_11_method_89_code
def yX9_hops : MethodName := ⟨RX9, "hops", "(I)I"⟩
abbrev cX9_again : ByteArray := prog_11_method_90_code
def yX9_again : MethodName := ⟨RX9, "again", "(I)I"⟩
abbrev cX9_dodge : ByteArray := prog_11_method_91_code
def yX9_dodge : MethodName := ⟨RX9, "dodge", "(II)I"⟩
abbrev cX9_worth : ByteArray := prog_11_method_92_code
def yX9_worth : MethodName := ⟨RX9, "worth", "(I)I"⟩
abbrev cX9_asks : ByteArray := prog_11_method_93_code
def yX9_asks : MethodName := ⟨RX9, "asks", "()V"⟩
abbrev cX9_tens : ByteArray := prog_11_method_94_code
def yX9_tens : MethodName := ⟨RX9, "tens", "()J"⟩
abbrev cX9_weighs : ByteArray := prog_11_method_95_code
def yX9_weighs : MethodName := ⟨RX9, "weighs", "(I)J"⟩
abbrev cX9_portion : ByteArray := prog_11_method_96_code
def yX9_portion : MethodName := ⟨RX9, "portion", "(JJI)J"⟩
abbrev cX9_likely : ByteArray := prog_11_method_97_code
def yX9_likely : MethodName := ⟨RX9, "likely", "(II)J"⟩
abbrev cX9_mean : ByteArray := prog_11_method_98_code
def yX9_mean : MethodName := ⟨RX9, "mean", "(I)J"⟩
abbrev cX9_head : ByteArray := prog_11_method_99_code
def yX9_head : MethodName := ⟨RX9, "head", "(III)I"⟩
abbrev cX9_forget : ByteArray := prog_11_method_100_code
def yX9_forget : MethodName := ⟨RX9, "forget", "()V"⟩
abbrev cX9_isCounted : ByteArray := prog_11_method_101_code
def yX9_isCounted : MethodName := ⟨RX9, "isCounted", "(I)Z"⟩
abbrev cX9_fits : ByteArray := prog_11_method_102_code
def yX9_fits : MethodName := ⟨RX9, "fits", "(I)I"⟩
abbrev cX9_game : ByteArray := prog_11_method_103_code
def yX9_game : MethodName := ⟨RX9, "game", "(III)I"⟩
abbrev cX9_draw : ByteArray := prog_11_method_104_code
def yX9_draw : MethodName := ⟨RX9, "draw", "(I)I"⟩
abbrev cX9_week : ByteArray := prog_11_method_105_code
def yX9_week : MethodName := ⟨RX9, "week", "(III)I"⟩
abbrev cX9_image : ByteArray := prog_11_method_106_code
def yX9_image : MethodName := ⟨RX9, "image", "()V"⟩
abbrev cX9_restore : ByteArray := prog_11_method_107_code
def yX9_restore : MethodName := ⟨RX9, "restore", "()Z"⟩
def RJx145de : String := "java/io/Serializable"
def RJx9f9b0 : String := "java/lang/CharSequence"
def RJx8e188 : String := "java/lang/Cloneable"
def RJxb160c : String := "java/lang/Comparable"
def RJ6 : String := "java/lang/Integer"
abbrev cJ6_bitCount_0f7a4 : ByteArray := prog_18_method_49_code
def yJ6_bitCount_0f7a4 : MethodName := ⟨RJ6, "bitCount", "(I)I"⟩
def RJ9 : String := "java/lang/Math"
abbrev cJ9_abs_0f7a4 : ByteArray := prog_19_method_59_code
def yJ9_abs_0f7a4 : MethodName := ⟨RJ9, "abs", "(I)I"⟩
abbrev cJ9_max_7cf53 : ByteArray := prog_19_method_65_code
def yJ9_max_7cf53 : MethodName := ⟨RJ9, "max", "(II)I"⟩
abbrev cJ9_min_7cf53 : ByteArray := prog_19_method_69_code
def yJ9_min_7cf53 : MethodName := ⟨RJ9, "min", "(II)I"⟩
def RJ0 : String := "java/lang/String"
abbrev cJ0_length_8abf5 : ByteArray := prog_21_method_54_code
def yJ0_length_8abf5 : MethodName := ⟨RJ0, "length", "()I"⟩
abbrev cJ0_charAt_5068e : ByteArray := prog_21_method_56_code
def yJ0_charAt_5068e : MethodName := ⟨RJ0, "charAt", "(I)C"⟩
abbrev cJ0_coder_7d493 : ByteArray := prog_21_method_152_code
def yJ0_coder_7d493 : MethodName := ⟨RJ0, "coder", "()B"⟩
abbrev cJ0_isLatin1_aae02 : ByteArray := prog_21_method_154_code
def yJ0_isLatin1_aae02 : MethodName := ⟨RJ0, "isLatin1", "()Z"⟩
abbrev cJ0_checkIndex_df160 : ByteArray := prog_21_method_155_code
def yJ0_checkIndex_df160 : MethodName := ⟨RJ0, "checkIndex", "(II)V"⟩
def RJ1 : String := "java/lang/StringLatin1"
abbrev cJ1_charAt_3b067 : ByteArray := prog_22_method_2_code
def yJ1_charAt_3b067 : MethodName := ⟨RJ1, "charAt", "([BI)C"⟩
def RJ2 : String := "java/lang/StringUTF16"
abbrev cJ2_getChar_3b067 : ByteArray := prog_23_method_5_code
def yJ2_getChar_3b067 : MethodName := ⟨RJ2, "getChar", "([BI)C"⟩
abbrev cJ2_length_9d52b : ByteArray := prog_23_method_6_code
def yJ2_length_9d52b : MethodName := ⟨RJ2, "length", "([B)I"⟩
abbrev cJ2_charAt_3b067 : ByteArray := prog_23_method_83_code
def yJ2_charAt_3b067 : MethodName := ⟨RJ2, "charAt", "([BI)C"⟩
abbrev cJ2_checkIndex_2214a : ByteArray := prog_23_method_91_code
def yJ2_checkIndex_2214a : MethodName := ⟨RJ2, "checkIndex", "(I[B)V"⟩
def RJ10 : String := "java/lang/System"
def RJxfd54e : String := "java/lang/constant/Constable"
def RJx3cf43 : String := "java/lang/constant/ConstantDesc"
def RJ3 : String := "jdk/internal/util/Preconditions"
abbrev cJ3_checkIndex_8e157 : ByteArray := prog_29_method_11_code
def yJ3_checkIndex_8e157 : MethodName := ⟨RJ3, "checkIndex", "(IILjava/util/function/BiFunction;)I"⟩
def RL : String := "TingDecksLaw"
abbrev cL_bus : ByteArray := method_3_code
def yL_bus : MethodName := ⟨RL, "bus", "(LTingDecks;I[J)I"⟩
abbrev cL_count : ByteArray := method_4_code
def yL_count : MethodName := ⟨RL, "count", "(LTingDecks;I[J)I"⟩
abbrev cL_stop : ByteArray := method_5_code
def yL_stop : MethodName := ⟨RL, "stop", "(LTingDecks;II[J)I"⟩
abbrev cL_rider : ByteArray := method_6_code
def yL_rider : MethodName := ⟨RL, "rider", "(LTingDecks;II[J)I"⟩
abbrev cL_paid : ByteArray := method_7_code
def yL_paid : MethodName := ⟨RL, "paid", "(LTingDecks;II[J)I"⟩
abbrev cL_way : ByteArray := method_8_code
def yL_way : MethodName := ⟨RL, "way", "(LTingDecks;II[J)I"⟩
abbrev cL_where : ByteArray := method_9_code
def yL_where : MethodName := ⟨RL, "where", "(LTingDecks;I[J)I"⟩
abbrev cL_hold : ByteArray := method_10_code
def yL_hold : MethodName := ⟨RL, "hold", "(LTingDecks;II[J)I"⟩
abbrev cL_sit : ByteArray := method_11_code
def yL_sit : MethodName := ⟨RL, "sit", "(LTingDecks;III[J)I"⟩
abbrev cL_most : ByteArray := method_12_code
def yL_most : MethodName := ⟨RL, "most", "(LTingDecks;I[J)I"⟩
abbrev cL_compare : ByteArray := method_13_code
def yL_compare : MethodName := ⟨RL, "compare", "(LTingDecks;I[J)I"⟩
abbrev cL_bell : ByteArray := method_14_code
def yL_bell : MethodName := ⟨RL, "bell", "(LTingDecks;II[J)I"⟩
abbrev cL_door : ByteArray := method_15_code
def yL_door : MethodName := ⟨RL, "door", "(LTingDecks;I[J)I"⟩
abbrev cL_two : ByteArray := method_16_code
def yL_two : MethodName := ⟨RL, "two", "(LTingDecks;I[J)I"⟩
abbrev cL_hops : ByteArray := method_17_code
def yL_hops : MethodName := ⟨RL, "hops", "(LTingDecks;I[J)I"⟩
abbrev cL_again : ByteArray := method_18_code
def yL_again : MethodName := ⟨RL, "again", "(LTingDecks;I[J)I"⟩
abbrev cL_head : ByteArray := method_19_code
def yL_head : MethodName := ⟨RL, "head", "(LTingDecks;III[J)I"⟩
abbrev cL_fits : ByteArray := method_20_code
def yL_fits : MethodName := ⟨RL, "fits", "(LTingDecks;I[J)I"⟩
abbrev cL_game : ByteArray := method_21_code
def yL_game : MethodName := ⟨RL, "game", "(LTingDecks;III[J)I"⟩
abbrev cL_week : ByteArray := method_22_code
def yL_week : MethodName := ⟨RL, "week", "(LTingDecks;III[J)I"⟩
abbrev cL_walk : ByteArray := method_23_code
def yL_walk : MethodName := ⟨RL, "walk", "(LTingDecks;I[J)I"⟩
abbrev cL_ting : ByteArray := method_24_code
def yL_ting : MethodName := ⟨RL, "ting", "(LTingDecks;I[J)I"⟩
abbrev cL_soonest : ByteArray := method_25_code
def yL_soonest : MethodName := ⟨RL, "soonest", "(LTingDecks;I[J)I"⟩
abbrev cL_dodge : ByteArray := method_26_code
def yL_dodge : MethodName := ⟨RL, "dodge", "(LTingDecks;II[J)I"⟩
abbrev cL_worth : ByteArray := method_27_code
def yL_worth : MethodName := ⟨RL, "worth", "(LTingDecks;I[J)I"⟩
abbrev cL_likely : ByteArray := method_28_code
def yL_likely : MethodName := ⟨RL, "likely", "(LTingDecks;II[J)I"⟩
abbrev cL_mean : ByteArray := method_29_code
def yL_mean : MethodName := ⟨RL, "mean", "(LTingDecks;I[J)I"⟩
abbrev cL_law : ByteArray := code
def yL_law : MethodName := ⟨RL, "law", "([I)Z"⟩
abbrev vwCl : List vw_C := [(RX0, TX0, 14), (RX1, TX1, 6), (RX2, TX2, 4), (RX3, TX3, 6), (RX4, TX4, 2), (RX5, TX5, 11), (RX6, TX6, 6), (RX7, TX7, 21), (RX8, TX8, 17), (RX9, TX9, 83)]
end
section
/-! the words that every method is given: all good ones of the tables -/
def xw_T : List Cond := lw_tbl.filter goodWord
theorem xw_in {w : Cond} (h : w ∈ lw_tbl) (g : goodWord w = true) : w ∈ xw_T := List.mem_filter.mpr ⟨h, g⟩
theorem xw_tb {w : Cond} (h : w ∈ xw_T) : w ∈ lw_tbl := (List.mem_filter.mp h).1
theorem xw_good {w : Cond} (h : w ∈ xw_T) : goodWord w = true := (List.mem_filter.mp h).2
def xk_has (w : Cond) : Bool := decide (w ∈ lw_tbl) && goodWord w
theorem xk_has_in {w : Cond} (h : xk_has w = true) : w ∈ xw_T := by
  simp only [xk_has, Bool.and_eq_true, decide_eq_true_eq] at h
  exact xw_in h.1 h.2
theorem xk_u {C : String} {T : u_T} {N : Nat} (h1 : ∀ w ∈ u_ws C T N, w ∈ lw_tbl) (h2 : (u_ws C T N).all goodWord = true) : ∀ w ∈ u_ws C T N, w ∈ xw_T := fun w h => xw_in (h1 w h) (List.all_eq_true.mp h2 w h)
theorem xk_u0 : ∀ w ∈ u_ws RX0 TX0 14, w ∈ xw_T := xk_u (by decide +kernel) (by decide +kernel)
theorem xk_u1 : ∀ w ∈ u_ws RX1 TX1 6, w ∈ xw_T := xk_u (by decide +kernel) (by decide +kernel)
theorem xk_u2 : ∀ w ∈ u_ws RX2 TX2 4, w ∈ xw_T := xk_u (by decide +kernel) (by decide +kernel)
theorem xk_u3 : ∀ w ∈ u_ws RX3 TX3 6, w ∈ xw_T := xk_u (by decide +kernel) (by decide +kernel)
theorem xk_u4 : ∀ w ∈ u_ws RX4 TX4 2, w ∈ xw_T := xk_u (by decide +kernel) (by decide +kernel)
theorem xk_u5 : ∀ w ∈ u_ws RX5 TX5 11, w ∈ xw_T := xk_u (by decide +kernel) (by decide +kernel)
theorem xk_u6 : ∀ w ∈ u_ws RX6 TX6 6, w ∈ xw_T := xk_u (by decide +kernel) (by decide +kernel)
theorem xk_u7 : ∀ w ∈ u_ws RX7 TX7 21, w ∈ xw_T := xk_u (by decide +kernel) (by decide +kernel)
theorem xk_u8 : ∀ w ∈ u_ws RX8 TX8 17, w ∈ xw_T := xk_u (by decide +kernel) (by decide +kernel)
theorem xk_u9 : ∀ w ∈ u_ws RX9 TX9 83, w ∈ xw_T := xk_u (by decide +kernel) (by decide +kernel)
/-- words that aren't good ones: what a throw needs, and a catch -/
def xw_N : List Cond := [.castable "java/lang/IllegalArgumentException" "java/lang/IllegalArgumentException", .castable "java/util/NoSuchElementException" "java/util/NoSuchElementException", .declares ⟨"java/lang/RuntimeException", "<init>", "()V"⟩, .declares ⟨"java/lang/RuntimeException", "<init>", "(Ljava/lang/String;)V"⟩, .declares ⟨"java/lang/Exception", "<init>", "()V"⟩, .declares ⟨"java/lang/Exception", "<init>", "(Ljava/lang/String;)V"⟩, .declares ⟨"java/lang/Throwable", "<init>", "()V"⟩, .declares ⟨"java/lang/Throwable", "<init>", "(Ljava/lang/String;)V"⟩]
def xw_Str : List (Nat × String) := [(88, "the tape has not so many bytes"), (146, "no such count"), (165, "no such thing of a stop"), (206, "the bus does not ride then"), (236, "no such rule"), (276, "not 0 to 12 stops"), (301, "not 0 to 60 days"), (329, "not so many paid"), (334, "there are no such riders"), (365, "no such stop"), (367, "no such rider"), (369, "no such what")]
theorem xw_N_warm {s U : State} (hW : s.WarmedH U.vm) (h : ∀ w ∈ xw_N, va_Nw w s) : ∀ w ∈ xw_N, va_Nw w U := by
  intro w hw
  have h1 := h w hw
  simp only [xw_N, List.mem_cons, List.not_mem_nil, or_false] at hw
  rcases hw with rfl | rfl | rfl | rfl | rfl | rfl | rfl | rfl
  · exact h1.warmC hW
  · exact h1.warmC hW
  · exact h1.warmD hW
  · exact h1.warmD hW
  · exact h1.warmD hW
  · exact h1.warmD hW
  · exact h1.warmD hW
  · exact h1.warmD hW
theorem xw_Nc_warm {C T : String} {s U : State} (hW : s.WarmedH U.vm) (h : va_Nc C T s) : va_Nc C T U := by
  obtain ⟨c, t, h1, h2, h3⟩ := h
  exact ⟨c, t, by rw [hW.alike.findClass]; exact h1, by rw [hW.alike.findClass]; exact h2, by rw [hW.alike.assignable]; exact h3⟩
end
section
/-! an exception that a callee threw, caught by a row of this method's table, past rows that don't take it (the laws follow JvmDerived/Shelf42/NT85, NT86, NT97, which no round has) -/
def xh_To (e : Env) (s : State) (f : JFrame) (a : Addr) (h : Handler) (vm' : Vm) : Prop :=
  ∀ (Q : Handler → Pre) (E : CtlPost) (d : Bool) (acts : List Action), wp (findHandler f a) Q E e d acts s ↔ Q h d acts (s.setVm vm')
theorem xh_one {Q : Handler → Pre} {E : CtlPost} {e : Env} {d : Bool} {acts : List Action} {s : State} {f : JFrame} {a : Addr} {x : ExceptionTableEntry} {t : List ExceptionTableEntry} {c : ClassId} {cell : Cell} (hx : covers x f.pc = true) (h0 : x.catchType ≠ 0)
    (hl : s.vm.ClassLinks e.platform f.method.cls x.catchType c) (hcell : s.heap[a]? = some cell) (hobj : ∀ k, cell.vm ≠ .statics k)
    (hk : ∃ k, s.vm.classes[cell.cls]? = some k) (hc : ∃ k, s.vm.classes[c]? = some k) (b : Bool) (hfit : s.vm.assignable cell.cls c = b) :
    wp (findHandler.go f a (x :: t)) Q E e d acts s ↔ (if b = true then Q (.found x.handlerPc) d acts (s.setVm (s.vm.noted f.method.cls x.catchType (.cls c))) else wp (findHandler.go f a t) Q E e d acts (s.setVm (s.vm.noted f.method.cls x.catchType (.cls c)))) := by
  simp only [covers] at hx
  obtain ⟨ha, ht⟩ := (resolveClass_links e.toSetting hl).op (op := VmOp.resolveClass f.method.cls x.catchType) rfl
  have hal : s.vm.Alike (s.vm.noted f.method.cls x.catchType (.cls c)) := (Vm.Alike.refl s.vm).noted _ _ _
  obtain ⟨k1, hk1⟩ := hk
  obtain ⟨k2, hk2⟩ := hc
  obtain ⟨k1', hk1', -⟩ := hal.2.2 _ _ hk1
  obtain ⟨k2', hk2', -⟩ := hal.2.2 _ _ hk2
  have hfit' : (s.vm.noted f.method.cls x.catchType (.cls c)).assignable cell.cls c = b := by rw [hal.assignable]; exact hfit
  cases b with
  | true => simp [findHandler.go, hx, h0, ha, ht, hcell, hobj, hk1', hk2', hfit', VmOp.dirties, VmOp.acts]
  | false => simp [findHandler.go, hx, h0, ha, ht, hcell, hobj, hk1', hk2', hfit', VmOp.dirties, VmOp.acts]
/-- a row that lets it pass -/
def xh_pass (pl : Platform) (s₀ : State) (d : ClassId) (pc : Nat) (thrown : ClassId) (y : ExceptionTableEntry) : Prop :=
  covers y pc = false ∨ (y.catchType ≠ 0 ∧ ∃ c, s₀.vm.ClassLinks pl d y.catchType c ∧ s₀.vm.assignable thrown c = false)
theorem xh_go {e : Env} {s₀ : State} {f : JFrame} {a : Addr} {cell : Cell} (hobj : ∀ k, cell.vm ≠ .statics k) (hk0 : ∃ k, s₀.vm.classes[cell.cls]? = some k)
    (x : ExceptionTableEntry) (rest : List ExceptionTableEntry) (hx : covers x f.pc = true) (h0 : x.catchType ≠ 0) {cx : ClassId} (hlx : s₀.vm.ClassLinks e.platform f.method.cls x.catchType cx) (hfit : s₀.vm.assignable cell.cls cx = true) :
    ∀ (pre : List ExceptionTableEntry) (S : State), s₀.WarmedH S.vm → S.heap[a]? = some cell → (∀ y ∈ pre, xh_pass e.platform s₀ f.method.cls f.pc cell.cls y) →
      ∃ vm', s₀.WarmedH vm' ∧ ∀ (Q : Handler → Pre) (E : CtlPost) (d : Bool) (acts : List Action), wp (findHandler.go f a (pre ++ x :: rest)) Q E e d acts S ↔ Q (.found x.handlerPc) d acts (S.setVm vm') := by
  obtain ⟨k0, hk0⟩ := hk0
  intro pre
  induction pre with
  | nil =>
    intro S hW hcell _
    obtain ⟨k0', hk0', -⟩ := hW.alike.2.2 _ _ hk0
    obtain ⟨dk, _, _, kt, hd, _, _, _, _, hkt, _, hopen⟩ := hlx.here
    obtain ⟨kt', hkt', -⟩ := hW.alike.2.2 _ _ hkt
    exact ⟨_, hW.noted hd hopen (State.rightAt_cls hlx), fun Q E d acts => by
      rw [List.nil_append, xh_one hx h0 (hW.classLinks hlx) hcell hobj ⟨k0', hk0'⟩ ⟨kt', hkt'⟩ true (by rw [hW.alike.assignable]; exact hfit), if_pos rfl]⟩
  | cons y ys ih =>
    intro S hW hcell hpass
    obtain ⟨k0', hk0', -⟩ := hW.alike.2.2 _ _ hk0
    have hrest : ∀ z ∈ ys, xh_pass e.platform s₀ f.method.cls f.pc cell.cls z := fun z hz => hpass z (List.mem_cons_of_mem _ hz)
    by_cases hcov : covers y f.pc = true
    · rcases hpass y List.mem_cons_self with h | ⟨h1, c, hl, hno⟩
      · rw [h] at hcov; cases hcov
      · obtain ⟨dk, _, _, kt, hd, _, _, _, _, hkt, _, hopen⟩ := hl.here
        obtain ⟨kt', hkt', -⟩ := hW.alike.2.2 _ _ hkt
        obtain ⟨vm', hW', hq⟩ := ih (S.setVm (S.vm.noted f.method.cls y.catchType (.cls c))) (hW.noted hd hopen (State.rightAt_cls hl)) hcell hrest
        exact ⟨vm', hW', fun Q E d acts => by
          rw [List.cons_append, xh_one hcov h1 (hW.classLinks hl) hcell hobj ⟨k0', hk0'⟩ ⟨kt', hkt'⟩ false (by rw [hW.alike.assignable]; exact hno), if_neg (by decide)]
          exact hq Q E d acts⟩
    · obtain ⟨vm', hW', hq⟩ := ih S hW hcell hrest
      exact ⟨vm', hW', fun Q E d acts => by
        rw [List.cons_append, _root_.Jvm.W.findHandler_go_skip (by simpa using hcov)]
        exact hq Q E d acts⟩
theorem xh_step {e : Env} {s : State} {a : Addr} {f : JFrame} {r : List Frame} {pc : Nat} {vm' : Vm} (hfind : xh_To e s f a (.found pc) vm') :
    (stepThrowing e s a (.java f :: r)).Is ((s.setVm vm').setFrames (.java { f with pc := pc, stack := [.ref a] } :: r)) [] := by
  simp only [stepThrowing, searchFrame, vmDo]
  generalize hr : Sem.go _ e false [] s = res
  obtain ⟨as, rfl, ha⟩ := Sem.eq_ok_of hr (a := Handler.found pc) (s' := s.setVm vm') (acts' := []) (by simp [hfind _ _ _ _])
  exact ⟨rfl, ha⟩
theorem xh_sfs (u : State) (vm' : Vm) (F G : List Frame) : ((u.setFrames F).setVm vm').setFrames G = (u.setVm vm').setFrames G := by
  have h1 : (u.setFrames F).setVm vm' = (u.setVm vm').setFrames F := rfl
  rw [h1, State.setFrames_setFrames]
theorem xh_to {tb : Tables} {e : Env} {s target : State} {g : JFrame} {c : Code} {below : List Frame} {a : Addr} (h : At s g.method c below) {pc : Nat} {vm' : Vm}
    (hfind : xh_To e ((s.setTop g).pushFrame (.throwing a)) g a (.found pc) vm') (hrest : Steps tb e below ((s.setVm vm').setTop { g with pc := pc, stack := [.ref a] }) target) :
    Steps tb e below ((s.setTop g).pushFrame (.throwing a)) target := by
  obtain ⟨hgo, hw⟩ := h.throwing a
  refine Steps.head hgo hw ?_
  rw [stepThread_throwing (frames_entered h.top _), (xh_step (s := (s.setTop g).pushFrame (.throwing a)) hfind).1]
  obtain ⟨g₀, hg⟩ := Option.isSome_iff_exists.mp h.top
  obtain ⟨r, hr⟩ := State.topJava?_eq_some.mp hg
  have hr' : (s.setVm vm').frames = .java g₀ :: r := hr
  rw [State.setTop_of_frames _ hr'] at hrest
  rw [hr, List.tail_cons, State.pushFrame, xh_sfs, State.setTop_of_frames _ hr, xh_sfs]
  exact hrest
section
variable {p : Program} {l : Launch} {e : Env} {R : Room} {s : State} {m : MethodId} {args : Array Value} {below : List Frame} {meth : Method} {c : Code} {H : Heap} {locs : List Loc} {cells slots : Nat} {Q : State → Prop} {pc : Nat} {ls : Array Slot} {rest : List Value}
theorem xh_catch {own name : String} {E : String} {ce : Cell} {q : Addr} (hown : s.vm.findClass own = some m.cls) (pre : List ExceptionTableEntry) (x : ExceptionTableEntry) (suf : List ExceptionTableEntry) (hsplit : c.exceptionTable.toList = pre ++ x :: suf)
    (hpass : ∀ z ∈ pre, covers z pc = false ∨ (z.catchType ≠ 0 ∧ ∃ nm : String, (Cond.classLink own z.catchType nm).before args s = true ∧ va_Nc E nm s)) (hx : covers x pc = true) (h0 : x.catchType ≠ 0)
    (hlink : (Cond.classLink own x.catchType name).before args s = true) (hcast : (Cond.castable E name).before args s = true) (hcell : H[q]? = some ce) (hv : ce.vm = .none) (hcl : s.vm.findClass E = some ce.cls)
    (kk : W p l e R s m args below meth c H locs cells slots Q (F0 m x.handlerPc ls [.ref q])) : vx_W p l e R s m args below meth c H locs cells slots Q (F0 m pc ls rest) q := by
  intro T hT X
  have hpl : e.platform.magicAccessors = ({} : Platform).magicAccessors := by rw [X.admits.platform]
  obtain ⟨c3, c4, hc3, hc4, hasg⟩ := Cond.castable_spec hcast
  cases Option.some.inj (hc3.symm.trans hcl)
  obtain ⟨c5, hc5, hcl5⟩ := Cond.classLink_spec hown hlink e.platform hpl
  cases Option.some.inj (hc4.symm.trans hc5)
  have hcellT : T.heap[q]? = some ce := by rw [hT]; exact hcell
  obtain ⟨k9, h9, -⟩ := Vm.findClass_spec hcl
  obtain ⟨vm', hW', hq⟩ := xh_go (e := e) (s₀ := s) (f := F0 m pc ls rest) (a := q) (cell := ce) (VmData.ne_statics_of (by rw [hv]; rfl)) ⟨k9, h9⟩ x suf hx h0 hcl5 hasg pre ((T.setTop (F0 m pc ls rest)).pushFrame (.throwing q)) X.warmed hcellT
    (fun z hz => by
      rcases hpass z hz with h | ⟨hz0, nm, hl1, hn1⟩
      · exact Or.inl h
      · obtain ⟨c6, hc6, hcl6⟩ := Cond.classLink_spec hown hl1 e.platform hpl
        obtain ⟨a8, b8, h1, h2, h3⟩ := hn1
        cases Option.some.inj (h1.symm.trans hcl)
        cases Option.some.inj (h2.symm.trans hc6)
        exact Or.inr ⟨hz0, _, hcl6, h3⟩)
  have hf : xh_To e ((T.setTop (F0 m pc ls rest)).pushFrame (.throwing q)) (F0 m pc ls rest) q (.found x.handlerPc) vm' := fun Q E d acts => by
    rw [_root_.Jvm.W.findHandler_eq (meth := meth) (code := c) X.method' X.code, hsplit]
    exact hq Q E d acts
  obtain ⟨t, a1, b1⟩ := kk (T.setVm vm') hT (X.noted hW')
  exact ⟨t, xh_to X.here hf a1, b1⟩
end
end
section
/-! 'throw' of a class whose constructor calls its super's by another place of its pool than the library's laws have (they follow JvmDerived/BundleChainS, BundleOwnThrow and the laws vx_throwS, vx_throwSW above) -/
def xh_six (ix : Nat) (rx : ByteArray) : Prop := decode rx 0 = .ok (.aload_n 0, 1) ∧ decode rx 1 = .ok (.aload_n 1, 1) ∧ decode rx 2 = .ok (.invokespecial ix, 3) ∧ decode rx 5 = .ok (.return_, 1)
def xh_own (own : String) (ic : Nat) (X Y : String) (names : List String) (ix : Nat) (rx : ByteArray) : List Cond :=
  Bundle.throwableAtoms ++ Bundle.throwableSAtoms ++ (Bundle.passSAtoms X Y ix rx ++ Bundle.chainSAtoms Y names) ++
  [.methodLink own ic (Bundle.initS X), .instantiable X 6, .selects X Bundle.tFill0 Bundle.tFill0, .selects X Bundle.tFill Bundle.tFill,
   .lays X Bundle.tN "cause" "Ljava/lang/Throwable;", .lays X Bundle.tN "stackTrace" Bundle.steD, .lays X Bundle.tN "suppressedExceptions" Bundle.listD, .lays X Bundle.tN "detailMessage" "Ljava/lang/String;",
   .isRef (.static Bundle.tN "UNASSIGNED_STACK" Bundle.steD), .isRef (.static Bundle.tN "SUPPRESSED_SENTINEL" Bundle.listD),
   .fieldLink Bundle.tN 198 Bundle.tN "backtrace" "Ljava/lang/Object;", .lays Bundle.tN Bundle.tN "backtrace" "Ljava/lang/Object;", .lays X Bundle.tN "backtrace" "Ljava/lang/Object;"]
def xh_at (own : String) (ic : Nat) (X Y : String) (names : List String) (ix : Nat) (rx : ByteArray) : List Cond := (xh_own own ic X Y names ix rx).filter vx_no
theorem xh_chain {args : Array Value} {s : State} {pl : Platform} (hpl : pl.magicAccessors = ({} : Platform).magicAccessors) {top : MethodId} (htop : s.methodNamed? (Bundle.initS Bundle.tN) = some top)
    (names : List String) (X Y : String) {ix : Nat} {rx : ByteArray} (hrx : xh_six ix rx) (hX : Bundle.fit X = true) (hY : Bundle.fit Y = true) (hn : ∀ n ∈ names, Bundle.fit n = true) (h : ∀ c ∈ Bundle.passSAtoms X Y ix rx ++ Bundle.chainSAtoms Y names, c.before args s = true) :
      ∃ (P1 : PassC) (Ps : List PassC), Ps.length = names.length + 1 ∧ P1.LinksS pl s ∧ (∀ P, P ∈ Ps → P.LinksS pl s) ∧ s.methodNamed? (Bundle.initS X) = some P1.m ∧
        P1.sup = firstOf top (Ps.map (·.toPassT)) ∧ PassesOn top (Ps.map (·.toPassT)) := by
  obtain ⟨P, L, hm, hs⟩ := PassC.ofS_atoms (args := args) (s := s) hpl (X := X) (Y := Y) (Bundle.fit_spec hX).1 (Bundle.fit_spec hY).2 hrx.1 hrx.2.1 hrx.2.2.1 hrx.2.2.2 (fun c hc => h c (List.mem_append.mpr (Or.inl hc)))
  obtain ⟨P', Ps, hlen, L', hL, hm', hsup, hpass⟩ := Bundle.chainS (args := args) hpl htop names Y hY hn (fun c hc => h c (List.mem_append.mpr (Or.inr hc)))
  refine ⟨P, P' :: Ps, by simp [hlen], L, ?_, hm, Option.some.inj (hs.symm.trans hm'), hsup, hpass⟩
  intro Q hQ
  rcases List.mem_cons.mp hQ with rfl | hQ
  · exact L'
  · exact hL Q hQ
section
variable {p : Program} {l : Launch} {e : Env} {R : Room} {s : State} {m₀ : MethodId} {args : Array Value} {below : List Frame} {meth : Method} {c : Code} {W9 : State} {locs : List Loc} {cells slots : Nat}
set_option maxHeartbeats 1000000 in
theorem xh_ctorS (X : Stand p l e R s m₀ args below meth c W9 locs cells slots) (hexec : p.tables.exec = Jvm.exec) (htr : e.platform.stackTraces = false) {own cls Y1 : String} {names : List String} {ic ix : Nat} {rx : ByteArray} (hrx : xh_six ix rx)
    (hown : s.vm.findClass own = some m₀.cls) (hcls : Bundle.fit cls = true) (hY1 : Bundle.fit Y1 = true) (hnames : ∀ n ∈ names, Bundle.fit n = true)
    (h : ∀ a ∈ xh_own own ic cls Y1 names ix rx, a.before args s = true)
    (hlocs : ∀ x ∈ locs, ∀ cell, s.heap[x.base]? = some cell → cell.vm.isStatics = false)
    {a : Addr} {cX : ClassId} {kX : Class} (hfoundX : s.vm.findClass cls = some cX) (hkX : s.vm.classes[cX]? = some kX) (hcell : W9.heap[a]? = some (freshCell cX kX)) (hnew : s.heap.size ≤ a)
    {msg : Value} (hmsg : msg.isRef = true)
    {g : JFrame} (hg : g.method = m₀) (hsize : g.locals.size = c.maxLocals) (hlocked : g.locked = none) (hentered : g.entered = []) {rest : List Value} (hstack : g.stack = msg :: .ref a :: .ref a :: rest)
    (hd6 : decode c.code g.pc = .ok (.invokespecial ic, 3)) (hd9 : decode c.code (g.pc + 3) = .ok (.athrow, 1)) (hout : ∀ x ∈ c.exceptionTable.toList, covers x (g.pc + 3) = false)
    (hRframes : names.length + 4 < R.frames) (hRlocals : 2 * g.monitorRoom + ((Value.ref a :: rest).map fun v => v.category).sum + (13 * (names.length + 2) + 42) ≤ R.locals) (hlocks : meth.locks = false) :
    ∃ U : State, Steps p.tables e below (W9.setTop g) U ∧ U.status = .running ∧ Ended U below (.threw a) ∧ s.WarmedH U.vm ∧ s.sameButNew ({ U with vm := s.vm } : State) locs cells slots ∧
      ∃ ce, U.heap[a]? = some ce ∧ ce.vm = .none ∧ s.vm.findClass cls = some ce.cls := by
  have howns : e.platform.frameOwnsMonitors = true := by rw [X.admits.platform]
  have hfin : e.platform.finalization = false := by rw [X.admits.platform]
  have hpl : e.platform.magicAccessors = ({} : Platform).magicAccessors := by rw [X.admits.platform]
  have a' : ∀ x, x ∈ xh_own own ic cls Y1 names ix rx → x.holds args s none s [] = true := fun x hx => h x hx
  obtain ⟨T, Z0, L, -, Y⟩ := ThrowableC.of_atoms (args := args) howns hfin hpl (fun x hx => h x (by simp [xh_own, hx]))
  obtain ⟨Z, M, LZ, LM, hnZ⟩ := Init0T.ofS_atoms (args := args) hpl L Y (fun x hx => h x (by simp [xh_own, hx]))
  obtain ⟨P1, Ps, hlen, L1, hL, hP1m, hlink1, hlink⟩ := xh_chain (args := args) hpl hnZ names cls Y1 hrx hcls hY1 hnames (fun x hx => h x (List.mem_append.mpr (Or.inl (List.mem_append.mpr (Or.inr hx)))))
              
  have hfound : s.vm.findClass cls = some P1.m.cls := findClass_of_methodNamed hP1m
  cases Option.some.inj (hfoundX.symm.trans hfound)
  obtain ⟨c1, kX', hc1, hk, hord, -, -, hn6⟩ := Cond.instantiable_spec (a' (.instantiable cls 6) (by simp [xh_own]))
  cases Option.some.inj (hc1.symm.trans hfound)
  cases Option.some.inj (hkX.symm.trans hk)
  have hsel0 : selectMethod e.platform s.vm P1.m.cls T.fill0 = .method T.fill0 := by
    obtain ⟨c2, r2, m2, q1, q2, q3, q4, -⟩ := Cond.selects_spec (a' (.selects cls Bundle.tFill0 Bundle.tFill0) (by simp [xh_own]))
    cases Option.some.inj (q1.symm.trans hfound)
    cases Option.some.inj (q2.symm.trans (State.methodFound?_of_named Y.fill0 (by decide)))
    cases Option.some.inj (q3.symm.trans Y.fill0)
    rw [Launch.admits_selectMethod X.admits]; exact q4
  have hselF : selectMethod e.platform s.vm P1.m.cls T.fill = .method T.fill := by
    obtain ⟨c2, r2, m2, q1, q2, q3, q4, -⟩ := Cond.selects_spec (a' (.selects cls Bundle.tFill Bundle.tFill) (by simp [xh_own]))
    cases Option.some.inj (q1.symm.trans hfound)
    cases Option.some.inj (q2.symm.trans (State.methodFound?_of_named Y.fill (by decide)))
    cases Option.some.inj (q3.symm.trans Y.fill)
    rw [Launch.admits_selectMethod X.admits]; exact q4
  obtain ⟨cellS0, hcS0, hiss⟩ := Y.statics
  obtain ⟨u0, hu0⟩ := Cond.staticRefV Y.unassigned L.unassignedStatic L.statics hcS0 hiss (a' (.isRef (.static Bundle.tN "UNASSIGNED_STACK" Bundle.steD)) (by simp [xh_own]))
  obtain ⟨sen, hsen⟩ := Cond.staticRefV Y.sentinel L.sentinelStatic L.statics hcS0 hiss (a' (.isRef (.static Bundle.tN "SUPPRESSED_SENTINEL" Bundle.listD)) (by simp [xh_own]))
  obtain ⟨ci198, i198, fB, hk198, hg198, ha198, hsB, -, hnB, htB, hffB⟩ := Cond.ownField (t := .object "java/lang/Object") Y.found L.cls (by decide +kernel) (a' (.fieldLink Bundle.tN 198 Bundle.tN "backtrace" "Ljava/lang/Object;") (by simp [xh_own])) (a' (.lays Bundle.tN Bundle.tN "backtrace" "Ljava/lang/Object;") (by simp [xh_own])) e.platform hpl
  obtain ⟨cellS, hcS', heS, -, hkeep⟩ := X.same.2.2.2.2.2 T.aS cellS0 hcS0
  have hcellS : W9.heap[T.aS]? = some cellS := hcS'
  have hout' : ∀ i, (⟨T.aS, i⟩ : Loc) ∉ locs := fun i hmem => by
    have := hlocs _ hmem cellS0 hcS0
    rw [hiss] at this; cases this
  have hknownS : cellS.vm ≠ .unknown := by
    rw [heS]; intro hu
    rw [show cellS0.vm = .unknown from hu] at hiss
    cases hiss
  have hneS : T.aS ≠ a := Nat.ne_of_lt (Nat.lt_of_lt_of_le (Array.getElem?_eq_some_iff.mp hcS0).1 hnew)
  obtain ⟨iM, hffM⟩ := Y.msg
  obtain ⟨tyC, dC, hdC, hdnC⟩ := Cond.laysAt hfound hk Y.cause (a' (.lays cls Bundle.tN "cause" "Ljava/lang/Throwable;") (by simp [xh_own]))
  obtain ⟨tyS, dS, hdS, hdnS⟩ := Cond.laysAt hfound hk Y.stack (a' (.lays cls Bundle.tN "stackTrace" Bundle.steD) (by simp [xh_own]))
  obtain ⟨tyP, dP, hdP, hdnP⟩ := Cond.laysAt hfound hk Y.supp (a' (.lays cls Bundle.tN "suppressedExceptions" Bundle.listD) (by simp [xh_own]))
  obtain ⟨tyM, dM, hdM, hdnM⟩ := Cond.laysAt hfound hk hffM (a' (.lays cls Bundle.tN "detailMessage" "Ljava/lang/String;") (by simp [xh_own]))
  obtain ⟨tyB, dB, hdB, hdnB⟩ := Cond.laysAt hfound hk hffB (a' (.lays cls Bundle.tN "backtrace" "Ljava/lang/Object;") (by simp [xh_own]))
  have bC := Cond.laysApart hdB hdC hdnB hdnC (by rw [hnB, Y.causeName]; decide)
  have bS := Cond.laysApart hdB hdS hdnB hdnS (by rw [hnB, Y.stackName]; decide)
  have bP := Cond.laysApart hdB hdP hdnB hdnP (by rw [hnB, Y.suppName]; decide)
  have hskip : SkipFacts T e.platform s (fun u => u) u0 ((preparedCellV T.toThrowableT (freshCell P1.m.cls kX) a u0 sen).withEntry W9.cur) :=
    ⟨{ ci198 := ci198, i198 := i198, fBack := fB }, ⟨hk198, hg198, ha198, hsB⟩, by
      have := fresh_default (c := P1.m.cls) tyB
      rw [htB] at this
      simpa [preparedCellV, Cell.setSlot, Cell.withEntry, Array.getElem?_setIfInBounds, bC, bS, bP, bC.symm, bS.symm, bP.symm, defaultValue] using this, fun _ _ => rfl⟩
                                     
  obtain ⟨tm, methC, cdC, kC, vm₁, hnC, -, -, -, -, -, -, -, hW₁, st1⟩ := Steps.initColdS (tb := p.tables) (e := e) (below := below) (s := s) (U := W9) X.here hexec X.warmed hpl hown (t := Bundle.initS cls) rfl rfl (Bundle.fit_spec hcls).2
    (a' (.methodLink own ic (Bundle.initS cls)) (by simp [xh_own])) (h (.instanceMethod (Bundle.initS cls)) (by simp [xh_own, Bundle.passSAtoms])) (bytes := rx) (maxL := 2) (h (.code (Bundle.initS cls) rx 2 none) (by simp [xh_own, Bundle.passSAtoms]))
    (f := g) hg (a := a) (msg := msg) (rest := .ref a :: rest) hstack hd6
  cases Option.some.inj (hnC.symm.trans hP1m)
  have X₁ := X.noted hW₁
                                 
  obtain ⟨vm₂, X₂, st2⟩ := X₁.ctorMessageOffV hexec (g := { g with stack := .ref a :: rest }) hg hsize T L Z LZ M LM (P1 :: Ps)
    (fun P hP => by rcases List.mem_cons.mp hP with rfl | hP; exact L1; exact hL P hP) ⟨hlink1, hlink⟩ (u0 := u0) (sen := sen) (self := a) hmsg (cell := freshCell P1.m.cls kX) (cellS := cellS)
    hcell (fun _ => by simp) (by simp) rfl rfl hsel0 hselF hcellS hneS hknownS (by rw [hkeep _ (hout' _)]; exact hu0) (by rw [hkeep _ (hout' _)]; exact hsen)
    (Takes.of_laid hk hord tyC (by rw [Y.causeType]; rfl)) (Takes.of_laid hk hord tyS (by rw [Y.stackType]; exact fits_refV_array _ u0)) (Takes.of_laid hk hord tyP (by rw [Y.suppType]; exact fits_refV_object _ sen))
    (Takes.of_laid hk hord tyM (by rw [Y.msgType]; exact fits_refV_object _ ⟨msg, hmsg⟩)) Y.objLocals hskip htr [] hd6
    (by simp only [List.length_cons, hlen]; omega) (by simp only [List.length_cons, hlen]; exact hRlocals)
                                    
  obtain ⟨hwalk, hrun, hended, hWU, hsame⟩ := X₂.athrowLeaves hexec (g := { g with stack := .ref a :: rest, pc := g.pc + 3 }) hg hlocked hentered hout (a := a) (rest := rest) rfl hd9
  have hlt : a < ((W9.setVm vm₁).setVm vm₂).heap.size := (Array.getElem?_eq_some_iff.mp hcell).1
  have hU := heapAt_setCell_self (s := (W9.setVm vm₁).setVm vm₂) (plainBareV T.toThrowableT (freshCell P1.m.cls kX) a u0 sen msg) hlt
  refine ⟨_, st1 _ (fun acts => ?_), hrun, hended, hWU, hsame.weaken (fun y hy hlt' => ?_) (Nat.le_refl _) (Nat.le_refl _), _, hU, ?_⟩
  · rw [doInvoke_state]
    exact st2 _ hwalk
  · rcases List.mem_append.mp hy with h1 | h1
    · exact h1
    · exfalso
      have hb : y.base = a := by
        simp only [List.mem_cons, List.not_mem_nil, or_false] at h1
        rcases h1 with rfl | rfl | rfl | rfl | rfl <;> rfl
      rw [hb] at hlt'
      exact Nat.not_lt.mpr hnew hlt'
  · exact ⟨rfl, hfound⟩
end
section
variable {p : Program} {l : Launch} {e : Env} {R : Room} {s : State} {m : MethodId} {args : Array Value} {below : List Frame} {meth : Method} {c : Code} {H : Heap} {locs : List Loc} {cells slots : Nat} {Q : State → Prop}
variable {mc ms : Nat} {free : Addr → Prop} {A0 A1 : Nat → Prop} {H0 : Heap} {a : Array Value} {ls : Array Slot} {st0 rest : List Value}
variable {Qc : Array Value → State → Outcome → State → Prop} {XC : String → State → State → Prop}
/-- 'throw new E("text")': new; dup; ldc; invokespecial; athrow -/
theorem xh_throwS {cc : ByteArray} {pc : Nat} (hexec : p.tables.exec = Jvm.exec) (hb : c.code = cc) (hl : l.stackTraces = false) {own cls Y1 text : String} {names : List String} {ik is ic ix mc ms sa : Nat} {rx : ByteArray} (hrx : xh_six ix rx) {A : Nat → Prop}
    (hown : s.vm.findClass own = some m.cls) (hcls : Bundle.fit cls = true) (hY1 : Bundle.fit Y1 = true) (hnames : ∀ n ∈ names, Bundle.fit n = true)
    (hk : (Cond.classLink own ik cls).before args s = true) (hini : (Cond.initialized cls).before args s = true) (hstr : vk_R own is text sa s) (hat : ∀ w ∈ xh_at own ic cls Y1 names ix rx, w.before args s = true)
    (hgood : ∀ w ∈ Cond.classLink own ik cls :: Cond.initialized cls :: xh_at own ic cls Y1 names ix rx, vx_ot w = true)
    (hU : vx_Zq Bundle.tN "UNASSIGNED_STACK" Bundle.steD A s s.heap) (hN : vx_Zq Bundle.tN "SUPPRESSED_SENTINEL" Bundle.listD A s s.heap) (hS : va_S A s.heap H locs) (hsize : ls.size = c.maxLocals)
    (d0 : decode cc pc = .ok (.new ik, 3)) (d3 : decode cc (pc + 3) = .ok (.dup, 1)) (d4 : decode cc (pc + 4) = .ok (.ldc is, 2)) (d6 : decode cc (pc + 6) = .ok (.invokespecial ic, 3)) (d9 : decode cc (pc + 9) = .ok (.athrow, 1))
    (hout : ∀ x ∈ c.exceptionTable.toList, covers x (pc + 9) = false)
    (hRframes : names.length + 4 < R.frames) (hRlocals : (rest.map fun v => v.category).sum + (13 * (names.length + 2) + 43) ≤ R.locals) (hRcells : cells + 1 ≤ R.cells) (hRslots : slots + 6 ≤ R.slots) (hlocks : meth.locks = false)
    (hx : ∀ t : State, s.vm.Alike t.vm → H.size ≤ t.heap.size → (∀ q : Nat, q < H.size → t.heap[q]? = H[q]?) → XC cls s t)
    (hf : ∀ z ∈ locs, free z.base) (hc : cells + 1 ≤ mc) (hs : slots + 6 ≤ ms) :
    W p l e R s m args below meth c H locs cells slots (vx_MQ below Qc XC args s mc ms free) (F0 m pc ls rest) := by
  intro T hT X
  have htr : e.platform.stackTraces = false := (show e.platform.stackTraces = l.stackTraces by rw [X.admits.platform]).trans hl
  have Y := vx_rebase X (R' := { frames := R.frames, locals := R.locals, cells := 1, slots := 6 }) (Nat.le_refl _) (Nat.le_refl _) hRcells hRslots
  obtain ⟨s', hA⟩ : ∃ z, z = (T.setVm s.vm).setFrames (.invoking m args :: below) := ⟨_, rfl⟩
  rw [← hA] at Y
  have hvm : s'.vm = s.vm := by rw [hA]; rfl
  have hhp : s'.heap = H := by rw [hA]; exact hT
  have hW0 : s.WarmedH s'.vm := by rw [hvm]; exact State.WarmedH.refl s
  have hat' : ∀ w ∈ xh_at own ic cls Y1 names ix rx, w.before args s' = true := fun w hw => vx_ot_at hW0 hvm.symm (hgood w (List.mem_cons_of_mem _ (List.mem_cons_of_mem _ hw))) (hat w hw)
  have hk' : (Cond.classLink own ik cls).before args s' = true := vx_ot_at hW0 hvm.symm (hgood _ List.mem_cons_self) hk
  have hini' : (Cond.initialized cls).before args s' = true := vx_ot_at hW0 hvm.symm (hgood _ (List.mem_cons_of_mem _ List.mem_cons_self)) hini
  have hU' : vx_Zq Bundle.tN "UNASSIGNED_STACK" Bundle.steD A s' s'.heap := by rw [hhp]; exact vx_Zq.moved hW0.alike (hU.kept hS.2.1)
  have hN' : vx_Zq Bundle.tN "SUPPRESSED_SENTINEL" Bundle.listD A s' s'.heap := by rw [hhp]; exact vx_Zq.moved hW0.alike (hN.kept hS.2.1)
  have h : ∀ w ∈ xh_own own ic cls Y1 names ix rx, w.before args s' = true := vx_own hat' (vx_isRefq hU'.1) (vx_isRefq hN'.1) hU'.2.word hN'.2.word
  have hown' : s'.vm.findClass own = some m.cls := by rw [hvm]; exact hown
  have hins : (Cond.instantiable cls 6).before args s' = true := h _ (by simp [xh_own])
  obtain ⟨vm₁, cX, kX, hfX, hkX, -, -, X₁, st1⟩ := Y.newCold hexec (own := own) (C := cls) (index := ik) (n := 6) hown' hk' hins hini'
    (g := F0 m pc ls rest) rfl (by rw [hb]; exact d0) (Nat.le_refl _) (Nat.le_refl _)
  generalize hT1 : (T.setVm vm₁).pushCell { cls := cX, slots := kX.instanceTypes.map defaultValue, vm := .none } = T1 at X₁ st1
  have hcat : (Value.ref T.heap.size).category = 1 := rfl
  have hcellA : T1.heap[T.heap.size]? = some (freshCell cX kX) := by rw [← hT1]; exact State.heap_pushCell_size _ _
  have d3' : decode c.code (pc + 3) = .ok (.dup, 1) := by rw [hb]; exact d3
  have d4' : decode c.code (pc + 4) = .ok (.ldc is, 2) := by rw [hb]; exact d4
  have hstr' : vk_R own is text sa s' := vk_R.warm hW0 hstr
  obtain ⟨U, hsteps, hrun, hend, hW, hsame, ce, hce, hOv, hOc⟩ := xh_ctorS X₁ hexec htr hrx (own := own) (cls := cls) (Y1 := Y1) (names := names) (ic := ic) hown' hcls hY1 hnames h (fun x hx => nomatch hx) hfX hkX hcellA (by rw [hhp, hT]; exact Nat.le_refl _) (msg := .ref sa) rfl
    (g := { method := m, pc := pc + 6, locals := ls, stack := .ref sa :: .ref T.heap.size :: .ref T.heap.size :: rest, locked := none }) rfl hsize rfl rfl (rest := rest) rfl
    (by rw [hb]; exact d6) (by rw [hb]; exact d9) hout hRframes (by simp only [List.map_cons, List.sum_cons, hcat]; omega) hlocks
  obtain ⟨f1, f2⟩ := vx_frame hsame
  rw [hhp] at f1 f2
  have hWs : s.WarmedH U.vm := State.WarmedH.trans hW0 hW
  have hcl : s.vm.findClass cls = some ce.cls := by
    have h9 := hOc
    rw [hvm] at h9
    exact h9
  have hall : s.sameButNew ({ U with vm := s.vm } : State) locs mc ms := by
    subst hA
    obtain ⟨e1, e2⟩ := hsame
    rw [State.setFrames_setFrames] at e1
    have h2 : (T.setVm s.vm).sameButNew ({ U with vm := s.vm } : State) [] (0 + 1) (0 + 6) := ⟨e1, e2⟩
    have h3 := X.same.trans h2
    rw [List.append_nil] at h3
    exact h3.mono hc hs
  refine ⟨U, ?_, .threw T.heap.size, hrun, hend, Or.inr ⟨T.heap.size, rfl, cls, ce, locs, hx U hWs.alike f1 (fun q hq => f2 q hq (fun z hz => nomatch hz)), hce, hOv, hcl, hWs, hall, hf⟩⟩
  refine st1 _ ?_
  show Steps p.tables e below (T1.setTop { method := m, pc := pc + 3, locals := ls, stack := .ref T.heap.size :: rest, locked := none }) _
  jvm_step X₁.here [X₁.here.top, hexec, d3', Value.category]
  exact X₁.ldcString hexec (own := own) (text := text) (index := is) (a := sa) hown' hstr'.1 hstr'.2
    (g := { method := m, pc := pc + 4, locals := ls, stack := .ref T.heap.size :: .ref T.heap.size :: rest, locked := none }) rfl d4' _ hsteps
/-- 'throw new E("text")', the text by a wide index -/
theorem xh_throwSW {cc : ByteArray} {pc : Nat} (hexec : p.tables.exec = Jvm.exec) (hb : c.code = cc) (hl : l.stackTraces = false) {own cls Y1 text : String} {names : List String} {ik is ic ix mc ms sa : Nat} {rx : ByteArray} (hrx : xh_six ix rx) {A : Nat → Prop}
    (hown : s.vm.findClass own = some m.cls) (hcls : Bundle.fit cls = true) (hY1 : Bundle.fit Y1 = true) (hnames : ∀ n ∈ names, Bundle.fit n = true)
    (hk : (Cond.classLink own ik cls).before args s = true) (hini : (Cond.initialized cls).before args s = true) (hstr : vk_R own is text sa s) (hat : ∀ w ∈ xh_at own ic cls Y1 names ix rx, w.before args s = true)
    (hgood : ∀ w ∈ Cond.classLink own ik cls :: Cond.initialized cls :: xh_at own ic cls Y1 names ix rx, vx_ot w = true)
    (hU : vx_Zq Bundle.tN "UNASSIGNED_STACK" Bundle.steD A s s.heap) (hN : vx_Zq Bundle.tN "SUPPRESSED_SENTINEL" Bundle.listD A s s.heap) (hS : va_S A s.heap H locs) (hsize : ls.size = c.maxLocals)
    (d0 : decode cc pc = .ok (.new ik, 3)) (d3 : decode cc (pc + 3) = .ok (.dup, 1)) (d4 : decode cc (pc + 4) = .ok (.ldc_w is, 3)) (d7 : decode cc (pc + 7) = .ok (.invokespecial ic, 3)) (d10 : decode cc (pc + 10) = .ok (.athrow, 1))
    (hout : ∀ x ∈ c.exceptionTable.toList, covers x (pc + 10) = false)
    (hRframes : names.length + 4 < R.frames) (hRlocals : (rest.map fun v => v.category).sum + (13 * (names.length + 2) + 43) ≤ R.locals) (hRcells : cells + 1 ≤ R.cells) (hRslots : slots + 6 ≤ R.slots) (hlocks : meth.locks = false)
    (hx : ∀ t : State, s.vm.Alike t.vm → H.size ≤ t.heap.size → (∀ q : Nat, q < H.size → t.heap[q]? = H[q]?) → XC cls s t)
    (hf : ∀ z ∈ locs, free z.base) (hc : cells + 1 ≤ mc) (hs : slots + 6 ≤ ms) :
    W p l e R s m args below meth c H locs cells slots (vx_MQ below Qc XC args s mc ms free) (F0 m pc ls rest) := by
  intro T hT X
  have htr : e.platform.stackTraces = false := (show e.platform.stackTraces = l.stackTraces by rw [X.admits.platform]).trans hl
  have Y := vx_rebase X (R' := { frames := R.frames, locals := R.locals, cells := 1, slots := 6 }) (Nat.le_refl _) (Nat.le_refl _) hRcells hRslots
  obtain ⟨s', hA⟩ : ∃ z, z = (T.setVm s.vm).setFrames (.invoking m args :: below) := ⟨_, rfl⟩
  rw [← hA] at Y
  have hvm : s'.vm = s.vm := by rw [hA]; rfl
  have hhp : s'.heap = H := by rw [hA]; exact hT
  have hW0 : s.WarmedH s'.vm := by rw [hvm]; exact State.WarmedH.refl s
  have hat' : ∀ w ∈ xh_at own ic cls Y1 names ix rx, w.before args s' = true := fun w hw => vx_ot_at hW0 hvm.symm (hgood w (List.mem_cons_of_mem _ (List.mem_cons_of_mem _ hw))) (hat w hw)
  have hk' : (Cond.classLink own ik cls).before args s' = true := vx_ot_at hW0 hvm.symm (hgood _ List.mem_cons_self) hk
  have hini' : (Cond.initialized cls).before args s' = true := vx_ot_at hW0 hvm.symm (hgood _ (List.mem_cons_of_mem _ List.mem_cons_self)) hini
  have hU' : vx_Zq Bundle.tN "UNASSIGNED_STACK" Bundle.steD A s' s'.heap := by rw [hhp]; exact vx_Zq.moved hW0.alike (hU.kept hS.2.1)
  have hN' : vx_Zq Bundle.tN "SUPPRESSED_SENTINEL" Bundle.listD A s' s'.heap := by rw [hhp]; exact vx_Zq.moved hW0.alike (hN.kept hS.2.1)
  have h : ∀ w ∈ xh_own own ic cls Y1 names ix rx, w.before args s' = true := vx_own hat' (vx_isRefq hU'.1) (vx_isRefq hN'.1) hU'.2.word hN'.2.word
  have hown' : s'.vm.findClass own = some m.cls := by rw [hvm]; exact hown
  have hins : (Cond.instantiable cls 6).before args s' = true := h _ (by simp [xh_own])
  obtain ⟨vm₁, cX, kX, hfX, hkX, -, -, X₁, st1⟩ := Y.newCold hexec (own := own) (C := cls) (index := ik) (n := 6) hown' hk' hins hini'
    (g := F0 m pc ls rest) rfl (by rw [hb]; exact d0) (Nat.le_refl _) (Nat.le_refl _)
  generalize hT1 : (T.setVm vm₁).pushCell { cls := cX, slots := kX.instanceTypes.map defaultValue, vm := .none } = T1 at X₁ st1
  have hcat : (Value.ref T.heap.size).category = 1 := rfl
  have hcellA : T1.heap[T.heap.size]? = some (freshCell cX kX) := by rw [← hT1]; exact State.heap_pushCell_size _ _
  have d3' : decode c.code (pc + 3) = .ok (.dup, 1) := by rw [hb]; exact d3
  have d4' : decode c.code (pc + 4) = .ok (.ldc_w is, 3) := by rw [hb]; exact d4
  have hstr' : vk_R own is text sa s' := vk_R.warm hW0 hstr
  obtain ⟨U, hsteps, hrun, hend, hW, hsame, ce, hce, hOv, hOc⟩ := xh_ctorS X₁ hexec htr hrx (own := own) (cls := cls) (Y1 := Y1) (names := names) (ic := ic) hown' hcls hY1 hnames h (fun x hx => nomatch hx) hfX hkX hcellA (by rw [hhp, hT]; exact Nat.le_refl _) (msg := .ref sa) rfl
    (g := { method := m, pc := pc + 7, locals := ls, stack := .ref sa :: .ref T.heap.size :: .ref T.heap.size :: rest, locked := none }) rfl hsize rfl rfl (rest := rest) rfl
    (by rw [hb]; exact d7) (by rw [hb]; exact d10) hout hRframes (by simp only [List.map_cons, List.sum_cons, hcat]; omega) hlocks
  obtain ⟨f1, f2⟩ := vx_frame hsame
  rw [hhp] at f1 f2
  have hWs : s.WarmedH U.vm := State.WarmedH.trans hW0 hW
  have hcl : s.vm.findClass cls = some ce.cls := by
    have h9 := hOc
    rw [hvm] at h9
    exact h9
  have hall : s.sameButNew ({ U with vm := s.vm } : State) locs mc ms := by
    subst hA
    obtain ⟨e1, e2⟩ := hsame
    rw [State.setFrames_setFrames] at e1
    have h2 : (T.setVm s.vm).sameButNew ({ U with vm := s.vm } : State) [] (0 + 1) (0 + 6) := ⟨e1, e2⟩
    have h3 := X.same.trans h2
    rw [List.append_nil] at h3
    exact h3.mono hc hs
  refine ⟨U, ?_, .threw T.heap.size, hrun, hend, Or.inr ⟨T.heap.size, rfl, cls, ce, locs, hx U hWs.alike f1 (fun q hq => f2 q hq (fun z hz => nomatch hz)), hce, hOv, hcl, hWs, hall, hf⟩⟩
  refine st1 _ ?_
  show Steps p.tables e below (T1.setTop { method := m, pc := pc + 3, locals := ls, stack := .ref T.heap.size :: rest, locked := none }) _
  jvm_step X₁.here [X₁.here.top, hexec, d3', Value.category]
  exact X₁.ldcStringW hexec (own := own) (text := text) (index := is) (a := sa) hown' hstr'.1 hstr'.2
    (g := { method := m, pc := pc + 4, locals := ls, stack := .ref T.heap.size :: .ref T.heap.size :: rest, locked := none }) rfl d4' _ hsteps
end
end
section
/-! the evaluator: a method's body run over abstract cells (exact numbers, references by their places in the world's list, named unknowns .retAddr u) -/
abbrev xe_C : Type := (Nat × Nat × List (Nat × Value)) ⊕ (Nat × List Value)
abbrev xe_W : Type := List xe_C
abbrev xe_I : Type := Nat × Instr × Nat × List Nat
/-- code, number of arguments (the receiver too), kind of the answer (0 none, 1 int, 2 long, 3 reference), cells, slots, handlers (from, to, handler, exception's number) -/
abbrev xe_M : Type := List xe_I × Nat × Nat × Nat × Nat × List (Nat × Nat × Nat × Nat)
/-- ranges of the unknowns; what an operation with an unknown gives; the script's numbers; the unknowns that are bytes -/
abbrev xe_G : Type := List (Nat × Int × Int) × List ((Nat × Value × Value) × Value) × List Value × List Nat
noncomputable def xe_nth {α : Type} (l : List α) : Nat → Option α := List.rec (motive := fun _ => Nat → Option α) (fun _ => none) (fun a _ ih i => Nat.rec (motive := fun _ => Option α) (some a) (fun j _ => ih j) i) l
noncomputable def xe_set {α : Type} (l : List α) (v : α) : Nat → List α := List.rec (motive := fun _ => Nat → List α) (fun _ => []) (fun a t ih i => Nat.rec (motive := fun _ => List α) (v :: t) (fun j _ => a :: ih j) i) l
noncomputable def xe_look (l : List (Nat × Value)) (i : Nat) : Option Value := List.rec (motive := fun _ => Option Value) none (fun a _ ih => bif Nat.beq a.1 i then some a.2 else ih) l
noncomputable def xe_flt (p : Nat × Value → Bool) (l : List (Nat × Value)) : List (Nat × Value) := List.rec (motive := fun _ => List (Nat × Value)) [] (fun a _ ih => bif p a then a :: ih else ih) l
noncomputable def xe_at (l : List xe_I) (pc : Nat) : List xe_I := List.rec (motive := fun _ => List xe_I) [] (fun a t ih => bif Nat.beq a.1 pc then a :: t else ih) l
noncomputable def xe_mk (x : Int32) : Value := Nat.rec (motive := fun _ => Value) (.int 0) (fun n _ => .int (Int32.ofNat (n + 1))) x.toBitVec.toNat
noncomputable def xe_mkL (x : Int64) : Value := Nat.rec (motive := fun _ => Value) (.long 0) (fun n _ => .long (Int64.ofNat (n + 1))) x.toBitVec.toNat
noncomputable def xe_rl (l : List (Nat × Int × Int)) (i : Nat) : Option (Int × Int) := List.rec (motive := fun _ => Option (Int × Int)) none (fun a _ ih => bif Nat.beq a.1 i then some a.2 else ih) l
/-- n values off the stack, the deepest first, and what is left -/
noncomputable def xe_pop (n : Nat) : List Value → List Value → Option (List Value × List Value) := Nat.rec (motive := fun _ => List Value → List Value → Option (List Value × List Value)) (fun st acc => some (acc, st)) (fun _ ih st acc => match st with
  | [] => none
  | v :: st => ih st (v :: acc)) n
noncomputable def xe_rng (G : xe_G) : Value → Option (Int × Int)
  | .int x => some (x.toInt, x.toInt)
  | .retAddr u => xe_rl G.1 u
  | _ => none
def xe_lt (a b : Int × Int) : Option Bool := if a.2 < b.1 then some true else if b.2 ≤ a.1 then some false else none
def xe_eq (a b : Int × Int) : Option Bool := if a.1 = a.2 ∧ b.1 = b.2 ∧ a.1 = b.1 then some true else if a.2 < b.1 ∨ b.2 < a.1 then some false else none
def xe_neg (o : Option Bool) : Option Bool := match o with
  | some b => some (!b)
  | none => none
/-- numbers in the order of their signs -/
def xe_bi (x : Int32) : Nat := (x.toBitVec.toNat + 2147483648) % 4294967296
noncomputable def xe_cmpR (G : xe_G) (c : ClassFile.Cond) (a b : Value) : Option Bool :=
  match xe_rng G a, xe_rng G b with
  | some ra, some rb => match c with
    | .lt => xe_lt ra rb
    | .ge => xe_neg (xe_lt ra rb)
    | .gt => xe_lt rb ra
    | .le => xe_neg (xe_lt rb ra)
    | .eq => xe_eq ra rb
    | .ne => xe_neg (xe_eq ra rb)
  | _, _ => none
def xe_cmpI (c : ClassFile.Cond) (a b : Nat) : Bool := match c with
  | .lt => Nat.blt a b
  | .ge => Nat.ble b a
  | .gt => Nat.blt b a
  | .le => Nat.ble a b
  | .eq => Nat.beq a b
  | .ne => !Nat.beq a b
noncomputable def xe_cmp (G : xe_G) (c : ClassFile.Cond) (a b : Value) : Option Bool := match a, b with
  | .int x, .int y => some (xe_cmpI c (xe_bi x) (xe_bi y))
  | _, _ => xe_cmpR G c a b
noncomputable def xe_sd (l : List ((Nat × Value × Value) × Value)) (op : Nat) (x y : Value) : Option Value := List.rec (motive := fun _ => Option Value) none (fun a _ ih => if a.1 = (op, x, y) then some a.2 else ih) l
/-- the numbers' operations -/
def xe_op (op : Nat) (x y : Int32) : Int32 := match op with
  | 0 => x + y
  | 1 => x - y
  | 2 => x * y
  | 3 => x &&& y
  | 4 => x ||| y
  | 5 => x ^^^ y
  | 6 => x <<< (y &&& 31)
  | 7 => x >>> (y &&& 31)
  | 8 => (x.toUInt32 >>> (y.toUInt32 &&& Int32.toUInt32 31)).toInt32
  | 9 => -x
  | _ => x.toInt8.toInt32
noncomputable def xe_bin (G : xe_G) (op : Nat) (a b : Value) : Option Value := match a, b with
  | .int x, .int y => some (xe_mk (xe_op op x y))
  | _, _ => xe_sd G.2.1 op a b
noncomputable def xe_s1 (al : List (Nat × Value)) (i : Nat) (v : Value) : List (Nat × Value) := (i, v) :: xe_flt (fun q => !(Nat.beq q.1 i) && !(Nat.beq (q.1 + 1) i && Nat.beq q.2.category 2)) al
noncomputable def xe_s2 (al : List (Nat × Value)) (i : Nat) (v : Value) : List (Nat × Value) := (i, v) :: xe_flt (fun q => !(Nat.beq q.1 i) && (!(Nat.beq q.1 (i + 1)) && !(Nat.beq (q.1 + 1) i && Nat.beq q.2.category 2))) al
noncomputable def xe_get (ty : Nat) (sp : List (Nat × Value)) (i : Nat) : Value := match xe_look sp i with
  | some v => v
  | none => if ty = 2 then .long 0 else .int 0
noncomputable def xe_put (ty : Nat) (sp : List (Nat × Value)) (i : Nat) (v : Value) : List (Nat × Value) := if xe_get ty sp i = v then sp else (i, v) :: xe_flt (fun q => !(Nat.beq q.1 i)) sp
/-- of which kind a value is: 0 a number, 1 a reference, 2 a long -/
def xe_kd (k : Nat) (v : Value) : Bool := match v with
  | .int _ => Nat.beq k 0
  | .retAddr _ => Nat.beq k 0
  | .ref _ => Nat.beq k 1
  | .float _ => Nat.beq k 1
  | .long _ => Nat.beq k 2
  | _ => false
def xe_c1 (v : Value) : Bool := match v with
  | .int _ => true
  | .retAddr _ => true
  | .ref _ => true
  | .float _ => true
  | _ => false
/-- what fits a field: 0 int, 1 boolean, 2 long, 3 a reference -/
def xe_fit (k : Nat) (v : Value) : Bool := match k with
  | 0 => xe_kd 0 v
  | 1 => decide (v = .int 0) || decide (v = .int 1)
  | 2 => xe_kd 2 v
  | 3 => xe_kd 1 v
  | _ => false
/-- references lie below n -/
def xe_okv (n : Nat) (v : Value) : Bool := match v with
  | .ref k => Nat.blt k n
  | _ => true
noncomputable def xe_okS (n : Nat) (l : List Value) : Bool := List.rec (motive := fun _ => Bool) true (fun a _ ih => xe_okv n a && ih) l
noncomputable def xe_okA (n : Nat) (l : List (Nat × Value)) : Bool := List.rec (motive := fun _ => Bool) true (fun a _ ih => xe_okv n a.2 && ih) l
noncomputable def xe_okC (n : Nat) (c : xe_C) : Bool := match c with
  | .inl _ => true
  | .inr o => xe_okS n o.2
noncomputable def xe_okW (n : Nat) (w : xe_W) : Bool := List.rec (motive := fun _ => Bool) true (fun a _ ih => xe_okC n a && ih) w
noncomputable def xe_ok (n : Nat) (al : List (Nat × Value)) (st : List Value) (w : xe_W) : Bool := xe_okA n al && (xe_okS n st && xe_okW n w)
def xe_tgt (pc : Nat) (off : Int) : Option Nat := match (pc : Int) + off with
  | .ofNat t => some t
  | _ => none
/-- what is behind an instruction that neither calls nor returns -/
abbrev xe_N : Type := Nat × List (Nat × Value) × List Value × xe_W × Nat × Nat
def xe_aty : ArrayType → Nat
  | .byte => 0
  | .int => 1
  | .long => 2
  | .boolean => 3
  | _ => 9
def xe_nn (x : Int32) : Option Nat := match x.toInt with
  | .ofNat k => some k
  | _ => none
abbrev xe_F : Type := xe_G → List (List Value) → Nat → Nat → Nat → Nat → List Nat → List (Nat × Value) → List Value → xe_W → Nat → Nat → Option xe_N
noncomputable def xe_iL (kd k : Nat) (G : xe_G) (Z : List (List Value)) (mc ms pc len : Nat) (res : List Nat) (al : List (Nat × Value)) (st : List Value) (w : xe_W) (nc ns : Nat) : Option xe_N := match xe_look al k with
  | some v => bif xe_kd kd v then some (pc + len, al, v :: st, w, nc, ns) else none
  | none => none
noncomputable def xe_iC (v : Value) (G : xe_G) (Z : List (List Value)) (mc ms pc len : Nat) (res : List Nat) (al : List (Nat × Value)) (st : List Value) (w : xe_W) (nc ns : Nat) : Option xe_N := some (pc + len, al, v :: st, w, nc, ns)
noncomputable def xe_iK (G : xe_G) (Z : List (List Value)) (mc ms pc len : Nat) (res : List Nat) (al : List (Nat × Value)) (st : List Value) (w : xe_W) (nc ns : Nat) : Option xe_N := match res with
  | [13, n] => some (pc + len, al, .int (Int32.ofNat n) :: st, w, nc, ns)
  | _ => none
noncomputable def xe_iS (kd k : Nat) (G : xe_G) (Z : List (List Value)) (mc ms pc len : Nat) (res : List Nat) (al : List (Nat × Value)) (st : List Value) (w : xe_W) (nc ns : Nat) : Option xe_N := match st with
  | v :: st => bif xe_kd kd v then some (pc + len, xe_s1 al k v, st, w, nc, ns) else none
  | _ => none
noncomputable def xe_iS2 (k : Nat) (G : xe_G) (Z : List (List Value)) (mc ms pc len : Nat) (res : List Nat) (al : List (Nat × Value)) (st : List Value) (w : xe_W) (nc ns : Nat) : Option xe_N := match st with
  | v :: st => bif xe_kd 2 v then some (pc + len, xe_s2 al k v, st, w, nc, ns) else none
  | _ => none
noncomputable def xe_iInc (k : Nat) (n : Int) (G : xe_G) (Z : List (List Value)) (mc ms pc len : Nat) (res : List Nat) (al : List (Nat × Value)) (st : List Value) (w : xe_W) (nc ns : Nat) : Option xe_N := match xe_look al k with
  | some (.int x) => some (pc + len, xe_s1 al k (xe_mk (x + Int32.ofInt n)), st, w, nc, ns)
  | _ => none
noncomputable def xe_iDup (G : xe_G) (Z : List (List Value)) (mc ms pc len : Nat) (res : List Nat) (al : List (Nat × Value)) (st : List Value) (w : xe_W) (nc ns : Nat) : Option xe_N := match st with
  | v :: st => bif xe_c1 v then some (pc + len, al, v :: v :: st, w, nc, ns) else none
  | _ => none
noncomputable def xe_iDup2 (G : xe_G) (Z : List (List Value)) (mc ms pc len : Nat) (res : List Nat) (al : List (Nat × Value)) (st : List Value) (w : xe_W) (nc ns : Nat) : Option xe_N := match st with
  | v :: u :: st => bif xe_c1 v && xe_c1 u then some (pc + len, al, v :: u :: v :: u :: st, w, nc, ns) else none
  | _ => none
noncomputable def xe_iGoto (off : Int) (G : xe_G) (Z : List (List Value)) (mc ms pc len : Nat) (res : List Nat) (al : List (Nat × Value)) (st : List Value) (w : xe_W) (nc ns : Nat) : Option xe_N := match xe_tgt pc off with
  | some t => some (t, al, st, w, nc, ns)
  | none => none
noncomputable def xe_iIf (c : ClassFile.Cond) (off : Int) (G : xe_G) (Z : List (List Value)) (mc ms pc len : Nat) (res : List Nat) (al : List (Nat × Value)) (st : List Value) (w : xe_W) (nc ns : Nat) : Option xe_N := match st with
  | v :: st => match xe_cmp G c v (.int 0), xe_tgt pc off with
    | some true, some t => some (t, al, st, w, nc, ns)
    | some false, some _ => some (pc + len, al, st, w, nc, ns)
    | _, _ => none
  | _ => none
noncomputable def xe_iCmp (c : ClassFile.Cond) (off : Int) (G : xe_G) (Z : List (List Value)) (mc ms pc len : Nat) (res : List Nat) (al : List (Nat × Value)) (st : List Value) (w : xe_W) (nc ns : Nat) : Option xe_N := match st with
  | u :: v :: st => match xe_cmp G c v u, xe_tgt pc off with
    | some true, some t => some (t, al, st, w, nc, ns)
    | some false, some _ => some (pc + len, al, st, w, nc, ns)
    | _, _ => none
  | _ => none
noncomputable def xe_iB (op : Nat) (G : xe_G) (Z : List (List Value)) (mc ms pc len : Nat) (res : List Nat) (al : List (Nat × Value)) (st : List Value) (w : xe_W) (nc ns : Nat) : Option xe_N := match st with
  | u :: v :: st => match xe_bin G op v u with
    | some x => bif xe_kd 0 v && xe_kd 0 u then some (pc + len, al, x :: st, w, nc, ns) else none
    | none => none
  | _ => none
noncomputable def xe_iU (op : Nat) (G : xe_G) (Z : List (List Value)) (mc ms pc len : Nat) (res : List Nat) (al : List (Nat × Value)) (st : List Value) (w : xe_W) (nc ns : Nat) : Option xe_N := match st with
  | v :: st => match xe_bin G op v (.int 0) with
    | some x => bif xe_kd 0 v then some (pc + len, al, x :: st, w, nc, ns) else none
    | none => none
  | _ => none
noncomputable def xe_iDiv (G : xe_G) (Z : List (List Value)) (mc ms pc len : Nat) (res : List Nat) (al : List (Nat × Value)) (st : List Value) (w : xe_W) (nc ns : Nat) : Option xe_N := match st with
  | .int y :: .int x :: st => if y = 0 then none else some (pc + len, al, xe_mk (x / y) :: st, w, nc, ns)
  | _ => none
noncomputable def xe_iI2l (G : xe_G) (Z : List (List Value)) (mc ms pc len : Nat) (res : List Nat) (al : List (Nat × Value)) (st : List Value) (w : xe_W) (nc ns : Nat) : Option xe_N := match st with
  | .int x :: st => some (pc + len, al, xe_mkL x.toInt64 :: st, w, nc, ns)
  | _ => none
noncomputable def xe_iLadd (G : xe_G) (Z : List (List Value)) (mc ms pc len : Nat) (res : List Nat) (al : List (Nat × Value)) (st : List Value) (w : xe_W) (nc ns : Nat) : Option xe_N := match st with
  | .long y :: .long x :: st => some (pc + len, al, xe_mkL (x + y) :: st, w, nc, ns)
  | _ => none
noncomputable def xe_iLmul (G : xe_G) (Z : List (List Value)) (mc ms pc len : Nat) (res : List Nat) (al : List (Nat × Value)) (st : List Value) (w : xe_W) (nc ns : Nat) : Option xe_N := match st with
  | .long y :: .long x :: st => some (pc + len, al, xe_mkL (x * y) :: st, w, nc, ns)
  | _ => none
noncomputable def xe_iLdiv (G : xe_G) (Z : List (List Value)) (mc ms pc len : Nat) (res : List Nat) (al : List (Nat × Value)) (st : List Value) (w : xe_W) (nc ns : Nat) : Option xe_N := match st with
  | .long y :: .long x :: st => if y = 0 then none else some (pc + len, al, xe_mkL (x / y) :: st, w, nc, ns)
  | _ => none
noncomputable def xe_iLcmp (G : xe_G) (Z : List (List Value)) (mc ms pc len : Nat) (res : List Nat) (al : List (Nat × Value)) (st : List Value) (w : xe_W) (nc ns : Nat) : Option xe_N := match st with
  | .long y :: .long x :: st => some (pc + len, al, .int (lg_cmp x y) :: st, w, nc, ns)
  | _ => none
noncomputable def xe_iTab (dd lo hi : Int) (offs : Array Int) (G : xe_G) (Z : List (List Value)) (mc ms pc len : Nat) (res : List Nat) (al : List (Nat × Value)) (st : List Value) (w : xe_W) (nc ns : Nat) : Option xe_N := match st with
  | v :: st => match xe_rng G v with
    | some (a, b) => if a = b ∧ ¬ a < lo ∧ ¬ hi < a then
        match offs[(a - lo).toNat]? with
        | some off => match xe_tgt pc off with
          | some t => some (t, al, st, w, nc, ns)
          | none => none
        | none => none
      else if b < lo ∨ hi < a then
        match xe_tgt pc dd with
        | some t => some (t, al, st, w, nc, ns)
        | none => none
      else none
    | none => none
  | _ => none
noncomputable def xe_iGet (G : xe_G) (Z : List (List Value)) (mc ms pc len : Nat) (res : List Nat) (al : List (Nat × Value)) (st : List Value) (w : xe_W) (nc ns : Nat) : Option xe_N := match st, res with
  | .ref a :: st, [10, ci, k] => match xe_nth w a with
    | some (.inr (cj, fs)) => bif Nat.beq ci cj then
        match xe_nth fs k with
        | some v => some (pc + len, al, v :: st, w, nc, ns)
        | none => none
      else none
    | _ => none
  | _, _ => none
noncomputable def xe_iPut (G : xe_G) (Z : List (List Value)) (mc ms pc len : Nat) (res : List Nat) (al : List (Nat × Value)) (st : List Value) (w : xe_W) (nc ns : Nat) : Option xe_N := match st, res with
  | v :: .ref a :: st, [11, ci, k, tc, _] => match xe_nth w a with
    | some (.inr (cj, fs)) => bif Nat.beq ci cj && xe_fit tc v then
        match xe_nth fs k with
        | some _ => some (pc + len, al, st, xe_set w (.inr (cj, xe_set fs v k)) a, nc, ns)
        | none => none
      else none
    | _ => none
  | _, _ => none
noncomputable def xe_iLen (G : xe_G) (Z : List (List Value)) (mc ms pc len : Nat) (res : List Nat) (al : List (Nat × Value)) (st : List Value) (w : xe_W) (nc ns : Nat) : Option xe_N := match st with
  | .ref a :: st => match xe_nth w a with
    | some (.inl (ty, n, _)) => bif Nat.blt ty 4 then some (pc + len, al, .int (Int32.ofNat n) :: st, w, nc, ns) else none
    | _ => none
  | .float u :: st => if u = 0 then some (pc + len, al, .int 5 :: st, w, nc, ns) else if u = 1 then some (pc + len, al, .int (Int32.ofNat G.2.2.1.length) :: st, w, nc, ns) else none
  | _ => none
noncomputable def xe_iNewa (t : ArrayType) (G : xe_G) (Z : List (List Value)) (mc ms pc len : Nat) (res : List Nat) (al : List (Nat × Value)) (st : List Value) (w : xe_W) (nc ns : Nat) : Option xe_N := match st with
  | .int n :: st => match xe_nn n with
    | some k => bif Nat.blt (xe_aty t) 4 && Nat.ble (nc + 1) mc && Nat.ble (ns + k) ms && Nat.ble k 60000000 && xe_ok w.length al st w then
        some (pc + len, al, .ref w.length :: st, w ++ [.inl (xe_aty t, k, [])], nc + 1, ns + k) else none
    | _ => none
  | _ => none
noncomputable def xe_iNew (G : xe_G) (Z : List (List Value)) (mc ms pc len : Nat) (res : List Nat) (al : List (Nat × Value)) (st : List Value) (w : xe_W) (nc ns : Nat) : Option xe_N := match res with
  | [12, ci, n] => match xe_nth Z ci with
    | some fs => bif Nat.ble (nc + 1) mc && Nat.ble (ns + n) ms && Nat.beq fs.length n && xe_ok w.length al st w then
        some (pc + len, al, .ref w.length :: st, w ++ [.inr (ci, fs)], nc + 1, ns + n) else none
    | none => none
  | _ => none
noncomputable def xe_iAld (ty0 kd : Nat) (G : xe_G) (Z : List (List Value)) (mc ms pc len : Nat) (res : List Nat) (al : List (Nat × Value)) (st : List Value) (w : xe_W) (nc ns : Nat) : Option xe_N := match st with
  | .int j :: .ref a :: st => match xe_nth w a with
    | some (.inl (ty, n, sp)) => match xe_nn j with
      | some k => bif Nat.beq ty ty0 && Nat.blt k n && xe_kd kd (xe_get ty sp k) then some (pc + len, al, xe_get ty sp k :: st, w, nc, ns) else none
      | _ => none
    | _ => none
  | _ => none
noncomputable def xe_iAldS (G : xe_G) (Z : List (List Value)) (mc ms pc len : Nat) (res : List Nat) (al : List (Nat × Value)) (st : List Value) (w : xe_W) (nc ns : Nat) : Option xe_N := match st with
  | .int j :: .float u :: st => match xe_nn j with
    | some k => match xe_nth G.2.2.1 k with
      | some v => if u = 1 then some (pc + len, al, v :: st, w, nc, ns) else none
      | none => none
    | _ => none
  | _ => xe_iAld 1 0 G Z mc ms pc len res al st w nc ns
noncomputable def xe_iBst (G : xe_G) (Z : List (List Value)) (mc ms pc len : Nat) (res : List Nat) (al : List (Nat × Value)) (st : List Value) (w : xe_W) (nc ns : Nat) : Option xe_N := match st with
  | .retAddr u :: .int j :: .ref a :: st => match xe_nth w a with
    | some (.inl (ty, n, sp)) => match xe_nn j with
      | some k => bif Nat.beq ty 0 && Nat.blt k n && decide (u ∈ G.2.2.2) then some (pc + len, al, st, xe_set w (.inl (ty, n, xe_put ty sp k (.retAddr u))) a, nc, ns) else none
      | _ => none
    | _ => none
  | _ => none
noncomputable def xe_iAst (ty0 kd : Nat) (G : xe_G) (Z : List (List Value)) (mc ms pc len : Nat) (res : List Nat) (al : List (Nat × Value)) (st : List Value) (w : xe_W) (nc ns : Nat) : Option xe_N := match st with
  | v :: .int j :: .ref a :: st => match xe_nth w a with
    | some (.inl (ty, n, sp)) => match xe_nn j with
      | some k => bif Nat.beq ty ty0 && Nat.blt k n && xe_kd kd v then some (pc + len, al, st, xe_set w (.inl (ty, n, xe_put ty sp k v)) a, nc, ns) else none
      | _ => none
    | _ => none
  | _ => none
noncomputable def xe_iNo (G : xe_G) (Z : List (List Value)) (mc ms pc len : Nat) (res : List Nat) (al : List (Nat × Value)) (st : List Value) (w : xe_W) (nc ns : Nat) : Option xe_N := none
noncomputable def xe_step (i : Instr) : xe_F := @Instr.rec (fun _ => xe_F) xe_iNo xe_iNo xe_iNo (fun k => xe_iL 1 k) (fun k => xe_iL 1 k) (fun _ => xe_iNo) xe_iNo xe_iLen (fun k => xe_iS 1 k) (fun k => xe_iS 1 k) xe_iNo xe_iNo xe_iBst (fun n => xe_iC (.int (Int8.ofInt n).toInt32)) xe_iNo xe_iNo (fun _ => xe_iNo) xe_iNo xe_iNo xe_iNo xe_iNo xe_iNo xe_iNo (fun _ => xe_iNo) (fun _ => xe_iNo) xe_iNo (fun _ => xe_iNo) (fun _ => xe_iNo) xe_iNo xe_iNo xe_iNo xe_iNo (fun _ => xe_iNo) (fun _ => xe_iNo) xe_iNo xe_iDup xe_iNo xe_iNo xe_iDup2 xe_iNo xe_iNo xe_iNo xe_iNo xe_iNo xe_iNo xe_iNo xe_iNo (fun _ => xe_iNo) (fun _ => xe_iNo) xe_iNo (fun _ => xe_iNo) (fun _ => xe_iNo) xe_iNo xe_iNo xe_iNo xe_iNo (fun _ => xe_iNo) (fun _ => xe_iNo) xe_iNo (fun _ => xe_iGet) (fun _ => xe_iC (.float 0)) (fun off => xe_iGoto off) (fun _ => xe_iNo) (xe_iU 10) xe_iNo xe_iNo xe_iNo xe_iI2l xe_iNo (xe_iB 0) xe_iAldS (xe_iB 3) (xe_iAst 1 0) (fun n => xe_iC (.int (Int32.ofInt n))) xe_iDiv (fun _ _ => xe_iNo) (fun c off => xe_iCmp c off) (fun c off => xe_iIf c off) (fun _ => xe_iNo) (fun _ => xe_iNo) (fun k n => xe_iInc k n) (fun k => xe_iL 0 k) (fun k => xe_iL 0 k) (xe_iB 2) (xe_iU 9) (fun _ => xe_iNo) (fun _ => xe_iNo) (fun _ _ => xe_iNo) (fun _ => xe_iNo) (fun _ => xe_iNo) (fun _ => xe_iNo) (xe_iB 4) xe_iNo xe_iNo (xe_iB 6) (xe_iB 7) (fun k => xe_iS 0 k) (fun k => xe_iS 0 k) (xe_iB 1) (xe_iB 8) (xe_iB 5) (fun _ => xe_iNo) (fun _ => xe_iNo) xe_iNo xe_iNo xe_iNo xe_iLadd (xe_iAld 2 2) xe_iNo (xe_iAst 2 2) xe_iLcmp (fun n => xe_iC (.long (Int64.ofNat (n : Nat)))) (fun _ => xe_iK) (fun _ => xe_iK) (fun _ => xe_iNo) xe_iLdiv (fun k => xe_iL 2 k) (fun k => xe_iL 2 k) xe_iLmul xe_iNo (fun _ _ => xe_iNo) xe_iNo xe_iNo xe_iNo xe_iNo xe_iNo (fun k => xe_iS2 k) (fun k => xe_iS2 k) xe_iNo xe_iNo xe_iNo xe_iNo xe_iNo (fun _ _ => xe_iNo) (fun _ => xe_iNew) (fun t => xe_iNewa t) xe_iNo xe_iNo xe_iNo (fun _ => xe_iPut) (fun _ => xe_iNo) (fun _ => xe_iNo) xe_iNo xe_iNo xe_iNo (fun n => xe_iC (.int (Int16.ofInt n).toInt32)) xe_iNo (fun d lo hi offs => xe_iTab d lo hi offs) i
/-- the answer: (0, _) none, (1, v) v, (2, k) the exception k was thrown; the world behind it -/
abbrev xe_R : Type := Nat × Value × xe_W
noncomputable def xe_copy (src : List (Nat × Value)) (dst : List (Nat × Value)) (sp dp : Nat) (n : Nat) : List (Nat × Value) := Nat.rec (motive := fun _ => List (Nat × Value)) dst (fun n ih => xe_put 1 ih (dp + n) (xe_get 1 src (sp + n))) n
noncomputable def xe_allI (sp : List (Nat × Value)) : Bool := List.rec (motive := fun _ => Bool) true (fun a _ ih => xe_kd 0 a.2 && ih) sp
/-- a handler that answers a constant -/
noncomputable def xe_hand (l : List xe_I) (h : Nat) : Option Value := match l with
  | (p1, .astore_n _, _, []) :: (p2, .iconst c, _, []) :: (p3, .ireturn, _, []) :: _ => bif Nat.beq p1 h && Nat.beq p2 (h + 1) && Nat.beq p3 (h + 2) then some (.int (Int32.ofInt c)) else none
  | (p1, .astore _, _, []) :: (p2, .iconst c, _, []) :: (p3, .ireturn, _, []) :: _ => bif Nat.beq p1 h && Nat.beq p2 (h + 2) && Nat.beq p3 (h + 3) then some (.int (Int32.ofInt c)) else none
  | _ => none
/-- the row of handlers that takes the exception k thrown at pc -/
noncomputable def xe_catch (code : List xe_I) (pc k : Nat) (hh : List (Nat × Nat × Nat × Nat)) : Option Value := List.rec (motive := fun _ => Option Value) none (fun r _ ih => bif Nat.ble r.1 pc && Nat.blt pc r.2.1 && Nat.beq k r.2.2.2 then xe_hand (xe_at code r.2.2.1) r.2.2.1 else ih) hh
/-- the static row of settings -/
def xe_SF : List (Nat × Value) := [(0, .int 1), (1, .int 11), (2, .int 5), (3, .int 6), (4, .int 10)]
/-- what a method of this kind answers -/
def xe_rk (k : Nat) (v : Value) : Bool := match k with
  | 1 => xe_kd 0 v
  | 2 => xe_kd 2 v
  | 3 => xe_kd 1 v
  | 4 => decide (v = .int 0) || decide (v = .int 1)
  | _ => false
abbrev xe_K : Type := xe_M → List xe_I → Nat → List (Nat × Value) → List Value → xe_W → Nat → Nat → Option xe_R
abbrev xe_B : Type := List xe_M → xe_G → List (List Value) → xe_K → xe_M → xe_I → List xe_I → Nat → List (Nat × Value) → List Value → xe_W → Nat → Nat → Option xe_R
/-- the words that arguments take -/
noncomputable def xe_sl (l : List Value) : Nat := List.rec (motive := fun _ => Nat) 0 (fun a _ ih => a.category + ih) l
/-- the receiver: an object of the class (a call by its name), or some reference -/
noncomputable def xe_rcv (kd : Nat) (as : List Value) (w : xe_W) : Bool := match as with
  | .ref a :: _ => bif Nat.ble 10 kd then
      match xe_nth w a with
      | some (.inr o) => Nat.beq (o.1 + 10) kd
      | _ => false
    else true
  | _ => Nat.beq kd 2
noncomputable def xe_bCall (y n kd : Nat) (P : List xe_M) (G : xe_G) (Z : List (List Value)) (rr : xe_K) (M : xe_M) (e : xe_I) (tl : List xe_I) (pc : Nat) (al : List (Nat × Value)) (st : List Value) (w : xe_W) (nc ns : Nat) : Option xe_R := match xe_nth P y with
  | none => none
  | some Y => match xe_pop n st [] with
    | none => none
    | some (as, rest) => bif xe_rcv kd as w && Nat.ble (xe_sl as) Y.2.1 && Nat.ble (nc + Y.2.2.2.1) M.2.2.2.1 && Nat.ble (ns + Y.2.2.2.2.1) M.2.2.2.2.1 && Nat.ble rest.length 4 && (Nat.beq Y.2.2.2.1 0 || (xe_okA w.length al && xe_okS w.length rest)) then
      match rr Y Y.1 0 (lv_args 0 as) [] w 0 0 with
      | some (0, _, w') => rr M tl (pc + 3) al rest w' (nc + Y.2.2.2.1) (ns + Y.2.2.2.2.1)
      | some (1, v, w') => rr M tl (pc + 3) al (v :: rest) w' (nc + Y.2.2.2.1) (ns + Y.2.2.2.2.1)
      | some (2, .int k, w') => bif Nat.ble 10 kd then
          match M.2.2.2.2.2 with
          | [] => some (2, .int k, w')
          | _ :: _ => match xe_catch M.1 pc k.toNatClampNeg M.2.2.2.2.2 with
            | some v => bif Nat.beq M.2.2.1 1 then some (1, v, w') else none
            | none => none
        else none
      | _ => none
      else none
noncomputable def xe_bThrow (k : Nat) (P : List xe_M) (G : xe_G) (Z : List (List Value)) (rr : xe_K) (M : xe_M) (e : xe_I) (tl : List xe_I) (pc : Nat) (al : List (Nat × Value)) (st : List Value) (w : xe_W) (nc ns : Nat) : Option xe_R := bif Nat.ble (nc + 1) M.2.2.2.1 && Nat.ble (ns + 6) M.2.2.2.2.1 && Nat.ble st.length 4 then some (2, .int (Int32.ofNat k), w) else none
def xe_mm (mx : Bool) (x y : Int32) : Int32 := bif mx then (bif Nat.blt (xe_bi x) (xe_bi y) then y else x) else (bif Nat.blt (xe_bi y) (xe_bi x) then y else x)
noncomputable def xe_bMath (mx : Bool) (P : List xe_M) (G : xe_G) (Z : List (List Value)) (rr : xe_K) (M : xe_M) (e : xe_I) (tl : List xe_I) (pc : Nat) (al : List (Nat × Value)) (st : List Value) (w : xe_W) (nc ns : Nat) : Option xe_R := match st with
  | .int y :: .int x :: rest => bif Nat.ble rest.length 4 && Nat.ble nc M.2.2.2.1 && Nat.ble ns M.2.2.2.2.1 then rr M tl (pc + 3) al (.int (xe_mm mx x y) :: rest) w nc ns else none
  | _ => none
noncomputable def xe_bObj (P : List xe_M) (G : xe_G) (Z : List (List Value)) (rr : xe_K) (M : xe_M) (e : xe_I) (tl : List xe_I) (pc : Nat) (al : List (Nat × Value)) (st : List Value) (w : xe_W) (nc ns : Nat) : Option xe_R := match st with
  | .ref _ :: rest => bif Nat.ble rest.length 4 then rr M tl (pc + 3) al rest w nc ns else none
  | _ => none
noncomputable def xe_bCopy (P : List xe_M) (G : xe_G) (Z : List (List Value)) (rr : xe_K) (M : xe_M) (e : xe_I) (tl : List xe_I) (pc : Nat) (al : List (Nat × Value)) (st : List Value) (w : xe_W) (nc ns : Nat) : Option xe_R := match st with
  | .int n :: .int dp :: .ref b :: .int sp :: s :: rest => match xe_nth w b, xe_nn n, xe_nn dp, xe_nn sp with
    | some (.inl (ty, m, d)), some n, some dp, some sp => bif Nat.beq ty 1 && Nat.ble (dp + n) m && Nat.ble rest.length 4 then
        match s with
        | .ref a => match xe_nth w a with
          | some (.inl (ty2, m2, sr)) => bif Nat.beq ty2 1 && Nat.ble (sp + n) m2 then rr M tl (pc + 3) al rest (xe_set w (.inl (ty, m, xe_copy sr d sp dp n)) b) nc ns else none
          | _ => none
        | .float u => bif decide (u = 0) && Nat.ble (sp + n) 5 then rr M tl (pc + 3) al rest (xe_set w (.inl (ty, m, xe_copy xe_SF d sp dp n)) b) nc ns else none
        | _ => none
      else none
    | _, _, _, _ => none
  | _ => none
/-- 'clone' of the static row, and the cast behind it -/
noncomputable def xe_bClone (P : List xe_M) (G : xe_G) (Z : List (List Value)) (rr : xe_K) (M : xe_M) (e : xe_I) (tl : List xe_I) (pc : Nat) (al : List (Nat × Value)) (st : List Value) (w : xe_W) (nc ns : Nat) : Option xe_R := match st, tl with
  | .float u :: rest, (pc', .checkcast _, 3, [5]) :: tl => bif decide (u = 0) && Nat.beq pc' (pc + 3) && Nat.ble (nc + 1) M.2.2.2.1 && Nat.ble (ns + 5) M.2.2.2.2.1 && Nat.ble rest.length 4 && xe_ok w.length al rest w then
      rr M tl (pc + 6) al (.ref w.length :: rest) (w ++ [.inl (1, 5, xe_SF)]) (nc + 1) (ns + 5) else none
  | _, _ => none
noncomputable def xe_bRet0 (P : List xe_M) (G : xe_G) (Z : List (List Value)) (rr : xe_K) (M : xe_M) (e : xe_I) (tl : List xe_I) (pc : Nat) (al : List (Nat × Value)) (st : List Value) (w : xe_W) (nc ns : Nat) : Option xe_R := match st with
  | [] => bif Nat.beq M.2.2.1 0 && Nat.ble nc M.2.2.2.1 && Nat.ble ns M.2.2.2.2.1 then some (0, .null, w) else none
  | _ => none
noncomputable def xe_bRet (k : Nat) (P : List xe_M) (G : xe_G) (Z : List (List Value)) (rr : xe_K) (M : xe_M) (e : xe_I) (tl : List xe_I) (pc : Nat) (al : List (Nat × Value)) (st : List Value) (w : xe_W) (nc ns : Nat) : Option xe_R := match st with
  | [v] => bif xe_rk M.2.2.1 v && xe_kd k v && Nat.ble nc M.2.2.2.1 && Nat.ble ns M.2.2.2.2.1 then some (1, v, w) else none
  | _ => none
def xe_ceq (a b : xe_C) : Bool := match a, b with
  | .inl x, .inl y => decide (x = y)
  | .inr x, .inr y => decide (x = y)
  | _, _ => false
noncomputable def xe_weq (a : xe_W) : xe_W → Bool := List.rec (motive := fun _ => xe_W → Bool) (fun b => match b with
  | [] => true
  | _ => false) (fun x _ ih b => match b with
  | [] => false
  | y :: t => xe_ceq x y && ih t) a
noncomputable def xe_Req (a b : xe_R) : Bool := Nat.beq a.1 b.1 && decide (a.2.1 = b.2.1) && xe_weq a.2.2 b.2.2
noncomputable def xe_bOn (P : List xe_M) (G : xe_G) (Z : List (List Value)) (rr : xe_K) (M : xe_M) (e : xe_I) (tl : List xe_I) (pc : Nat) (al : List (Nat × Value)) (st : List Value) (w : xe_W) (nc ns : Nat) : Option xe_R := match xe_step e.2.1 G Z M.2.2.2.1 M.2.2.2.2.1 pc e.2.2.1 e.2.2.2 al st w nc ns with
  | some (pc2, al2, st2, w2, nc2, ns2) => rr M (bif Nat.beq pc2 (pc + e.2.2.1) then tl else xe_at M.1 pc2) pc2 al2 st2 w2 nc2 ns2
  | none => match e.2.1, st with
    | .ifCond _ off, v :: st => bif xe_kd 0 v then
        match xe_tgt pc off with
        | some t => match rr M (xe_at M.1 t) t al st w nc ns, rr M tl (pc + 3) al st w nc ns with
          | some r1, some r2 => bif xe_Req r1 r2 then some r1 else none
          | _, _ => none
        | none => none
      else none
    | .if_icmp _ off, u :: v :: st => bif xe_kd 0 v && xe_kd 0 u then
        match xe_tgt pc off with
        | some t => match rr M (xe_at M.1 t) t al st w nc ns, rr M tl (pc + 3) al st w nc ns with
          | some r1, some r2 => bif xe_Req r1 r2 then some r1 else none
          | _, _ => none
        | none => none
      else none
    | _, _ => none
/-- the locals but the third -/
noncomputable def xe_zF (al : List (Nat × Value)) : List (Nat × Value) := xe_flt (fun q => !(Nat.beq q.1 3) && !(Nat.beq (q.1 + 1) 3 && Nat.beq q.2.category 2)) al
/-- a loop that copies zeros over zeros: how many -/
noncomputable def xe_zero (al : List (Nat × Value)) (w : xe_W) : Option Nat := match xe_look al 3, xe_look al 1, xe_look al 2 with
  | some (.int i), some (.ref a), some (.ref b) => match xe_nth w a, xe_nth w b with
    | some (.inl (ta, n, [])), some (.inl (tb, m, [])) => bif Nat.beq ta 1 && Nat.beq tb 1 && Nat.ble n m && Nat.blt n 2147483648 && Nat.blt 0 n && decide (i = 0) then some n else none
    | _, _ => none
  | _, _, _ => none
noncomputable def xe_bZero (P : List xe_M) (G : xe_G) (Z : List (List Value)) (rr : xe_K) (M : xe_M) (e : xe_I) (tl : List xe_I) (pc : Nat) (al : List (Nat × Value)) (st : List Value) (w : xe_W) (nc ns : Nat) : Option xe_R := match xe_zero al w, st with
  | some n, [] => rr M (xe_at M.1 20) 20 ((3, .int (Int32.ofNat n)) :: xe_zF al) [] w nc ns
  | _, _ => xe_bOn P G Z rr M e tl pc al st w nc ns
noncomputable def xe_bI (i : Instr) : xe_B := @Instr.rec (fun _ => xe_B) xe_bOn xe_bOn xe_bOn (fun _ => xe_bOn) (fun _ => xe_bOn) (fun _ => xe_bOn) (xe_bRet 1) xe_bOn (fun _ => xe_bOn) (fun _ => xe_bOn) xe_bOn xe_bOn xe_bOn (fun _ => xe_bOn) xe_bOn xe_bOn (fun _ => xe_bOn) xe_bOn xe_bOn xe_bOn xe_bOn xe_bOn xe_bOn (fun _ => xe_bOn) (fun _ => xe_bOn) xe_bOn (fun _ => xe_bOn) (fun _ => xe_bOn) xe_bOn xe_bOn xe_bOn xe_bOn (fun _ => xe_bOn) (fun _ => xe_bOn) xe_bOn xe_bOn xe_bOn xe_bOn xe_bOn xe_bOn xe_bOn xe_bOn xe_bOn xe_bOn xe_bOn xe_bOn xe_bOn (fun _ => xe_bOn) (fun _ => xe_bOn) xe_bOn (fun _ => xe_bOn) (fun _ => xe_bOn) xe_bOn xe_bOn xe_bOn xe_bOn (fun _ => xe_bOn) (fun _ => xe_bOn) xe_bOn (fun _ => xe_bOn) (fun _ => xe_bOn) (fun _ => xe_bOn) (fun _ => xe_bOn) xe_bOn xe_bOn xe_bOn xe_bOn xe_bOn xe_bOn xe_bOn xe_bOn xe_bOn xe_bOn (fun _ => xe_bOn) xe_bOn (fun _ _ => xe_bOn) (fun _ _ => xe_bOn) (fun _ _ => xe_bOn) (fun _ => xe_bOn) (fun _ => xe_bOn) (fun _ _ => xe_bOn) (fun _ => xe_bOn) (fun _ => xe_bOn) xe_bOn xe_bOn (fun _ => xe_bOn) (fun _ => xe_bOn) (fun _ _ => xe_bOn) (fun _ => xe_bOn) (fun _ => xe_bOn) (fun _ => xe_bOn) xe_bOn xe_bOn (xe_bRet 0) xe_bOn xe_bOn (fun _ => xe_bOn) (fun _ => xe_bOn) xe_bOn xe_bOn xe_bOn (fun _ => xe_bOn) (fun _ => xe_bOn) xe_bOn xe_bOn xe_bOn xe_bOn xe_bOn xe_bOn xe_bOn xe_bOn (fun _ => xe_bOn) (fun _ => xe_bOn) (fun _ => xe_bOn) (fun _ => xe_bOn) xe_bOn (fun _ => xe_bOn) (fun _ => xe_bOn) xe_bOn xe_bOn (fun _ _ => xe_bOn) xe_bOn xe_bOn (xe_bRet 2) xe_bOn xe_bOn (fun _ => xe_bOn) (fun _ => xe_bOn) xe_bOn xe_bOn xe_bOn xe_bOn xe_bOn (fun _ _ => xe_bOn) (fun _ => xe_bOn) (fun _ => xe_bOn) xe_bOn xe_bOn xe_bOn (fun _ => xe_bOn) (fun _ => xe_bOn) (fun _ => xe_bOn) xe_bRet0 xe_bOn xe_bOn (fun _ => xe_bOn) xe_bOn (fun _ _ _ _ => xe_bOn) i
noncomputable def xe_bR (i : Instr) (res : List Nat) : xe_B := match res with
  | [0, y, n, kd] => xe_bCall y n kd
  | [1, k, _, _, _] => xe_bThrow k
  | [2] => xe_bObj
  | [3] => xe_bCopy
  | [4] => xe_bClone
  | [6] => xe_bMath true
  | [7] => xe_bMath false
  | [8] => xe_bZero
  | _ => xe_bI i
noncomputable def xe_body (P : List xe_M) (G : xe_G) (Z : List (List Value)) (rr : xe_K) : xe_K := fun M cur pc al st w nc ns => match cur with
  | [] => none
  | e :: tl => bif Nat.beq e.1 pc then xe_bR e.2.1 e.2.2.2 P G Z rr M e tl pc al st w nc ns else none
noncomputable def xe_run (P : List xe_M) (G : xe_G) (Z : List (List Value)) (f : Nat) : xe_K := Nat.rec (motive := fun _ => xe_K) (fun _ _ _ _ _ _ _ _ => none) (fun _ ih => xe_body P G Z ih) f
end
section
/-- a method as the tables have it: its class, its name, its code, locals, answer, whether it makes an object, its height among the calls, its handlers -/
abbrev xd_D : Type := String × MethodName × ByteArray × Nat × Option FieldType × Bool × Nat × List (Nat × Nat × Nat × Nat)
def xc_0 : List xe_I := [(0, .iload_n 0, 1, []), (1, .iload_n 0, 1, []), (2, .iconst 1, 1, []), (3, .iushr, 1, []), (4, .ldc_w 265, 3, [13, 1431655765]), (7, .iand, 1, []), (8, .isub, 1, []), (9, .istore_n 0, 1, []), (10, .iload_n 0, 1, []), (11, .ldc_w 266, 3, [13, 858993459]), (14, .iand, 1, []), (15, .iload_n 0, 1, []), (16, .iconst 2, 1, []), (17, .iushr, 1, []), (18, .ldc_w 266, 3, [13, 858993459]), (21, .iand, 1, []), (22, .iadd, 1, []), (23, .istore_n 0, 1, []), (24, .iload_n 0, 1, []), (25, .iload_n 0, 1, []), (26, .iconst 4, 1, []), (27, .iushr, 1, []), (28, .iadd, 1, []), (29, .ldc_w 267, 3, [13, 252645135]), (32, .iand, 1, []), (33, .istore_n 0, 1, []), (34, .iload_n 0, 1, []), (35, .iload_n 0, 1, []), (36, .bipush 8, 2, []), (38, .iushr, 1, []), (39, .iadd, 1, []), (40, .istore_n 0, 1, []), (41, .iload_n 0, 1, []), (42, .iload_n 0, 1, []), (43, .bipush 16, 2, []), (45, .iushr, 1, []), (46, .iadd, 1, []), (47, .istore_n 0, 1, []), (48, .iload_n 0, 1, []), (49, .bipush 63, 2, []), (51, .iand, 1, []), (52, .ireturn, 1, [])]
/-- java/lang/Integer.bitCount.(I)I -/
abbrev xm_0 : xe_M := (xc_0, 1, 1, 0, 0, [])
def xc_1 : List xe_I := [(0, .iconst 1, 1, []), (1, .aload_n 0, 1, []), (2, .getfield 51, 3, [10, 0, 11]), (5, .ishl, 1, []), (6, .iconst 1, 1, []), (7, .isub, 1, []), (8, .ireturn, 1, [])]
/-- TingDecks$Bus.everybody.()I -/
abbrev xm_1 : xe_M := (xc_1, 1, 1, 0, 0, [])
def xc_2 : List xe_I := [(0, .aload_n 0, 1, []), (1, .invokespecial 3, 3, [2]), (4, .aload_n 0, 1, []), (5, .bipush 11, 2, []), (7, .newarray .int, 2, []), (9, .putfield 9, 3, [11, 0, 0, 3, 1]), (12, .aload_n 0, 1, []), (13, .bipush 12, 2, []), (15, .newarray .int, 2, []), (17, .putfield 15, 3, [11, 0, 1, 3, 1]), (20, .aload_n 0, 1, []), (21, .bipush 12, 2, []), (23, .newarray .int, 2, []), (25, .putfield 18, 3, [11, 0, 2, 3, 1]), (28, .aload_n 0, 1, []), (29, .bipush 12, 2, []), (31, .newarray .int, 2, []), (33, .putfield 21, 3, [11, 0, 3, 3, 1]), (36, .aload_n 0, 1, []), (37, .bipush 12, 2, []), (39, .newarray .int, 2, []), (41, .putfield 24, 3, [11, 0, 4, 3, 1]), (44, .aload_n 0, 1, []), (45, .getstatic 27, 3, []), (48, .invokevirtual 30, 3, [4]), (51, .checkcast 31, 3, [5]), (54, .putfield 35, 3, [11, 0, 5, 3, 1]), (57, .aload_n 0, 1, []), (58, .iconst 5, 1, []), (59, .newarray .int, 2, []), (61, .putfield 38, 3, [11, 0, 6, 3, 1]), (64, .aload_n 0, 1, []), (65, .iconst 5, 1, []), (66, .newarray .int, 2, []), (68, .putfield 41, 3, [11, 0, 7, 3, 1]), (71, .aload_n 0, 1, []), (72, .sipush 700, 3, []), (75, .newarray .int, 2, []), (77, .putfield 44, 3, [11, 0, 8, 3, 1]), (80, .aload_n 0, 1, []), (81, .iconst 2, 1, []), (82, .putfield 47, 3, [11, 0, 10, 0, 0]), (85, .aload_n 0, 1, []), (86, .getfield 9, 3, [10, 0, 0]), (89, .iconst 0, 1, []), (90, .bipush 60, 2, []), (92, .iastore, 1, []), (93, .return_, 1, [])]
/-- TingDecks$Bus.<init>.()V -/
abbrev xm_2 : xe_M := (xc_2, 1, 0, 9, 774, [])
def xc_3 : List xe_I := [(0, .aload_n 0, 1, []), (1, .iconst 2, 1, []), (2, .putfield 47, 3, [11, 0, 10, 0, 0]), (5, .aload_n 0, 1, []), (6, .getfield 9, 3, [10, 0, 0]), (9, .iconst 0, 1, []), (10, .bipush 60, 2, []), (12, .iastore, 1, []), (13, .aload_n 0, 1, []), (14, .iconst 0, 1, []), (15, .putfield 51, 3, [11, 0, 11, 0, 0]), (18, .aload_n 0, 1, []), (19, .iconst 0, 1, []), (20, .putfield 54, 3, [11, 0, 12, 0, 0]), (23, .aload_n 0, 1, []), (24, .iconst 0, 1, []), (25, .putfield 57, 3, [11, 0, 13, 0, 0]), (28, .aload_n 0, 1, []), (29, .iconst 0, 1, []), (30, .putfield 60, 3, [11, 0, 9, 0, 0]), (33, .aload_n 0, 1, []), (34, .getfield 38, 3, [10, 0, 6]), (37, .iconst 0, 1, []), (38, .iconst 0, 1, []), (39, .iastore, 1, []), (40, .aload_n 0, 1, []), (41, .getfield 41, 3, [10, 0, 7]), (44, .iconst 0, 1, []), (45, .iconst 0, 1, []), (46, .iastore, 1, []), (47, .getstatic 27, 3, []), (50, .iconst 0, 1, []), (51, .aload_n 0, 1, []), (52, .getfield 35, 3, [10, 0, 5]), (55, .iconst 0, 1, []), (56, .getstatic 27, 3, []), (59, .arraylength, 1, []), (60, .invokestatic 63, 3, [3]), (63, .return_, 1, [])]
/-- TingDecks$Bus.makeEmpty.()V -/
abbrev xm_3 : xe_M := (xc_3, 1, 0, 0, 0, [])
def xc_4 : List xe_I := [(0, .iconst 0, 1, []), (1, .istore_n 2, 1, []), (2, .iconst 0, 1, []), (3, .istore_n 3, 1, []), (4, .iload_n 3, 1, []), (5, .aload_n 0, 1, []), (6, .getfield 51, 3, [10, 0, 11]), (9, .if_icmp .ge 25, 3, []), (34, .iload_n 2, 1, []), (35, .ireturn, 1, [])]
/-- TingDecks$Bus.ridersFrom.(I)I -/
abbrev xm_4 : xe_M := (xc_4, 4, 1, 0, 0, [])
def xc_5 : List xe_I := [(0, .iconst 0, 1, []), (1, .istore_n 2, 1, []), (2, .iconst 0, 1, []), (3, .istore_n 3, 1, []), (4, .iload_n 3, 1, []), (5, .aload_n 0, 1, []), (6, .getfield 51, 3, [10, 0, 11]), (9, .if_icmp .ge 35, 3, []), (44, .iload_n 2, 1, []), (45, .ireturn, 1, [])]
/-- TingDecks$Bus.ridersThere.(I)I -/
abbrev xm_5 : xe_M := (xc_5, 4, 1, 0, 0, [])
def xc_6 : List xe_I := [(0, .aload_n 0, 1, []), (1, .dup, 1, []), (2, .getfield 26, 3, [10, 1, 4]), (5, .lload_n 2, 1, []), (6, .aload_n 1, 1, []), (7, .getfield 52, 3, [10, 7, 16]), (10, .i2l, 1, []), (11, .lmul, 1, []), (12, .ladd, 1, []), (13, .putfield 26, 3, [11, 1, 4, 2, 0]), (16, .iconst 0, 1, []), (17, .istore 4, 2, []), (19, .iload 4, 2, []), (21, .aload_n 1, 1, []), (22, .getfield 43, 3, [10, 7, 4]), (25, .getfield 33, 3, [10, 0, 11]), (28, .if_icmp .ge 32, 3, []), (60, .return_, 1, [])]
/-- TingDecks$Chances.addTrip.(LTingDecks$Trip;J)V -/
abbrev xm_6 : xe_M := (xc_6, 5, 0, 0, 0, [])
def xc_7 : List xe_I := [(0, .aload_n 0, 1, []), (1, .iconst 0, 1, []), (2, .putfield 19, 3, [11, 1, 2, 0, 0]), (5, .aload_n 0, 1, []), (6, .iconst 0, 1, []), (7, .putfield 23, 3, [11, 1, 3, 0, 0]), (10, .aload_n 0, 1, []), (11, .lconst 0, 1, []), (12, .putfield 26, 3, [11, 1, 4, 2, 0]), (15, .aload_n 0, 1, []), (16, .lconst 1, 1, []), (17, .putfield 30, 3, [11, 1, 5, 2, 0]), (20, .iconst 0, 1, []), (21, .istore_n 2, 1, []), (22, .iload_n 2, 1, []), (23, .aload_n 1, 1, []), (24, .getfield 33, 3, [10, 0, 11]), (27, .if_icmp .ge 93, 3, []), (120, .return_, 1, [])]
/-- TingDecks$Chances.begin.(LTingDecks$Bus;)V -/
abbrev xm_7 : xe_M := (xc_7, 4, 0, 0, 0, [])
def xc_8 : List xe_I := [(0, .aload_n 0, 1, []), (1, .invokespecial 3, 3, [2]), (4, .aload_n 0, 1, []), (5, .bipush 12, 2, []), (7, .newarray .long, 2, []), (9, .putfield 9, 3, [11, 1, 0, 3, 1]), (12, .aload_n 0, 1, []), (13, .bipush 8, 2, []), (15, .newarray .int, 2, []), (17, .putfield 15, 3, [11, 1, 1, 3, 1]), (20, .return_, 1, [])]
/-- TingDecks$Chances.<init>.()V -/
abbrev xm_8 : xe_M := (xc_8, 1, 0, 2, 20, [])
def xc_9 : List xe_I := [(0, .lconst 1, 1, []), (1, .lstore_n 3, 1, []), (2, .aload_n 0, 1, []), (3, .getfield 23, 3, [10, 1, 3]), (6, .istore 5, 2, []), (8, .iconst 0, 1, []), (9, .istore 6, 2, []), (11, .iload 6, 2, []), (13, .aload_n 0, 1, []), (14, .getfield 19, 3, [10, 1, 2]), (17, .if_icmp .ge 67, 3, []), (84, .aload_n 1, 1, []), (85, .iload 5, 2, []), (87, .putfield 49, 3, [11, 7, 7, 0, 0]), (90, .lload_n 3, 1, []), (91, .lreturn, 1, [])]
/-- TingDecks$Chances.letCome.(LTingDecks$Trip;I)J -/
abbrev xm_9 : xe_M := (xc_9, 8, 2, 0, 0, [])
def xc_10 : List xe_I := [(0, .aload_n 0, 1, []), (1, .getfield 30, 3, [10, 1, 5]), (4, .lstore 4, 2, []), (6, .lload_n 1, 1, []), (7, .lstore 6, 2, []), (9, .iconst 0, 1, []), (10, .istore 8, 2, []), (12, .iload 8, 2, []), (14, .sipush 200, 3, []), (17, .if_icmp .ge 31, 3, []), (20, .lload 6, 2, []), (22, .lconst 0, 1, []), (23, .lcmp, 1, []), (24, .ifCond .eq 24, 3, []), (48, .iload_n 3, 1, []), (49, .ifCond .ne 7, 3, []), (52, .lload_n 1, 1, []), (53, .goto 7, 3, []), (56, .aload_n 0, 1, []), (57, .getfield 30, 3, [10, 1, 5]), (60, .lstore 8, 2, []), (62, .lload 4, 2, []), (64, .lconst 1, 1, []), (65, .lcmp, 1, []), (66, .ifCond .le 11, 3, []), (77, .lload 8, 2, []), (79, .lreturn, 1, [])]
/-- TingDecks$Chances.partOf.(JI)J -/
abbrev xm_10 : xe_M := (xc_10, 11, 2, 0, 0, [])
def xc_11 : List xe_I := [(0, .aload_n 0, 1, []), (1, .iconst 0, 1, []), (2, .putfield 69, 3, [11, 2, 2, 0, 0]), (5, .aload_n 0, 1, []), (6, .iconst 0, 1, []), (7, .putfield 72, 3, [11, 2, 3, 0, 0]), (10, .iconst 1, 1, []), (11, .istore_n 3, 1, []), (12, .iload_n 3, 1, []), (13, .iload_n 2, 1, []), (14, .if_icmp .ge 45, 3, []), (59, .return_, 1, [])]
/-- TingDecks$Orders.findMost.(LTingDecks$Trip;I)V -/
abbrev xm_11 : xe_M := (xc_11, 5, 0, 0, 0, [])
def xc_12 : List xe_I := [(0, .aload_n 1, 1, []), (1, .getfield 17, 3, [10, 7, 4]), (4, .astore 5, 2, []), (6, .iconst 0, 1, []), (7, .istore 6, 2, []), (9, .iload 6, 2, []), (11, .aload_n 0, 1, []), (12, .getfield 35, 3, [10, 2, 1]), (15, .if_icmp .ge 121, 3, []), (136, .return_, 1, [])]
/-- TingDecks$Orders.goOnFrom.(LTingDecks$Trip;III)V -/
abbrev xm_12 : xe_M := (xc_12, 10, 0, 0, 0, [])
def xc_13 : List xe_I := [(0, .aload_n 0, 1, []), (1, .invokespecial 5, 3, [2]), (4, .aload_n 0, 1, []), (5, .iconst 0, 1, []), (6, .newarray .int, 2, []), (8, .putfield 11, 3, [11, 2, 0, 3, 0]), (11, .return_, 1, [])]
/-- TingDecks$Orders.<init>.()V -/
abbrev xm_13 : xe_M := (xc_13, 1, 0, 1, 0, [])
def xc_14 : List xe_I := [(0, .iload_n 1, 1, []), (1, .ifCond .le 13, 3, []), (14, .iconst 0, 1, []), (15, .ireturn, 1, [])]
/-- TingDecks$Orders.soonestOf.(I)I -/
abbrev xm_14 : xe_M := (xc_14, 4, 1, 0, 0, [])
def xc_15 : List xe_I := [(0, .aload_n 0, 1, []), (1, .invokespecial 3, 3, [2]), (4, .aload_n 0, 1, []), (5, .bipush 40, 2, []), (7, .newarray .int, 2, []), (9, .putfield 11, 3, [11, 4, 0, 3, 1]), (12, .aload_n 0, 1, []), (13, .bipush 8, 2, []), (15, .newarray .int, 2, []), (17, .putfield 15, 3, [11, 4, 1, 3, 1]), (20, .return_, 1, [])]
/-- TingDecks$Reckoner.<init>.()V -/
abbrev xm_15 : xe_M := (xc_15, 1, 0, 2, 48, [])
def xc_16 : List xe_I := [(0, .iconst 0, 1, []), (1, .istore_n 1, 1, []), (2, .iconst 0, 1, []), (3, .istore_n 2, 1, []), (4, .iload_n 2, 1, []), (5, .aload_n 0, 1, []), (6, .getfield 9, 3, [10, 5, 0]), (9, .arraylength, 1, []), (10, .if_icmp .ge 18, 3, []), (13, .iload_n 1, 1, []), (14, .aload_n 0, 1, []), (15, .getfield 9, 3, [10, 5, 0]), (18, .iload_n 2, 1, []), (19, .iaload, 1, []), (20, .iadd, 1, []), (21, .istore_n 1, 1, []), (22, .iinc 2 1, 3, []), (25, .goto (-21), 3, []), (28, .iload_n 1, 1, []), (29, .ireturn, 1, [])]
/-- TingDecks$State.allHolds.()I -/
abbrev xm_16 : xe_M := (xc_16, 3, 1, 0, 0, [])
def xc_17 : List xe_I := [(0, .aload_n 1, 1, []), (1, .getfield 9, 3, [10, 5, 0]), (4, .iconst 0, 1, []), (5, .aload_n 0, 1, []), (6, .getfield 9, 3, [10, 5, 0]), (9, .iconst 0, 1, []), (10, .bipush 12, 2, []), (12, .invokestatic 43, 3, [3]), (15, .aload_n 1, 1, []), (16, .getfield 15, 3, [10, 5, 1]), (19, .iconst 0, 1, []), (20, .aload_n 0, 1, []), (21, .getfield 15, 3, [10, 5, 1]), (24, .iconst 0, 1, []), (25, .bipush 12, 2, []), (27, .invokestatic 43, 3, [3]), (30, .aload_n 1, 1, []), (31, .getfield 18, 3, [10, 5, 2]), (34, .iconst 0, 1, []), (35, .aload_n 0, 1, []), (36, .getfield 18, 3, [10, 5, 2]), (39, .iconst 0, 1, []), (40, .bipush 40, 2, []), (42, .invokestatic 43, 3, [3]), (45, .aload_n 1, 1, []), (46, .getfield 21, 3, [10, 5, 3]), (49, .iconst 0, 1, []), (50, .aload_n 0, 1, []), (51, .getfield 21, 3, [10, 5, 3]), (54, .iconst 0, 1, []), (55, .bipush 40, 2, []), (57, .invokestatic 43, 3, [3]), (60, .aload_n 1, 1, []), (61, .getfield 24, 3, [10, 5, 4]), (64, .iconst 0, 1, []), (65, .aload_n 0, 1, []), (66, .getfield 24, 3, [10, 5, 4]), (69, .iconst 0, 1, []), (70, .bipush 40, 2, []), (72, .invokestatic 43, 3, [3]), (75, .aload_n 1, 1, []), (76, .getfield 27, 3, [10, 5, 5]), (79, .iconst 0, 1, []), (80, .aload_n 0, 1, []), (81, .getfield 27, 3, [10, 5, 5]), (84, .iconst 0, 1, []), (85, .bipush 8, 2, []), (87, .invokestatic 43, 3, [3]), (90, .aload_n 1, 1, []), (91, .getfield 30, 3, [10, 5, 6]), (94, .iconst 0, 1, []), (95, .aload_n 0, 1, []), (96, .getfield 30, 3, [10, 5, 6]), (99, .iconst 0, 1, []), (100, .bipush 8, 2, []), (102, .invokestatic 43, 3, [3]), (105, .aload_n 1, 1, []), (106, .getfield 33, 3, [10, 5, 7]), (109, .iconst 0, 1, []), (110, .aload_n 0, 1, []), (111, .getfield 33, 3, [10, 5, 7]), (114, .iconst 0, 1, []), (115, .bipush 8, 2, []), (117, .invokestatic 43, 3, [3]), (120, .aload_n 0, 1, []), (121, .aload_n 1, 1, []), (122, .getfield 36, 3, [10, 5, 8]), (125, .putfield 36, 3, [11, 5, 8, 0, 0]), (128, .aload_n 0, 1, []), (129, .aload_n 1, 1, []), (130, .getfield 49, 3, [10, 5, 9]), (133, .putfield 49, 3, [11, 5, 9, 0, 0]), (136, .aload_n 0, 1, []), (137, .aload_n 1, 1, []), (138, .getfield 52, 3, [10, 5, 10]), (141, .putfield 52, 3, [11, 5, 10, 0, 0]), (144, .return_, 1, [])]
/-- TingDecks$State.copyFrom.(LTingDecks$State;)V -/
abbrev xm_17 : xe_M := (xc_17, 2, 0, 0, 0, [])
def xc_18 : List xe_I := [(0, .aload_n 0, 1, []), (1, .invokespecial 3, 3, [2]), (4, .aload_n 0, 1, []), (5, .bipush 12, 2, []), (7, .newarray .int, 2, []), (9, .putfield 9, 3, [11, 5, 0, 3, 1]), (12, .aload_n 0, 1, []), (13, .bipush 12, 2, []), (15, .newarray .int, 2, []), (17, .putfield 15, 3, [11, 5, 1, 3, 1]), (20, .aload_n 0, 1, []), (21, .bipush 40, 2, []), (23, .newarray .int, 2, []), (25, .putfield 18, 3, [11, 5, 2, 3, 1]), (28, .aload_n 0, 1, []), (29, .bipush 40, 2, []), (31, .newarray .int, 2, []), (33, .putfield 21, 3, [11, 5, 3, 3, 1]), (36, .aload_n 0, 1, []), (37, .bipush 40, 2, []), (39, .newarray .int, 2, []), (41, .putfield 24, 3, [11, 5, 4, 3, 1]), (44, .aload_n 0, 1, []), (45, .bipush 8, 2, []), (47, .newarray .int, 2, []), (49, .putfield 27, 3, [11, 5, 5, 3, 1]), (52, .aload_n 0, 1, []), (53, .bipush 8, 2, []), (55, .newarray .int, 2, []), (57, .putfield 30, 3, [11, 5, 6, 3, 1]), (60, .aload_n 0, 1, []), (61, .bipush 8, 2, []), (63, .newarray .int, 2, []), (65, .putfield 33, 3, [11, 5, 7, 3, 1]), (68, .aload_n 0, 1, []), (69, .iconst (-1), 1, []), (70, .putfield 36, 3, [11, 5, 8, 0, 0]), (73, .return_, 1, [])]
/-- TingDecks$State.<init>.()V -/
abbrev xm_18 : xe_M := (xc_18, 1, 0, 8, 168, [])
def xc_19 : List xe_I := [(0, .aload_n 0, 1, []), (1, .getfield 49, 3, [10, 5, 9]), (4, .bipush 40, 2, []), (6, .if_icmp .ne 58, 3, []), (64, .aload_n 0, 1, []), (65, .getfield 18, 3, [10, 5, 2]), (68, .aload_n 0, 1, []), (69, .getfield 49, 3, [10, 5, 9]), (72, .iload_n 1, 1, []), (73, .iastore, 1, []), (74, .aload_n 0, 1, []), (75, .getfield 21, 3, [10, 5, 3]), (78, .aload_n 0, 1, []), (79, .getfield 49, 3, [10, 5, 9]), (82, .iload_n 2, 1, []), (83, .iastore, 1, []), (84, .aload_n 0, 1, []), (85, .getfield 24, 3, [10, 5, 4]), (88, .aload_n 0, 1, []), (89, .getfield 49, 3, [10, 5, 9]), (92, .iload_n 3, 1, []), (93, .iastore, 1, []), (94, .aload_n 0, 1, []), (95, .dup, 1, []), (96, .getfield 49, 3, [10, 5, 9]), (99, .iconst 1, 1, []), (100, .iadd, 1, []), (101, .putfield 49, 3, [11, 5, 9, 0, 0]), (104, .return_, 1, [])]
/-- TingDecks$State.keepAct.(III)V -/
abbrev xm_19 : xe_M := (xc_19, 4, 0, 0, 0, [])
def xc_20 : List xe_I := [(0, .aload_n 0, 1, []), (1, .getfield 52, 3, [10, 5, 10]), (4, .bipush 8, 2, []), (6, .if_icmp .ge 43, 3, []), (9, .aload_n 0, 1, []), (10, .getfield 27, 3, [10, 5, 5]), (13, .aload_n 0, 1, []), (14, .getfield 52, 3, [10, 5, 10]), (17, .iload_n 1, 1, []), (18, .iastore, 1, []), (19, .aload_n 0, 1, []), (20, .getfield 30, 3, [10, 5, 6]), (23, .aload_n 0, 1, []), (24, .getfield 52, 3, [10, 5, 10]), (27, .iload_n 2, 1, []), (28, .iastore, 1, []), (29, .aload_n 0, 1, []), (30, .getfield 33, 3, [10, 5, 7]), (33, .aload_n 0, 1, []), (34, .getfield 52, 3, [10, 5, 10]), (37, .iload_n 3, 1, []), (38, .iastore, 1, []), (39, .aload_n 0, 1, []), (40, .dup, 1, []), (41, .getfield 52, 3, [10, 5, 10]), (44, .iconst 1, 1, []), (45, .iadd, 1, []), (46, .putfield 52, 3, [11, 5, 10, 0, 0]), (49, .return_, 1, [])]
/-- TingDecks$State.keepCounted.(III)V -/
abbrev xm_20 : xe_M := (xc_20, 4, 0, 0, 0, [])
def xc_21 : List xe_I := [(0, .iconst 0, 1, []), (1, .istore_n 2, 1, []), (2, .iload_n 2, 1, []), (3, .aload_n 0, 1, []), (4, .getfield 9, 3, [10, 5, 0]), (7, .arraylength, 1, []), (8, .if_icmp .ge 16, 3, []), (11, .aload_n 0, 1, []), (12, .getfield 9, 3, [10, 5, 0]), (15, .iload_n 2, 1, []), (16, .iconst 0, 1, []), (17, .iastore, 1, []), (18, .iinc 2 1, 3, []), (21, .goto (-19), 3, []), (24, .aload_n 1, 1, []), (25, .getfield 40, 3, [10, 0, 3]), (28, .iconst 0, 1, []), (29, .aload_n 0, 1, []), (30, .getfield 15, 3, [10, 5, 1]), (33, .iconst 0, 1, []), (34, .bipush 12, 2, []), (36, .invokestatic 43, 3, [3]), (39, .aload_n 0, 1, []), (40, .iconst (-1), 1, []), (41, .putfield 36, 3, [11, 5, 8, 0, 0]), (44, .aload_n 0, 1, []), (45, .iconst 0, 1, []), (46, .putfield 49, 3, [11, 5, 9, 0, 0]), (49, .aload_n 0, 1, []), (50, .iconst 0, 1, []), (51, .putfield 52, 3, [11, 5, 10, 0, 0]), (54, .return_, 1, [])]
/-- TingDecks$State.startOn.(LTingDecks$Bus;)V -/
abbrev xm_21 : xe_M := (xc_21, 3, 0, 0, 0, [])
def xc_22 : List xe_I := [(0, .aload_n 0, 1, []), (1, .aload_n 0, 1, []), (2, .getfield 28, 3, [10, 6, 3]), (5, .putfield 25, 3, [11, 6, 2, 0, 0]), (8, .aload_n 0, 1, []), (9, .getfield 25, 3, [10, 6, 2]), (12, .aload_n 0, 1, []), (13, .getfield 21, 3, [10, 6, 1]), (16, .if_icmp .ge 44, 3, []), (60, .aload_n 0, 1, []), (61, .aload_n 0, 1, []), (62, .getfield 25, 3, [10, 6, 2]), (65, .putfield 28, 3, [11, 6, 3, 0, 0]), (68, .aload_n 0, 1, []), (69, .getfield 25, 3, [10, 6, 2]), (72, .aload_n 0, 1, []), (73, .getfield 21, 3, [10, 6, 1]), (76, .if_icmp .lt 9, 3, []), (79, .aload_n 0, 1, []), (80, .iconst 0, 1, []), (81, .putfield 34, 3, [11, 6, 4, 0, 0]), (84, .return_, 1, [])]
/-- TingDecks$Tokens.goOn.()V -/
abbrev xm_22 : xe_M := (xc_22, 2, 0, 0, 0, [])
def xc_23 : List xe_I := [(0, .aload_n 0, 1, []), (1, .invokespecial 3, 3, [2]), (4, .aload_n 0, 1, []), (5, .aload_n 1, 1, []), (6, .putfield 9, 3, [11, 6, 0, 3, 1]), (9, .return_, 1, [])]
/-- TingDecks$Tokens.<init>.([B)V -/
abbrev xm_23 : xe_M := (xc_23, 2, 0, 0, 0, [])
def xc_24 : List xe_I := [(0, .iload_n 1, 1, []), (1, .istore_n 2, 1, []), (2, .aload_n 0, 1, []), (3, .iconst 0, 1, []), (4, .putfield 63, 3, [11, 7, 7, 0, 0]), (7, .iconst 0, 1, []), (8, .istore_n 3, 1, []), (9, .iload_n 3, 1, []), (10, .aload_n 0, 1, []), (11, .getfield 40, 3, [10, 7, 4]), (14, .getfield 78, 3, [10, 0, 11]), (17, .if_icmp .ge 82, 3, []), (99, .iload_n 2, 1, []), (100, .ireturn, 1, [])]
/-- TingDecks$Trip.drawComers.(I)I -/
abbrev xm_24 : xe_M := (xc_24, 5, 1, 0, 0, [])
def xc_25 : List xe_I := [(0, .iconst 0, 1, []), (1, .istore_n 2, 1, []), (2, .iload_n 2, 1, []), (3, .aload_n 0, 1, []), (4, .getfield 40, 3, [10, 7, 4]), (7, .getfield 78, 3, [10, 0, 11]), (10, .if_icmp .ge 16, 3, []), (26, .return_, 1, [])]
/-- TingDecks$Trip.fareOfAll.(I)V -/
abbrev xm_25 : xe_M := (xc_25, 3, 0, 0, 0, [])
def xc_26 : List xe_I := [(0, .iconst 0, 1, []), (1, .istore_n 2, 1, []), (2, .iconst 0, 1, []), (3, .istore_n 3, 1, []), (4, .iload_n 3, 1, []), (5, .aload_n 0, 1, []), (6, .getfield 40, 3, [10, 7, 4]), (9, .getfield 78, 3, [10, 0, 11]), (12, .if_icmp .ge 26, 3, []), (38, .iload_n 2, 1, []), (39, .ireturn, 1, [])]
/-- TingDecks$Trip.faresOf.(I)I -/
abbrev xm_26 : xe_M := (xc_26, 4, 1, 0, 0, [])
def xc_27 : List xe_I := [(0, .iconst 0, 1, []), (1, .istore_n 1, 1, []), (2, .iload_n 1, 1, []), (3, .aload_n 0, 1, []), (4, .getfield 40, 3, [10, 7, 4]), (7, .getfield 78, 3, [10, 0, 11]), (10, .if_icmp .ge 23, 3, []), (33, .aload_n 0, 1, []), (34, .iconst 0, 1, []), (35, .putfield 128, 3, [11, 7, 13, 0, 0]), (38, .aload_n 0, 1, []), (39, .iconst 0, 1, []), (40, .putfield 131, 3, [11, 7, 14, 0, 0]), (43, .aload_n 0, 1, []), (44, .iconst 0, 1, []), (45, .putfield 134, 3, [11, 7, 15, 0, 0]), (48, .aload_n 0, 1, []), (49, .iconst 0, 1, []), (50, .putfield 137, 3, [11, 7, 16, 0, 0]), (53, .aload_n 0, 1, []), (54, .iconst 0, 1, []), (55, .putfield 140, 3, [11, 7, 17, 0, 0]), (58, .aload_n 0, 1, []), (59, .iconst 0, 1, []), (60, .putfield 121, 3, [11, 7, 18, 0, 0]), (63, .aload_n 0, 1, []), (64, .iconst 0, 1, []), (65, .putfield 143, 3, [11, 7, 19, 0, 0]), (68, .aload_n 0, 1, []), (69, .iconst 0, 1, []), (70, .putfield 146, 3, [11, 7, 20, 0, 0]), (73, .return_, 1, [])]
/-- TingDecks$Trip.forgetAll.()V -/
abbrev xm_27 : xe_M := (xc_27, 2, 0, 0, 0, [])
def xc_28 : List xe_I := [(0, .iconst 0, 1, []), (1, .istore_n 1, 1, []), (2, .iconst 0, 1, []), (3, .istore_n 2, 1, []), (4, .iload_n 2, 1, []), (5, .aload_n 0, 1, []), (6, .getfield 40, 3, [10, 7, 4]), (9, .getfield 78, 3, [10, 0, 11]), (12, .if_icmp .ge 20, 3, []), (32, .iload_n 1, 1, []), (33, .ireturn, 1, [])]
/-- TingDecks$Trip.lastPaidAt.()I -/
abbrev xm_28 : xe_M := (xc_28, 3, 1, 0, 0, [])
def xc_29 : List xe_I := [(0, .iload_n 1, 1, []), (1, .iconst 1, 1, []), (2, .iadd, 1, []), (3, .istore_n 3, 1, []), (4, .iload_n 3, 1, []), (5, .aload_n 0, 1, []), (6, .getfield 40, 3, [10, 7, 4]), (9, .getfield 69, 3, [10, 0, 10]), (12, .if_icmp .ge 19, 3, []), (15, .aload_n 0, 1, []), (16, .getfield 18, 3, [10, 7, 1]), (19, .iload_n 3, 1, []), (20, .dup2, 1, []), (21, .iaload, 1, []), (22, .iload_n 2, 1, []), (23, .iadd, 1, []), (24, .iastore, 1, []), (25, .iinc 3 1, 3, []), (28, .goto (-24), 3, []), (31, .return_, 1, [])]
/-- TingDecks$Trip.moveBehind.(II)V -/
abbrev xm_29 : xe_M := (xc_29, 4, 0, 0, 0, [])
def xc_30 : List xe_I := [(0, .aload_n 0, 1, []), (1, .getfield 63, 3, [10, 7, 7]), (4, .aload_n 0, 1, []), (5, .getfield 131, 3, [10, 7, 14]), (8, .iconst (-1), 1, []), (9, .ixor, 1, []), (10, .iand, 1, []), (11, .istore_n 3, 1, []), (12, .iconst (-1), 1, []), (13, .istore 4, 2, []), (15, .iconst 0, 1, []), (16, .istore 5, 2, []), (18, .iconst 0, 1, []), (19, .istore 6, 2, []), (21, .iload 6, 2, []), (23, .aload_n 0, 1, []), (24, .getfield 40, 3, [10, 7, 4]), (27, .getfield 78, 3, [10, 0, 11]), (30, .if_icmp .ge 77, 3, []), (107, .iload 4, 2, []), (109, .ireturn, 1, [])]
/-- TingDecks$Trip.pickRider.(II)I -/
abbrev xm_30 : xe_M := (xc_30, 8, 1, 0, 0, [])
def xc_31 : List xe_I := [(0, .aload_n 0, 1, []), (1, .getfield 128, 3, [10, 7, 13]), (4, .iconst 1, 1, []), (5, .isub, 1, []), (6, .istore_n 2, 1, []), (7, .iload_n 2, 1, []), (8, .ifCond .lt 31, 3, []), (39, .aload_n 0, 1, []), (40, .getfield 66, 3, [10, 7, 8]), (43, .ireturn, 1, [])]
/-- TingDecks$Trip.placeIn.(I)I -/
abbrev xm_31 : xe_M := (xc_31, 3, 1, 0, 0, [])
def xc_32 : List xe_I := [(0, .iconst 0, 1, []), (1, .istore_n 1, 1, []), (2, .iconst 0, 1, []), (3, .istore_n 2, 1, []), (4, .iload_n 2, 1, []), (5, .aload_n 0, 1, []), (6, .getfield 40, 3, [10, 7, 4]), (9, .getfield 78, 3, [10, 0, 11]), (12, .if_icmp .ge 26, 3, []), (38, .iload_n 1, 1, []), (39, .ireturn, 1, [])]
/-- TingDecks$Trip.ridersAbove.()I -/
abbrev xm_32 : xe_M := (xc_32, 3, 1, 0, 0, [])
def xc_33 : List xe_I := [(0, .iload_n 1, 1, []), (1, .ifCond .lt 14, 3, []), (4, .iload_n 1, 1, []), (5, .aload_n 0, 1, []), (6, .getfield 20, 3, [10, 8, 2]), (9, .getfield 108, 3, [10, 0, 11]), (12, .if_icmp .lt 14, 3, []), (15, .new 144, 3, [1, 1, 367, 148, 3])]
/-- TingDecks.checkRider.(I)V -/
abbrev xm_33 : xe_M := (xc_33, 2, 0, 1, 6, [])
def xc_34 : List xe_I := [(0, .iload_n 1, 1, []), (1, .ifCond .lt 14, 3, []), (4, .iload_n 1, 1, []), (5, .aload_n 0, 1, []), (6, .getfield 20, 3, [10, 8, 2]), (9, .getfield 105, 3, [10, 0, 10]), (12, .if_icmp .lt 14, 3, []), (15, .new 144, 3, [1, 1, 365, 148, 3]), (26, .return_, 1, [])]
/-- TingDecks.checkStop.(I)V -/
abbrev xm_34 : xe_M := (xc_34, 2, 0, 1, 6, [])
def xc_35 : List xe_I := [(0, .iload_n 1, 1, []), (1, .ifCond .lt 8, 3, []), (4, .iload_n 1, 1, []), (5, .iload_n 2, 1, []), (6, .if_icmp .le 14, 3, []), (9, .new 144, 3, [1, 1, 369, 148, 3]), (20, .return_, 1, [])]
/-- TingDecks.checkWhat.(II)V -/
abbrev xm_35 : xe_M := (xc_35, 3, 0, 1, 6, [])
def xc_36 : List xe_I := [(0, .aload_n 0, 1, []), (1, .getfield 72, 3, [10, 8, 12]), (4, .ireturn, 1, [])]
/-- TingDecks.fault.()I -/
abbrev xm_36 : xe_M := (xc_36, 1, 1, 0, 0, [])
def xc_37 : List xe_I := [(0, .aload_n 0, 1, []), (1, .getfield 30, 3, [10, 8, 4]), (4, .iconst 0, 1, []), (5, .putfield 141, 3, [11, 5, 10, 0, 0]), (8, .return_, 1, [])]
/-- TingDecks.forget.()V -/
abbrev xm_37 : xe_M := (xc_37, 1, 0, 0, 0, [])
def xc_38 : List xe_I := [(0, .iconst 0, 1, []), (1, .istore_n 2, 1, []), (2, .iload_n 2, 1, []), (3, .aload_n 0, 1, []), (4, .getfield 30, 3, [10, 8, 4]), (7, .getfield 141, 3, [10, 5, 10]), (10, .if_icmp .ge 64, 3, []), (74, .iconst 1, 1, []), (75, .ireturn, 1, [])]
/-- TingDecks.isAsCounted.(I)Z -/
abbrev xm_38 : xe_M := (xc_38, 5, 4, 0, 0, [])
def xc_39 : List xe_I := [(0, .iload_n 1, 1, []), (1, .iconst (-1), 1, []), (2, .if_icmp .lt 18, 3, []), (5, .iload_n 1, 1, []), (6, .aload_n 0, 1, []), (7, .getfield 20, 3, [10, 8, 2]), (10, .getfield 111, 3, [10, 0, 12]), (13, .if_icmp .ge 7, 3, []), (16, .iconst 1, 1, []), (17, .goto 4, 3, []), (20, .iconst 0, 1, []), (21, .ireturn, 1, [])]
/-- TingDecks.isRuleOrNone.(I)Z -/
abbrev xm_39 : xe_M := (xc_39, 2, 4, 0, 0, [])
def xc_40 : List xe_I := [(0, .iload_n 1, 1, []), (1, .aload_n 0, 1, []), (2, .getfield 20, 3, [10, 8, 2]), (5, .getfield 117, 3, [10, 0, 5]), (8, .iconst 3, 1, []), (9, .iaload, 1, []), (10, .iload_n 2, 1, []), (11, .imul, 1, []), (12, .bipush 60, 2, []), (14, .idiv, 1, []), (15, .isub, 1, []), (16, .ireturn, 1, [])]
/-- TingDecks.netOf.(II)I -/
abbrev xm_40 : xe_M := (xc_40, 3, 1, 0, 0, [])
def xc_41 : List xe_I := [(0, .bipush 24, 2, []), (2, .istore_n 2, 1, []), (3, .iload_n 2, 1, []), (4, .ifCond .lt 42, 3, []), (7, .aload_n 0, 1, []), (8, .getfield 79, 3, [10, 8, 11]), (11, .sipush 700, 3, []), (14, .if_icmp .ge 32, 3, []), (17, .aload_n 0, 1, []), (18, .getfield 9, 3, [10, 8, 0]), (21, .aload_n 0, 1, []), (22, .getfield 79, 3, [10, 8, 11]), (25, .iload_n 1, 1, []), (26, .iload_n 2, 1, []), (27, .ishr, 1, []), (28, .i2b, 1, []), (29, .bastore, 1, []), (30, .aload_n 0, 1, []), (31, .dup, 1, []), (32, .getfield 79, 3, [10, 8, 11]), (35, .iconst 1, 1, []), (36, .iadd, 1, []), (37, .putfield 79, 3, [11, 8, 11, 0, 0]), (40, .iinc 2 (-8), 3, []), (43, .goto (-40), 3, []), (46, .return_, 1, [])]
/-- TingDecks.putNumber.(I)V -/
abbrev xm_41 : xe_M := (xc_41, 3, 0, 0, 0, [])
def xc_42 : List xe_I := [(0, .aload_n 0, 1, []), (1, .getfield 98, 3, [10, 8, 13]), (4, .ifCond .ne 5, 3, []), (7, .iconst 0, 1, []), (8, .ireturn, 1, [])]
/-- TingDecks.restore.()Z -/
abbrev xm_42 : xe_M := (xc_42, 1, 4, 0, 0, [])
def xc_43 : List xe_I := [(0, .aload_n 0, 1, []), (1, .iconst 0, 1, []), (2, .putfield 371, 3, [11, 8, 14, 1, 0]), (5, .aload_n 0, 1, []), (6, .iconst 0, 1, []), (7, .putfield 374, 3, [11, 8, 15, 1, 0]), (10, .aload_n 0, 1, []), (11, .iconst 0, 1, []), (12, .putfield 377, 3, [11, 8, 16, 1, 0]), (15, .return_, 1, [])]
/-- TingDecks.stateChanged.()V -/
abbrev xm_43 : xe_M := (xc_43, 1, 0, 0, 0, [])
def xc_44 : List xe_I := [(0, .aload_n 0, 1, []), (1, .getfield 30, 3, [10, 8, 4]), (4, .getfield 138, 3, [10, 5, 9]), (7, .ifCond .ne 5, 3, []), (10, .iconst (-1), 1, []), (11, .ireturn, 1, [])]
/-- TingDecks.undo.()I -/
abbrev xm_44 : xe_M := (xc_44, 1, 1, 0, 0, [])
def xc_45 : List xe_I := [(0, .aload_n 0, 1, []), (1, .iconst 0, 1, []), (2, .putfield 449, 3, [11, 9, 72, 0, 0]), (5, .aload_n 0, 1, []), (6, .iconst 0, 1, []), (7, .putfield 452, 3, [11, 9, 73, 0, 0]), (10, .iconst 0, 1, []), (11, .istore_n 1, 1, []), (12, .iload_n 1, 1, []), (13, .aload_n 0, 1, []), (14, .getfield 315, 3, [10, 9, 2]), (17, .if_icmp .ge 77, 3, []), (94, .return_, 1, [])]
/-- TingDecksModel.asks.()V -/
abbrev xm_45 : xe_M := (xc_45, 2, 0, 0, 0, [])
def xc_46 : List xe_I := [(0, .iconst 0, 1, []), (1, .istore_n 2, 1, []), (2, .iconst 0, 1, []), (3, .istore_n 3, 1, []), (4, .iload_n 3, 1, []), (5, .iload_n 1, 1, []), (6, .if_icmp .ge 27, 3, []), (9, .iload_n 2, 1, []), (10, .aload_n 0, 1, []), (11, .getfield 96, 3, [10, 9, 50]), (14, .iconst 0, 1, []), (15, .iload_n 3, 1, []), (16, .iadd, 1, []), (17, .iaload, 1, []), (18, .aload_n 0, 1, []), (19, .getfield 44, 3, [10, 9, 14]), (22, .iload_n 3, 1, []), (23, .iaload, 1, []), (24, .iadd, 1, []), (25, .iadd, 1, []), (26, .istore_n 2, 1, []), (27, .iinc 3 1, 3, []), (30, .goto (-26), 3, []), (33, .iload_n 2, 1, []), (34, .ireturn, 1, [])]
/-- TingDecksModel.atSecond.(I)I -/
abbrev xm_46 : xe_M := (xc_46, 4, 1, 0, 0, [])
def xc_47 : List xe_I := [(0, .aload_n 0, 1, []), (1, .iconst 0, 1, []), (2, .putfield 150, 3, [11, 9, 0, 0, 0]), (5, .iconst (-1), 1, []), (6, .istore_n 1, 1, []), (7, .iconst 0, 1, []), (8, .istore_n 2, 1, []), (9, .iload_n 2, 1, []), (10, .aload_n 0, 1, []), (11, .getfield 318, 3, [10, 9, 3]), (14, .if_icmp .ge 24, 3, []), (38, .iload_n 1, 1, []), (39, .ireturn, 1, [])]
/-- TingDecksModel.best.()I -/
abbrev xm_47 : xe_M := (xc_47, 3, 1, 0, 0, [])
def xc_48 : List xe_I := [(0, .iload_n 1, 1, []), (1, .aload_n 0, 1, []), (2, .getfield 160, 3, [10, 9, 22]), (5, .if_icmp .ge 12, 3, []), (17, .iconst 0, 1, []), (18, .ireturn, 1, [])]
/-- TingDecksModel.byteAt.(I)I -/
abbrev xm_48 : xe_M := (xc_48, 2, 1, 0, 0, [])
def xc_49 : List xe_I := [(0, .iconst 0, 1, []), (1, .istore_n 3, 1, []), (2, .iload_n 3, 1, [8]), (3, .aload_n 1, 1, []), (4, .arraylength, 1, []), (5, .if_icmp .ge 15, 3, []), (8, .aload_n 2, 1, []), (9, .iload_n 3, 1, []), (10, .aload_n 1, 1, []), (11, .iload_n 3, 1, []), (12, .iaload, 1, []), (13, .iastore, 1, []), (14, .iinc 3 1, 3, []), (17, .goto (-15), 3, []), (20, .return_, 1, [])]
/-- TingDecksModel.copies.([I[I)V -/
abbrev xm_49 : xe_M := (xc_49, 4, 0, 0, 0, [])
def xc_50 : List xe_I := [(0, .iconst 1, 1, []), (1, .aload_n 0, 1, []), (2, .getfield 315, 3, [10, 9, 2]), (5, .ishl, 1, []), (6, .iconst 1, 1, []), (7, .isub, 1, []), (8, .ireturn, 1, [])]
/-- TingDecksModel.everybody.()I -/
abbrev xm_50 : xe_M := (xc_50, 1, 1, 0, 0, [])
def xc_51 : List xe_I := [(0, .iconst 0, 1, []), (1, .istore_n 2, 1, []), (2, .iconst 0, 1, []), (3, .istore_n 3, 1, []), (4, .iload_n 3, 1, []), (5, .aload_n 0, 1, []), (6, .getfield 315, 3, [10, 9, 2]), (9, .if_icmp .ge 30, 3, []), (39, .iload_n 2, 1, []), (40, .ireturn, 1, [])]
/-- TingDecksModel.faresOf.(I)I -/
abbrev xm_51 : xe_M := (xc_51, 4, 1, 0, 0, [])
def xc_52 : List xe_I := [(0, .aload_n 0, 1, []), (1, .iconst 0, 1, []), (2, .putfield 150, 3, [11, 9, 0, 0, 0]), (5, .aload_n 0, 1, []), (6, .getfield 56, 3, [10, 9, 20]), (9, .ireturn, 1, [])]
/-- TingDecksModel.fault.()I -/
abbrev xm_52 : xe_M := (xc_52, 1, 1, 0, 0, [])
def xc_53 : List xe_I := [(0, .aload_n 0, 1, []), (1, .iconst 0, 1, []), (2, .putfield 150, 3, [11, 9, 0, 0, 0]), (5, .aload_n 0, 1, []), (6, .iconst 0, 1, []), (7, .putfield 328, 3, [11, 9, 74, 0, 0]), (10, .return_, 1, [])]
/-- TingDecksModel.forget.()V -/
abbrev xm_53 : xe_M := (xc_53, 1, 0, 0, 0, [])
def xc_54 : List xe_I := [(0, .iconst 0, 1, []), (1, .istore_n 1, 1, []), (2, .iconst 0, 1, []), (3, .istore_n 2, 1, []), (4, .iload_n 2, 1, []), (5, .aload_n 0, 1, []), (6, .getfield 7, 3, [10, 9, 1]), (9, .if_icmp .ge 20, 3, []), (12, .iload_n 1, 1, []), (13, .aload_n 0, 1, []), (14, .getfield 96, 3, [10, 9, 50]), (17, .iconst 0, 1, []), (18, .iload_n 2, 1, []), (19, .iadd, 1, []), (20, .iaload, 1, []), (21, .iadd, 1, []), (22, .istore_n 1, 1, []), (23, .iinc 2 1, 3, []), (26, .goto (-22), 3, []), (29, .iload_n 1, 1, []), (30, .ireturn, 1, [])]
/-- TingDecksModel.holds.()I -/
abbrev xm_54 : xe_M := (xc_54, 3, 1, 0, 0, [])
def xc_55 : List xe_I := [(0, .aload_n 0, 1, []), (1, .invokespecial 1, 3, [2]), (4, .aload_n 0, 1, []), (5, .iconst 2, 1, []), (6, .putfield 7, 3, [11, 9, 1, 0, 0]), (9, .aload_n 0, 1, []), (10, .iconst 1, 1, []), (11, .putfield 13, 3, [11, 9, 4, 0, 0]), (14, .aload_n 0, 1, []), (15, .bipush 11, 2, []), (17, .putfield 16, 3, [11, 9, 5, 0, 0]), (20, .aload_n 0, 1, []), (21, .iconst 5, 1, []), (22, .putfield 19, 3, [11, 9, 6, 0, 0]), (25, .aload_n 0, 1, []), (26, .bipush 6, 2, []), (28, .putfield 22, 3, [11, 9, 7, 0, 0]), (31, .aload_n 0, 1, []), (32, .bipush 10, 2, []), (34, .putfield 25, 3, [11, 9, 8, 0, 0]), (37, .aload_n 0, 1, []), (38, .iconst (-1), 1, []), (39, .putfield 28, 3, [11, 9, 9, 0, 0]), (42, .aload_n 0, 1, []), (43, .bipush 12, 2, []), (45, .newarray .int, 2, []), (47, .putfield 31, 3, [11, 9, 10, 3, 1]), (50, .aload_n 0, 1, []), (51, .bipush 12, 2, []), (53, .newarray .int, 2, []), (55, .putfield 35, 3, [11, 9, 11, 3, 1]), (58, .aload_n 0, 1, []), (59, .bipush 12, 2, []), (61, .newarray .int, 2, []), (63, .putfield 38, 3, [11, 9, 12, 3, 1]), (66, .aload_n 0, 1, []), (67, .bipush 12, 2, []), (69, .newarray .int, 2, []), (71, .putfield 41, 3, [11, 9, 13, 3, 1]), (74, .aload_n 0, 1, []), (75, .bipush 11, 2, []), (77, .newarray .int, 2, []), (79, .dup, 1, []), (80, .iconst 0, 1, []), (81, .bipush 60, 2, []), (83, .iastore, 1, []), (84, .dup, 1, []), (85, .iconst 1, 1, []), (86, .iconst 0, 1, []), (87, .iastore, 1, []), (88, .dup, 1, []), (89, .iconst 2, 1, []), (90, .iconst 0, 1, []), (91, .iastore, 1, []), (92, .dup, 1, []), (93, .iconst 3, 1, []), (94, .iconst 0, 1, []), (95, .iastore, 1, []), (96, .dup, 1, []), (97, .iconst 4, 1, []), (98, .iconst 0, 1, []), (99, .iastore, 1, []), (100, .dup, 1, []), (101, .iconst 5, 1, []), (102, .iconst 0, 1, []), (103, .iastore, 1, []), (104, .dup, 1, []), (105, .bipush 6, 2, []), (107, .iconst 0, 1, []), (108, .iastore, 1, []), (109, .dup, 1, []), (110, .bipush 7, 2, []), (112, .iconst 0, 1, []), (113, .iastore, 1, []), (114, .dup, 1, []), (115, .bipush 8, 2, []), (117, .iconst 0, 1, []), (118, .iastore, 1, []), (119, .dup, 1, []), (120, .bipush 9, 2, []), (122, .iconst 0, 1, []), (123, .iastore, 1, []), (124, .dup, 1, []), (125, .bipush 10, 2, []), (127, .iconst 0, 1, []), (128, .iastore, 1, []), (129, .putfield 44, 3, [11, 9, 14, 3, 1]), (132, .aload_n 0, 1, []), (133, .iconst 4, 1, []), (134, .newarray .int, 2, []), (136, .putfield 47, 3, [11, 9, 15, 3, 1]), (139, .aload_n 0, 1, []), (140, .sipush 3000, 3, []), (143, .newarray .int, 2, []), (145, .putfield 50, 3, [11, 9, 16, 3, 1]), (148, .aload_n 0, 1, []), (149, .sipush 700, 3, []), (152, .newarray .int, 2, []), (154, .putfield 53, 3, [11, 9, 17, 3, 1]), (157, .aload_n 0, 1, []), (158, .iconst (-1), 1, []), (159, .putfield 56, 3, [11, 9, 20, 0, 0]), (162, .aload_n 0, 1, []), (163, .iconst 3, 1, []), (164, .newarray .int, 2, []), (166, .putfield 59, 3, [11, 9, 21, 3, 1]), (169, .aload_n 0, 1, []), (170, .bipush 12, 2, []), (172, .newarray .int, 2, []), (174, .putfield 62, 3, [11, 9, 39, 3, 1]), (177, .aload_n 0, 1, []), (178, .bipush 12, 2, []), (180, .newarray .int, 2, []), (182, .putfield 65, 3, [11, 9, 40, 3, 1]), (185, .aload_n 0, 1, []), (186, .bipush 12, 2, []), (188, .newarray .int, 2, []), (190, .putfield 68, 3, [11, 9, 41, 3, 1]), (193, .aload_n 0, 1, []), (194, .bipush 12, 2, []), (196, .newarray .int, 2, []), (198, .putfield 71, 3, [11, 9, 42, 3, 1]), (201, .aload_n 0, 1, []), (202, .bipush 12, 2, []), (204, .newarray .int, 2, []), (206, .putfield 74, 3, [11, 9, 43, 3, 1]), (209, .aload_n 0, 1, []), (210, .bipush 11, 2, []), (212, .newarray .int, 2, []), (214, .putfield 77, 3, [11, 9, 44, 3, 1]), (217, .aload_n 0, 1, []), (218, .iconst 5, 1, []), (219, .newarray .int, 2, []), (221, .putfield 80, 3, [11, 9, 45, 3, 1]), (224, .aload_n 0, 1, []), (225, .iconst 4, 1, []), (226, .newarray .int, 2, []), (228, .putfield 83, 3, [11, 9, 46, 3, 1]), (231, .aload_n 0, 1, []), (232, .sipush 3000, 3, []), (235, .newarray .int, 2, []), (237, .putfield 86, 3, [11, 9, 47, 3, 1]), (240, .aload_n 0, 1, []), (241, .sipush 950, 3, []), (244, .newarray .int, 2, []), (246, .putfield 89, 3, [11, 9, 48, 3, 1]), (249, .aload_n 0, 1, []), (250, .bipush 9, 2, []), (252, .newarray .boolean, 2, []), (254, .putfield 92, 3, [11, 9, 49, 3, 1]), (257, .aload_n 0, 1, []), (258, .bipush 25, 2, []), (260, .newarray .int, 2, []), (262, .dup, 1, []), (263, .iconst 0, 1, []), (264, .iconst 0, 1, []), (265, .iastore, 1, []), (266, .dup, 1, []), (267, .iconst 1, 1, []), (268, .iconst 0, 1, []), (269, .iastore, 1, []), (270, .dup, 1, []), (271, .iconst 2, 1, []), (272, .iconst 0, 1, []), (273, .iastore, 1, []), (274, .dup, 1, []), (275, .iconst 3, 1, []), (276, .iconst 0, 1, []), (277, .iastore, 1, []), (278, .dup, 1, []), (279, .iconst 4, 1, []), (280, .iconst 0, 1, []), (281, .iastore, 1, []), (282, .dup, 1, []), (283, .iconst 5, 1, []), (284, .iconst 0, 1, []), (285, .iastore, 1, []), (286, .dup, 1, []), (287, .bipush 6, 2, []), (289, .iconst 0, 1, []), (290, .iastore, 1, []), (291, .dup, 1, []), (292, .bipush 7, 2, []), (294, .iconst 0, 1, []), (295, .iastore, 1, []), (296, .dup, 1, []), (297, .bipush 8, 2, []), (299, .iconst 0, 1, []), (300, .iastore, 1, []), (301, .dup, 1, []), (302, .bipush 9, 2, []), (304, .iconst 0, 1, []), (305, .iastore, 1, []), (306, .dup, 1, []), (307, .bipush 10, 2, []), (309, .iconst 0, 1, []), (310, .iastore, 1, []), (311, .dup, 1, []), (312, .bipush 11, 2, []), (314, .iconst 0, 1, []), (315, .iastore, 1, []), (316, .dup, 1, []), (317, .bipush 12, 2, []), (319, .iconst 0, 1, []), (320, .iastore, 1, []), (321, .dup, 1, []), (322, .bipush 13, 2, []), (324, .iconst 0, 1, []), (325, .iastore, 1, []), (326, .dup, 1, []), (327, .bipush 14, 2, []), (329, .iconst 0, 1, []), (330, .iastore, 1, []), (331, .dup, 1, []), (332, .bipush 15, 2, []), (334, .iconst 0, 1, []), (335, .iastore, 1, []), (336, .dup, 1, []), (337, .bipush 16, 2, []), (339, .iconst 0, 1, []), (340, .iastore, 1, []), (341, .dup, 1, []), (342, .bipush 17, 2, []), (344, .iconst 0, 1, []), (345, .iastore, 1, []), (346, .dup, 1, []), (347, .bipush 18, 2, []), (349, .iconst 0, 1, []), (350, .iastore, 1, []), (351, .dup, 1, []), (352, .bipush 19, 2, []), (354, .iconst 0, 1, []), (355, .iastore, 1, []), (356, .dup, 1, []), (357, .bipush 20, 2, []), (359, .iconst 0, 1, []), (360, .iastore, 1, []), (361, .dup, 1, []), (362, .bipush 21, 2, []), (364, .iconst 0, 1, []), (365, .iastore, 1, []), (366, .dup, 1, []), (367, .bipush 22, 2, []), (369, .iconst 0, 1, []), (370, .iastore, 1, []), (371, .dup, 1, []), (372, .bipush 23, 2, []), (374, .iconst 0, 1, []), (375, .iastore, 1, []), (376, .dup, 1, []), (377, .bipush 24, 2, []), (379, .iconst (-1), 1, []), (380, .iastore, 1, []), (381, .putfield 96, 3, [11, 9, 50, 3, 1]), (384, .aload_n 0, 1, []), (385, .bipush 80, 2, []), (387, .newarray .int, 2, []), (389, .putfield 99, 3, [11, 9, 52, 3, 1]), (392, .aload_n 0, 1, []), (393, .bipush 8, 2, []), (395, .newarray .int, 2, []), (397, .putfield 102, 3, [11, 9, 53, 3, 1]), (400, .aload_n 0, 1, []), (401, .sipush 950, 3, []), (404, .newarray .int, 2, []), (406, .putfield 105, 3, [11, 9, 54, 3, 1]), (409, .aload_n 0, 1, []), (410, .iconst (-1), 1, []), (411, .putfield 108, 3, [11, 9, 55, 0, 0]), (414, .aload_n 0, 1, []), (415, .bipush 12, 2, []), (417, .newarray .int, 2, []), (419, .putfield 111, 3, [11, 9, 56, 3, 1]), (422, .aload_n 0, 1, []), (423, .bipush 12, 2, []), (425, .newarray .int, 2, []), (427, .putfield 114, 3, [11, 9, 57, 3, 1]), (430, .aload_n 0, 1, []), (431, .bipush 12, 2, []), (433, .newarray .int, 2, []), (435, .putfield 117, 3, [11, 9, 58, 3, 1]), (438, .aload_n 0, 1, []), (439, .bipush 12, 2, []), (441, .newarray .int, 2, []), (443, .putfield 120, 3, [11, 9, 59, 3, 1]), (446, .aload_n 0, 1, []), (447, .bipush 12, 2, []), (449, .newarray .int, 2, []), (451, .putfield 123, 3, [11, 9, 60, 3, 1]), (454, .aload_n 0, 1, []), (455, .bipush 12, 2, []), (457, .newarray .int, 2, []), (459, .putfield 126, 3, [11, 9, 61, 3, 1]), (462, .aload_n 0, 1, []), (463, .bipush 12, 2, []), (465, .newarray .int, 2, []), (467, .putfield 129, 3, [11, 9, 62, 3, 1]), (470, .aload_n 0, 1, []), (471, .sipush 10240, 3, []), (474, .newarray .int, 2, []), (476, .putfield 132, 3, [11, 9, 70, 3, 1]), (479, .aload_n 0, 1, []), (480, .bipush 8, 2, []), (482, .newarray .int, 2, []), (484, .putfield 135, 3, [11, 9, 71, 3, 1]), (487, .aload_n 0, 1, []), (488, .bipush 24, 2, []), (490, .newarray .int, 2, []), (492, .putfield 138, 3, [11, 9, 75, 3, 1]), (495, .aload_n 0, 1, []), (496, .bipush 25, 2, []), (498, .newarray .int, 2, []), (500, .putfield 141, 3, [11, 9, 80, 3, 1]), (503, .aload_n 0, 1, []), (504, .bipush 80, 2, []), (506, .newarray .int, 2, []), (508, .putfield 144, 3, [11, 9, 81, 3, 1]), (511, .aload_n 0, 1, []), (512, .bipush 24, 2, []), (514, .newarray .int, 2, []), (516, .putfield 147, 3, [11, 9, 82, 3, 1]), (519, .return_, 1, [])]
/-- TingDecksModel.<init>.()V -/
abbrev xm_55 : xe_M := (xc_55, 1, 0, 37, 19353, [])
def xc_56 : List xe_I := [(0, .iconst 0, 1, []), (1, .istore_n 2, 1, []), (2, .iload_n 2, 1, []), (3, .aload_n 0, 1, []), (4, .getfield 328, 3, [10, 9, 74]), (7, .if_icmp .ge 103, 3, []), (110, .iconst 1, 1, []), (111, .ireturn, 1, [])]
/-- TingDecksModel.isCounted.(I)Z -/
abbrev xm_56 : xe_M := (xc_56, 5, 4, 0, 0, [])
def xc_57 : List xe_I := [(0, .aload_n 0, 1, []), (1, .getfield 206, 3, [10, 9, 19]), (4, .ifCond .ne 7, 3, []), (7, .iconst 1, 1, []), (8, .goto 4, 3, []), (12, .ireturn, 1, [])]
/-- TingDecksModel.isGood.()Z -/
abbrev xm_57 : xe_M := (xc_57, 1, 4, 0, 0, [])
def xc_58 : List xe_I := [(0, .aload_n 0, 1, []), (1, .getfield 325, 3, [10, 9, 51]), (4, .bipush 40, 2, []), (6, .if_icmp .ne 41, 3, []), (47, .aload_n 0, 1, []), (48, .getfield 99, 3, [10, 9, 52]), (51, .iconst 2, 1, []), (52, .aload_n 0, 1, []), (53, .getfield 325, 3, [10, 9, 51]), (56, .imul, 1, []), (57, .iload_n 1, 1, []), (58, .iastore, 1, []), (59, .aload_n 0, 1, []), (60, .getfield 99, 3, [10, 9, 52]), (63, .iconst 2, 1, []), (64, .aload_n 0, 1, []), (65, .getfield 325, 3, [10, 9, 51]), (68, .imul, 1, []), (69, .iconst 1, 1, []), (70, .iadd, 1, []), (71, .aload_n 0, 1, []), (72, .getfield 96, 3, [10, 9, 50]), (75, .iload_n 1, 1, []), (76, .iaload, 1, []), (77, .iastore, 1, []), (78, .aload_n 0, 1, []), (79, .dup, 1, []), (80, .getfield 325, 3, [10, 9, 51]), (83, .iconst 1, 1, []), (84, .iadd, 1, []), (85, .putfield 325, 3, [11, 9, 51, 0, 0]), (88, .return_, 1, [])]
/-- TingDecksModel.keeps.(I)V -/
abbrev xm_58 : xe_M := (xc_58, 3, 0, 0, 0, [])
def xc_59 : List xe_I := [(0, .bipush 24, 2, []), (2, .istore_n 2, 1, []), (3, .iload_n 2, 1, []), (4, .ifCond .lt 35, 3, []), (7, .aload_n 0, 1, []), (8, .getfield 53, 3, [10, 9, 17]), (11, .aload_n 0, 1, []), (12, .getfield 153, 3, [10, 9, 18]), (15, .iload_n 1, 1, []), (16, .iload_n 2, 1, []), (17, .ishr, 1, []), (18, .sipush 255, 3, []), (21, .iand, 1, []), (22, .iastore, 1, []), (23, .aload_n 0, 1, []), (24, .dup, 1, []), (25, .getfield 153, 3, [10, 9, 18]), (28, .iconst 1, 1, []), (29, .iadd, 1, []), (30, .putfield 153, 3, [11, 9, 18, 0, 0]), (33, .iinc 2 (-8), 3, []), (36, .goto (-33), 3, []), (39, .return_, 1, [])]
/-- TingDecksModel.lays.(I)V -/
abbrev xm_59 : xe_M := (xc_59, 3, 0, 0, 0, [])
def xc_60 : List xe_I := [(0, .iconst 1, 1, []), (1, .istore_n 2, 1, []), (2, .iload_n 2, 1, []), (3, .iload_n 1, 1, []), (4, .if_icmp .gt 233, 3, []), (237, .return_, 1, [])]
/-- TingDecksModel.orders.(I)V -/
abbrev xm_60 : xe_M := (xc_60, 8, 0, 0, 0, [])
def xc_61 : List xe_I := [(0, .iconst (-1), 1, []), (1, .istore 5, 2, []), (3, .iconst 0, 1, []), (4, .istore 6, 2, []), (6, .iconst 0, 1, []), (7, .istore 7, 2, []), (9, .iload 7, 2, []), (11, .aload_n 0, 1, []), (12, .getfield 315, 3, [10, 9, 2]), (15, .if_icmp .ge 140, 3, []), (155, .iload 5, 2, []), (157, .ireturn, 1, [])]
/-- TingDecksModel.picks.(IIII)I -/
abbrev xm_61 : xe_M := (xc_61, 9, 1, 0, 0, [])
def xc_62 : List xe_I := [(0, .lload_n 2, 1, []), (1, .lstore 5, 2, []), (3, .lload_n 0, 1, []), (4, .lstore 7, 2, []), (6, .lload 7, 2, []), (8, .lconst 0, 1, []), (9, .lcmp, 1, []), (10, .ifCond .eq 21, 3, []), (31, .iload 4, 2, []), (33, .ifCond .ne 7, 3, []), (36, .lload_n 0, 1, []), (37, .goto 4, 3, []), (40, .lload_n 2, 1, []), (41, .lload 5, 2, []), (43, .ldiv, 1, []), (44, .lreturn, 1, [])]
/-- TingDecksModel.portion.(JJI)J -/
abbrev xm_62 : xe_M := (xc_62, 11, 2, 0, 0, [])
def xc_63 : List xe_I := [(0, .aload_n 0, 1, []), (1, .getfield 59, 3, [10, 9, 21]), (4, .iload_n 1, 1, []), (5, .dup2, 1, []), (6, .iaload, 1, []), (7, .iconst 1, 1, []), (8, .iadd, 1, []), (9, .iastore, 1, []), (10, .iconst (-1), 1, []), (11, .ireturn, 1, [])]
/-- TingDecksModel.refuses.(I)I -/
abbrev xm_63 : xe_M := (xc_63, 2, 1, 0, 0, [])
def xc_64 : List xe_I := [(0, .aload_n 0, 1, []), (1, .iconst 0, 1, []), (2, .putfield 150, 3, [11, 9, 0, 0, 0]), (5, .aload_n 0, 1, []), (6, .getfield 331, 3, [10, 9, 77]), (9, .ifCond .ne 5, 3, []), (12, .iconst 0, 1, []), (13, .ireturn, 1, [])]
/-- TingDecksModel.restore.()Z -/
abbrev xm_64 : xe_M := (xc_64, 1, 4, 0, 0, [])
def xc_65 : List xe_I := [(0, .aload_n 0, 1, []), (1, .getfield 150, 3, [10, 9, 0]), (4, .ifCond .ne 12, 3, []), (7, .iload_n 1, 1, []), (8, .ifCond .ne 8, 3, []), (11, .aload_n 0, 1, []), (12, .iload_n 2, 1, []), (13, .putfield 150, 3, [11, 9, 0, 0, 0]), (16, .aload_n 0, 1, []), (17, .getfield 150, 3, [10, 9, 0]), (20, .ifCond .ne 7, 3, []), (23, .iconst 1, 1, []), (24, .goto 4, 3, []), (27, .iconst 0, 1, []), (28, .ireturn, 1, [])]
/-- TingDecksModel.right.(ZI)Z -/
abbrev xm_65 : xe_M := (xc_65, 3, 4, 0, 0, [])
def xc_66 : List xe_I := [(0, .lconst 1, 1, []), (1, .lstore_n 1, 1, []), (2, .iconst 0, 1, []), (3, .istore_n 3, 1, []), (4, .iload_n 3, 1, []), (5, .aload_n 0, 1, []), (6, .getfield 449, 3, [10, 9, 72]), (9, .if_icmp .ge 15, 3, []), (24, .lload_n 1, 1, []), (25, .lreturn, 1, [])]
/-- TingDecksModel.tens.()J -/
abbrev xm_66 : xe_M := (xc_66, 4, 2, 0, 0, [])
def xc_67 : List xe_I := [(0, .aload_n 0, 1, []), (1, .getfield 150, 3, [10, 9, 0]), (4, .ireturn, 1, [])]
/-- TingDecksModel.thrown.()I -/
abbrev xm_67 : xe_M := (xc_67, 1, 1, 0, 0, [])
def xc_68 : List xe_I := [(0, .aload_n 0, 1, []), (1, .iconst 0, 1, []), (2, .putfield 150, 3, [11, 9, 0, 0, 0]), (5, .aload_n 0, 1, []), (6, .getfield 325, 3, [10, 9, 51]), (9, .ifCond .ne 5, 3, []), (12, .iconst (-1), 1, []), (13, .ireturn, 1, [])]
/-- TingDecksModel.undo.()I -/
abbrev xm_68 : xe_M := (xc_68, 1, 1, 0, 0, [])
def xc_69 : List xe_I := [(0, .iload_n 0, 1, []), (1, .iload_n 1, 1, []), (2, .if_icmp .lt 12, 3, []), (5, .iload_n 0, 1, []), (6, .iload_n 2, 1, []), (7, .if_icmp .gt 7, 3, []), (10, .iconst 1, 1, []), (11, .goto 4, 3, []), (14, .iconst 0, 1, []), (15, .ireturn, 1, [])]
/-- TingDecksModel.within.(III)Z -/
abbrev xm_69 : xe_M := (xc_69, 3, 4, 0, 0, [])
def xc_70 : List xe_I := [(0, .aload_n 0, 1, []), (1, .aload_n 1, 1, []), (2, .getfield 17, 3, [10, 7, 4]), (5, .getfield 23, 3, [10, 0, 11]), (8, .bipush 10, 2, []), (10, .invokestatic 29, 3, [7]), (13, .putfield 35, 3, [11, 2, 1, 0, 0]), (16, .iconst 1, 1, []), (17, .aload_n 0, 1, []), (18, .getfield 35, 3, [10, 2, 1]), (21, .ishl, 1, []), (22, .istore_n 2, 1, []), (23, .aload_n 0, 1, []), (24, .getfield 11, 3, [10, 2, 0]), (27, .arraylength, 1, []), (28, .ifCond .ne 12, 3, []), (31, .aload_n 0, 1, []), (32, .sipush 10240, 3, []), (35, .newarray .int, 2, []), (37, .putfield 11, 3, [11, 2, 0, 3, 0]), (40, .iconst 0, 1, []), (41, .istore_n 3, 1, []), (42, .iload_n 3, 1, []), (43, .iload_n 2, 1, []), (44, .bipush 10, 2, []), (46, .imul, 1, []), (47, .if_icmp .ge 17, 3, []), (50, .aload_n 0, 1, []), (51, .getfield 11, 3, [10, 2, 0]), (54, .iload_n 3, 1, []), (55, .ldc 36, 2, [13, 2147483647]), (57, .iastore, 1, []), (58, .iinc 3 1, 3, []), (61, .goto (-19), 3, []), (64, .aload_n 0, 1, []), (65, .aload_n 1, 1, []), (66, .iconst 0, 1, []), (67, .iconst 0, 1, []), (68, .iconst 0, 1, []), (69, .invokevirtual 37, 3, [0, 12, 5, 12]), (72, .iconst 1, 1, []), (73, .istore_n 3, 1, []), (74, .iload_n 3, 1, []), (75, .iload_n 2, 1, []), (76, .if_icmp .ge 63, 3, []), (139, .aload_n 0, 1, []), (140, .aload_n 1, 1, []), (141, .iload_n 2, 1, []), (142, .invokevirtual 44, 3, [0, 11, 3, 12]), (145, .return_, 1, [])]
/-- TingDecks$Orders.reckon.(LTingDecks$Trip;)V -/
abbrev xm_70 : xe_M := (xc_70, 6, 0, 1, 10240, [])
def xc_71 : List xe_I := [(0, .aload_n 0, 1, []), (1, .invokespecial 3, 3, [2]), (4, .aload_n 0, 1, []), (5, .new 9, 3, [12, 6, 6]), (8, .dup, 1, []), (9, .aload_n 1, 1, []), (10, .invokespecial 11, 3, [0, 23, 2, 1]), (13, .putfield 14, 3, [11, 3, 0, 3, 1]), (16, .aload_n 0, 1, []), (17, .aload_n 2, 1, []), (18, .putfield 20, 3, [11, 3, 1, 3, 0]), (21, .return_, 1, [])]
/-- TingDecks$Parser.<init>.([BLTingDecks$Bus;)V -/
abbrev xm_71 : xe_M := (xc_71, 3, 0, 1, 6, [])
def xc_72 : List xe_I := [(0, .aload_n 0, 1, []), (1, .iload_n 1, 1, []), (2, .aload_n 0, 1, []), (3, .getfield 9, 3, [10, 6, 0]), (6, .arraylength, 1, []), (7, .invokestatic 15, 3, [7]), (10, .putfield 21, 3, [11, 6, 1, 0, 0]), (13, .aload_n 0, 1, []), (14, .iconst 0, 1, []), (15, .putfield 25, 3, [11, 6, 2, 0, 0]), (18, .aload_n 0, 1, []), (19, .iconst 0, 1, []), (20, .putfield 28, 3, [11, 6, 3, 0, 0]), (23, .aload_n 0, 1, []), (24, .invokevirtual 31, 3, [0, 22, 1, 16]), (27, .return_, 1, [])]
/-- TingDecks$Tokens.begin.(I)V -/
abbrev xm_72 : xe_M := (xc_72, 2, 0, 0, 0, [])
def xc_73 : List xe_I := [(0, .aload_n 0, 1, []), (1, .invokespecial 3, 3, [2]), (4, .aload_n 0, 1, []), (5, .new 9, 3, [12, 4, 2]), (8, .dup, 1, []), (9, .invokespecial 11, 3, [0, 15, 1, 3]), (12, .putfield 12, 3, [11, 7, 0, 3, 1]), (15, .aload_n 0, 1, []), (16, .bipush 12, 2, []), (18, .newarray .int, 2, []), (20, .putfield 18, 3, [11, 7, 1, 3, 1]), (23, .aload_n 0, 1, []), (24, .bipush 12, 2, []), (26, .newarray .int, 2, []), (28, .putfield 22, 3, [11, 7, 2, 3, 1]), (31, .aload_n 0, 1, []), (32, .bipush 12, 2, []), (34, .newarray .int, 2, []), (36, .putfield 25, 3, [11, 7, 3, 3, 1]), (39, .aload_n 0, 1, []), (40, .bipush 12, 2, []), (42, .newarray .int, 2, []), (44, .putfield 28, 3, [11, 7, 9, 3, 1]), (47, .aload_n 0, 1, []), (48, .bipush 12, 2, []), (50, .newarray .int, 2, []), (52, .putfield 31, 3, [11, 7, 10, 3, 1]), (55, .aload_n 0, 1, []), (56, .bipush 12, 2, []), (58, .newarray .int, 2, []), (60, .putfield 34, 3, [11, 7, 11, 3, 1]), (63, .aload_n 0, 1, []), (64, .bipush 12, 2, []), (66, .newarray .int, 2, []), (68, .putfield 37, 3, [11, 7, 12, 3, 1]), (71, .aload_n 0, 1, []), (72, .aload_n 1, 1, []), (73, .putfield 40, 3, [11, 7, 4, 3, 0]), (76, .return_, 1, [])]
/-- TingDecks$Trip.<init>.(LTingDecks$Bus;)V -/
abbrev xm_73 : xe_M := (xc_73, 2, 0, 10, 134, [])
def xc_74 : List xe_I := [(0, .aload_n 0, 1, []), (1, .aload_n 1, 1, []), (2, .putfield 40, 3, [11, 7, 4, 3, 0]), (5, .aload_n 0, 1, []), (6, .aload_n 1, 1, []), (7, .getfield 44, 3, [10, 0, 5]), (10, .iconst 2, 1, []), (11, .iaload, 1, []), (12, .putfield 49, 3, [11, 7, 5, 0, 0]), (15, .aload_n 0, 1, []), (16, .aload_n 2, 1, []), (17, .getfield 53, 3, [10, 5, 8]), (20, .putfield 58, 3, [11, 7, 6, 0, 0]), (23, .aload_n 0, 1, []), (24, .aload_n 1, 1, []), (25, .invokevirtual 59, 3, [0, 1, 1, 10]), (28, .putfield 63, 3, [11, 7, 7, 0, 0]), (31, .aload_n 0, 1, []), (32, .iconst 0, 1, []), (33, .putfield 66, 3, [11, 7, 8, 0, 0]), (36, .aload_n 0, 1, []), (37, .getfield 18, 3, [10, 7, 1]), (40, .iconst 0, 1, []), (41, .iconst 0, 1, []), (42, .iastore, 1, []), (43, .iconst 1, 1, []), (44, .istore_n 3, 1, []), (45, .iload_n 3, 1, []), (46, .aload_n 1, 1, []), (47, .getfield 69, 3, [10, 0, 10]), (50, .if_icmp .ge 41, 3, []), (53, .aload_n 0, 1, []), (54, .getfield 18, 3, [10, 7, 1]), (57, .iload_n 3, 1, []), (58, .aload_n 0, 1, []), (59, .getfield 18, 3, [10, 7, 1]), (62, .iload_n 3, 1, []), (63, .iconst 1, 1, []), (64, .isub, 1, []), (65, .iaload, 1, []), (66, .aload_n 2, 1, []), (67, .getfield 72, 3, [10, 5, 0]), (70, .iload_n 3, 1, []), (71, .iconst 1, 1, []), (72, .isub, 1, []), (73, .iaload, 1, []), (74, .iadd, 1, []), (75, .aload_n 1, 1, []), (76, .getfield 75, 3, [10, 0, 0]), (79, .iload_n 3, 1, []), (80, .iconst 1, 1, []), (81, .isub, 1, []), (82, .iaload, 1, []), (83, .iadd, 1, []), (84, .iastore, 1, []), (85, .iinc 3 1, 3, []), (88, .goto (-43), 3, []), (91, .iconst 0, 1, []), (92, .istore_n 3, 1, []), (93, .iload_n 3, 1, []), (94, .aload_n 1, 1, []), (95, .getfield 78, 3, [10, 0, 11]), (98, .if_icmp .ge 20, 3, []), (118, .return_, 1, [])]
/-- TingDecks$Trip.prepare.(LTingDecks$Bus;LTingDecks$State;)V -/
abbrev xm_74 : xe_M := (xc_74, 4, 0, 0, 0, [])
def xc_75 : List xe_I := [(0, .aload_n 0, 1, []), (1, .invokevirtual 115, 3, [0, 27, 1, 17]), (4, .aload_n 0, 1, []), (5, .getfield 40, 3, [10, 7, 4]), (8, .getfield 69, 3, [10, 0, 10]), (11, .iconst 1, 1, []), (12, .isub, 1, []), (13, .istore_n 1, 1, []), (14, .iconst 0, 1, []), (15, .istore_n 2, 1, []), (16, .iconst 0, 1, []), (17, .istore_n 3, 1, []), (18, .aload_n 0, 1, []), (19, .getfield 66, 3, [10, 7, 8]), (22, .istore 4, 2, []), (24, .iconst 0, 1, []), (25, .istore 5, 2, []), (27, .iload 5, 2, []), (29, .bipush 24, 2, []), (31, .if_icmp .ge 102, 3, []), (34, .iload_n 3, 1, []), (35, .iload_n 1, 1, []), (36, .if_icmp .ge 97, 3, []), (39, .aload_n 0, 1, []), (40, .iload 4, 2, []), (42, .iload_n 3, 1, []), (43, .invokevirtual 118, 3, [0, 30, 3, 17]), (46, .istore 6, 2, []), (48, .iload 6, 2, []), (50, .iconst (-1), 1, []), (51, .if_icmp .ne 34, 3, []), (54, .aload_n 0, 1, []), (55, .dup, 1, []), (56, .getfield 121, 3, [10, 7, 18]), (59, .aload_n 0, 1, []), (60, .getfield 18, 3, [10, 7, 1]), (63, .iload_n 3, 1, []), (64, .iconst 1, 1, []), (65, .iadd, 1, []), (66, .iaload, 1, []), (67, .iload_n 2, 1, []), (68, .isub, 1, []), (69, .iadd, 1, []), (70, .putfield 121, 3, [11, 7, 18, 0, 0]), (73, .aload_n 0, 1, []), (74, .getfield 18, 3, [10, 7, 1]), (77, .iload_n 3, 1, []), (78, .iconst 1, 1, []), (79, .iadd, 1, []), (80, .iaload, 1, []), (81, .istore_n 2, 1, []), (82, .goto 22, 3, []), (104, .iload_n 3, 1, []), (105, .iload_n 1, 1, []), (106, .if_icmp .ge 21, 3, []), (109, .aload_n 0, 1, []), (110, .getfield 18, 3, [10, 7, 1]), (113, .iload_n 3, 1, []), (114, .iconst 1, 1, []), (115, .iadd, 1, []), (116, .iaload, 1, []), (117, .iload_n 2, 1, []), (118, .if_icmp .gt 9, 3, []), (121, .iinc 3 1, 3, []), (124, .goto (-20), 3, []), (127, .iinc 5 1, 3, []), (130, .goto (-103), 3, []), (133, .return_, 1, [])]
/-- TingDecks$Trip.travel.()V -/
abbrev xm_75 : xe_M := (xc_75, 7, 0, 0, 0, [])
def xc_76 : List xe_I := [(0, .aload_n 0, 1, []), (1, .iload_n 1, 1, []), (2, .invokevirtual 167, 3, [0, 33, 2, 18])]
/-- TingDecks.dodge.(II)I -/
abbrev xm_76 : xe_M := (xc_76, 6, 1, 1, 6, [])
def xc_77 : List xe_I := [(0, .aload_n 0, 1, []), (1, .getfield 30, 3, [10, 8, 4]), (4, .invokevirtual 127, 3, [0, 16, 1, 15]), (7, .istore 4, 2, []), (9, .bipush 99, 2, []), (11, .istore 5, 2, []), (13, .iload 5, 2, []), (15, .ifCond .lt 45, 3, []), (18, .iload_n 1, 1, []), (19, .iload 5, 2, []), (21, .iload_n 2, 1, []), (22, .iload 4, 2, []), (24, .iadd, 1, []), (25, .imul, 1, []), (26, .bipush 60, 2, []), (28, .idiv, 1, []), (29, .isub, 1, []), (30, .istore 6, 2, []), (32, .iload_n 3, 1, []), (33, .iload 5, 2, []), (35, .iload 4, 2, []), (37, .imul, 1, []), (38, .bipush 60, 2, []), (40, .idiv, 1, []), (41, .isub, 1, []), (42, .istore 7, 2, []), (44, .iload 6, 2, []), (46, .iload 7, 2, []), (48, .if_icmp .lt 6, 3, []), (51, .iload 5, 2, []), (53, .ireturn, 1, [])]
/-- TingDecks.doorLine.(III)I -/
abbrev xm_77 : xe_M := (xc_77, 8, 1, 0, 0, [])
def xc_78 : List xe_I := [(0, .aload_n 0, 1, []), (1, .getfield 79, 3, [10, 8, 11]), (4, .bipush 20, 2, []), (6, .iadd, 1, []), (7, .sipush 700, 3, []), (10, .if_icmp .le 5, 3, []), (15, .aload_n 0, 1, []), (16, .iload_n 1, 1, []), (17, .invokevirtual 82, 3, [0, 41, 2, 18]), (20, .aload_n 0, 1, []), (21, .iload_n 2, 1, []), (22, .invokevirtual 82, 3, [0, 41, 2, 18]), (25, .aload_n 0, 1, []), (26, .iload_n 3, 1, []), (27, .invokevirtual 82, 3, [0, 41, 2, 18]), (30, .aload_n 0, 1, []), (31, .iload 4, 2, []), (33, .invokevirtual 82, 3, [0, 41, 2, 18]), (36, .aload_n 0, 1, []), (37, .iload 5, 2, []), (39, .invokevirtual 82, 3, [0, 41, 2, 18]), (42, .aload_n 0, 1, []), (43, .getfield 79, 3, [10, 8, 11]), (46, .ireturn, 1, [])]
/-- TingDecks.feed.(IIIII)I -/
abbrev xm_78 : xe_M := (xc_78, 6, 1, 0, 0, [])
def xc_79 : List xe_I := [(0, .aload_n 0, 1, []), (1, .iload_n 1, 1, []), (2, .invokevirtual 149, 3, [0, 34, 2, 18]), (5, .aload_n 0, 1, []), (6, .iload_n 2, 1, []), (7, .invokevirtual 167, 3, [0, 33, 2, 18])]
/-- TingDecks.game.(III)I -/
abbrev xm_79 : xe_M := (xc_79, 12, 1, 2, 12, [])
def xc_80 : List xe_I := [(0, .aload_n 0, 1, []), (1, .iload_n 1, 1, []), (2, .invokevirtual 149, 3, [0, 34, 2, 18]), (5, .aload_n 0, 1, []), (6, .getfield 30, 3, [10, 8, 4]), (9, .getfield 141, 3, [10, 5, 10]), (12, .bipush 8, 2, []), (14, .if_icmp .ge 22, 3, []), (17, .iload_n 2, 1, []), (18, .ifCond .lt 18, 3, []), (21, .iload_n 2, 1, []), (22, .iconst 1, 1, []), (23, .if_icmp .gt 13, 3, []), (26, .iload_n 3, 1, []), (27, .ifCond .lt 9, 3, []), (30, .iload_n 3, 1, []), (31, .bipush 12, 2, []), (33, .if_icmp .le 15, 3, []), (36, .aload_n 0, 1, []), (37, .getfield 13, 3, [10, 8, 1]), (40, .iconst 2, 1, []), (41, .dup2, 1, []), (42, .iaload, 1, []), (43, .iconst 1, 1, []), (44, .iadd, 1, []), (45, .iastore, 1, []), (46, .iconst (-1), 1, []), (47, .ireturn, 1, []), (48, .aload_n 0, 1, []), (49, .getfield 30, 3, [10, 8, 4]), (52, .aload_n 0, 1, []), (53, .getfield 20, 3, [10, 8, 2]), (56, .iload_n 1, 1, []), (57, .invokevirtual 158, 3, [0, 5, 2, 10]), (60, .iload_n 2, 1, []), (61, .iload_n 3, 1, []), (62, .invokevirtual 289, 3, [0, 20, 4, 15]), (65, .aload_n 0, 1, []), (66, .getfield 30, 3, [10, 8, 4]), (69, .getfield 141, 3, [10, 5, 10]), (72, .ireturn, 1, [])]
/-- TingDecks.head.(III)I -/
abbrev xm_80 : xe_M := (xc_80, 4, 1, 1, 6, [])
def xc_81 : List xe_I := [(0, .aload_n 0, 1, []), (1, .iload_n 1, 1, []), (2, .invokevirtual 149, 3, [0, 34, 2, 18]), (5, .iload_n 2, 1, []), (6, .ifCond .lt 9, 3, []), (9, .iload_n 2, 1, []), (10, .bipush 60, 2, []), (12, .if_icmp .le 15, 3, []), (15, .aload_n 0, 1, []), (16, .getfield 13, 3, [10, 8, 1]), (19, .iconst 1, 1, []), (20, .dup2, 1, []), (21, .iaload, 1, []), (22, .iconst 1, 1, []), (23, .iadd, 1, []), (24, .iastore, 1, []), (25, .iconst (-1), 1, []), (26, .ireturn, 1, []), (27, .aload_n 0, 1, []), (28, .getfield 30, 3, [10, 8, 4]), (31, .getfield 155, 3, [10, 5, 0]), (34, .iload_n 1, 1, []), (35, .iaload, 1, []), (36, .istore_n 3, 1, []), (37, .aload_n 0, 1, []), (38, .getfield 30, 3, [10, 8, 4]), (41, .iconst 0, 1, []), (42, .iload_n 1, 1, []), (43, .iload_n 3, 1, []), (44, .invokevirtual 211, 3, [0, 19, 4, 15]), (47, .aload_n 0, 1, []), (48, .getfield 30, 3, [10, 8, 4]), (51, .getfield 155, 3, [10, 5, 0]), (54, .iload_n 1, 1, []), (55, .iload_n 2, 1, []), (56, .iastore, 1, []), (57, .aload_n 0, 1, []), (58, .invokevirtual 102, 3, [0, 43, 1, 18]), (61, .iload_n 3, 1, []), (62, .ireturn, 1, [])]
/-- TingDecks.hold.(II)I -/
abbrev xm_81 : xe_M := (xc_81, 4, 1, 1, 6, [])
def xc_82 : List xe_I := [(0, .aload_n 0, 1, []), (1, .getfield 34, 3, [10, 8, 5]), (4, .aload_n 0, 1, []), (5, .getfield 30, 3, [10, 8, 4]), (8, .invokevirtual 361, 3, [0, 17, 2, 15]), (11, .aload_n 0, 1, []), (12, .iconst 1, 1, []), (13, .putfield 98, 3, [11, 8, 13, 1, 0]), (16, .return_, 1, [])]
/-- TingDecks.image.()V -/
abbrev xm_82 : xe_M := (xc_82, 1, 0, 0, 0, [])
def xc_83 : List xe_I := [(0, .aload_n 0, 1, []), (1, .iload_n 1, 1, []), (2, .invokevirtual 167, 3, [0, 33, 2, 18])]
/-- TingDecks.likely.(II)J -/
abbrev xm_83 : xe_M := (xc_83, 4, 2, 1, 6, [])
def xc_84 : List xe_I := [(0, .aload_n 0, 1, []), (1, .iload_n 1, 1, []), (2, .invokevirtual 219, 3, [0, 39, 2, 18]), (5, .ifCond .ne 15, 3, []), (8, .aload_n 0, 1, []), (9, .getfield 13, 3, [10, 8, 1]), (12, .iconst 1, 1, []), (13, .dup2, 1, []), (14, .iaload, 1, []), (15, .iconst 1, 1, []), (16, .iadd, 1, []), (17, .iastore, 1, []), (18, .iconst 0, 1, []), (19, .ireturn, 1, []), (20, .aload_n 0, 1, []), (21, .getfield 30, 3, [10, 8, 4]), (24, .iconst 2, 1, []), (25, .iconst 0, 1, []), (26, .aload_n 0, 1, []), (27, .getfield 30, 3, [10, 8, 4]), (30, .getfield 114, 3, [10, 5, 8]), (33, .invokevirtual 211, 3, [0, 19, 4, 15]), (36, .aload_n 0, 1, []), (37, .getfield 30, 3, [10, 8, 4]), (40, .iload_n 1, 1, []), (41, .putfield 114, 3, [11, 5, 8, 0, 0]), (44, .aload_n 0, 1, []), (45, .invokevirtual 102, 3, [0, 43, 1, 18]), (48, .iconst 1, 1, []), (49, .ireturn, 1, [])]
/-- TingDecks.obey.(I)Z -/
abbrev xm_84 : xe_M := (xc_84, 2, 4, 0, 0, [])
def xc_85 : List xe_I := [(0, .aload_n 0, 1, []), (1, .iload_n 1, 1, []), (2, .invokevirtual 167, 3, [0, 33, 2, 18])]
/-- TingDecks.paid.(II)I -/
abbrev xm_85 : xe_M := (xc_85, 4, 1, 1, 6, [])
def xc_86 : List xe_I := [(0, .aload_n 0, 1, []), (1, .iload_n 1, 1, []), (2, .invokevirtual 167, 3, [0, 33, 2, 18])]
/-- TingDecks.rider.(II)I -/
abbrev xm_86 : xe_M := (xc_86, 3, 1, 1, 6, [])
def xc_87 : List xe_I := [(0, .aload_n 0, 1, []), (1, .iload_n 1, 1, []), (2, .invokevirtual 167, 3, [0, 33, 2, 18])]
/-- TingDecks.sit.(III)I -/
abbrev xm_87 : xe_M := (xc_87, 5, 1, 1, 6, [])
def xc_88 : List xe_I := [(0, .aload_n 0, 1, []), (1, .iload_n 1, 1, []), (2, .invokevirtual 167, 3, [0, 33, 2, 18])]
/-- TingDecks.way.(II)I -/
abbrev xm_88 : xe_M := (xc_88, 3, 1, 1, 6, [])
def xc_89 : List xe_I := [(0, .aload_n 0, 1, []), (1, .iload_n 1, 1, []), (2, .invokevirtual 167, 3, [0, 33, 2, 18])]
/-- TingDecks.worth.(I)I -/
abbrev xm_89 : xe_M := (xc_89, 2, 1, 1, 6, [])
def xc_90 : List xe_I := [(0, .aload_n 0, 1, []), (1, .iconst 0, 1, []), (2, .putfield 150, 3, [11, 9, 0, 0, 0]), (5, .aload_n 0, 1, []), (6, .getfield 153, 3, [10, 9, 18]), (9, .bipush 20, 2, []), (11, .iadd, 1, []), (12, .sipush 700, 3, []), (15, .if_icmp .le 5, 3, []), (20, .aload_n 0, 1, []), (21, .iload_n 1, 1, []), (22, .invokevirtual 156, 3, [0, 59, 2, 19]), (25, .aload_n 0, 1, []), (26, .iload_n 2, 1, []), (27, .invokevirtual 156, 3, [0, 59, 2, 19]), (30, .aload_n 0, 1, []), (31, .iload_n 3, 1, []), (32, .invokevirtual 156, 3, [0, 59, 2, 19]), (35, .aload_n 0, 1, []), (36, .iload 4, 2, []), (38, .invokevirtual 156, 3, [0, 59, 2, 19]), (41, .aload_n 0, 1, []), (42, .iload 5, 2, []), (44, .invokevirtual 156, 3, [0, 59, 2, 19]), (47, .aload_n 0, 1, []), (48, .getfield 153, 3, [10, 9, 18]), (51, .ireturn, 1, [])]
/-- TingDecksModel.feed.(IIIII)I -/
abbrev xm_90 : xe_M := (xc_90, 6, 1, 0, 0, [])
def xc_91 : List xe_I := [(0, .aload_n 0, 1, []), (1, .getfield 163, 3, [10, 9, 23]), (4, .aload_n 0, 1, []), (5, .getfield 160, 3, [10, 9, 22]), (8, .if_icmp .ge 42, 3, []), (50, .aload_n 0, 1, []), (51, .aload_n 0, 1, []), (52, .getfield 163, 3, [10, 9, 23]), (55, .putfield 170, 3, [11, 9, 25, 0, 0]), (58, .aload_n 0, 1, []), (59, .lconst 0, 1, []), (60, .putfield 173, 3, [11, 9, 29, 2, 0]), (63, .aload_n 0, 1, []), (64, .iconst 0, 1, []), (65, .putfield 177, 3, [11, 9, 27, 0, 0]), (68, .aload_n 0, 1, []), (69, .aload_n 0, 1, []), (70, .getfield 163, 3, [10, 9, 23]), (73, .invokevirtual 166, 3, [0, 48, 2, 19]), (76, .istore_n 1, 1, []), (77, .aload_n 0, 1, []), (78, .iload_n 1, 1, []), (79, .putfield 180, 3, [11, 9, 28, 0, 0]), (82, .aload_n 0, 1, []), (83, .getfield 163, 3, [10, 9, 23]), (86, .aload_n 0, 1, []), (87, .getfield 160, 3, [10, 9, 22]), (90, .if_icmp .lt 11, 3, []), (93, .aload_n 0, 1, []), (94, .iconst 0, 1, []), (95, .putfield 183, 3, [11, 9, 24, 0, 0]), (98, .goto 232, 3, []), (330, .aload_n 0, 1, []), (331, .aload_n 0, 1, []), (332, .getfield 163, 3, [10, 9, 23]), (335, .aload_n 0, 1, []), (336, .getfield 170, 3, [10, 9, 25]), (339, .isub, 1, []), (340, .putfield 193, 3, [11, 9, 26, 0, 0]), (343, .return_, 1, [])]
/-- TingDecksModel.goes.()V -/
abbrev xm_91 : xe_M := (xc_91, 2, 0, 0, 0, [])
def xc_92 : List xe_I := [(0, .aload_n 0, 1, []), (1, .iconst 0, 1, []), (2, .putfield 150, 3, [11, 9, 0, 0, 0]), (5, .aload_n 0, 1, []), (6, .iconst 1, 1, []), (7, .putfield 331, 3, [11, 9, 77, 1, 0]), (10, .aload_n 0, 1, []), (11, .aload_n 0, 1, []), (12, .getfield 325, 3, [10, 9, 51]), (15, .putfield 481, 3, [11, 9, 78, 0, 0]), (18, .aload_n 0, 1, []), (19, .aload_n 0, 1, []), (20, .getfield 328, 3, [10, 9, 74]), (23, .putfield 484, 3, [11, 9, 79, 0, 0]), (26, .aload_n 0, 1, []), (27, .aload_n 0, 1, []), (28, .getfield 96, 3, [10, 9, 50]), (31, .aload_n 0, 1, []), (32, .getfield 141, 3, [10, 9, 80]), (35, .invokevirtual 321, 3, [0, 49, 3, 19]), (38, .aload_n 0, 1, []), (39, .aload_n 0, 1, []), (40, .getfield 99, 3, [10, 9, 52]), (43, .aload_n 0, 1, []), (44, .getfield 144, 3, [10, 9, 81]), (47, .invokevirtual 321, 3, [0, 49, 3, 19]), (50, .aload_n 0, 1, []), (51, .aload_n 0, 1, []), (52, .getfield 138, 3, [10, 9, 75]), (55, .aload_n 0, 1, []), (56, .getfield 147, 3, [10, 9, 82]), (59, .invokevirtual 321, 3, [0, 49, 3, 19]), (62, .return_, 1, [])]
/-- TingDecksModel.image.()V -/
abbrev xm_92 : xe_M := (xc_92, 1, 0, 0, 0, [])
def xc_93 : List xe_I := [(0, .aload_n 0, 1, []), (1, .iload_n 1, 1, []), (2, .ifCond .lt 15, 3, []), (5, .iload_n 1, 1, []), (6, .aload_n 0, 1, []), (7, .getfield 315, 3, [10, 9, 2]), (10, .if_icmp .ge 7, 3, []), (17, .iconst 0, 1, []), (18, .iconst 1, 1, []), (19, .invokevirtual 308, 3, [0, 65, 3, 19]), (22, .ireturn, 1, [])]
/-- TingDecksModel.isRider.(I)Z -/
abbrev xm_93 : xe_M := (xc_93, 2, 4, 0, 0, [])
def xc_94 : List xe_I := [(0, .aload_n 0, 1, []), (1, .iload_n 1, 1, []), (2, .ifCond .lt 15, 3, []), (5, .iload_n 1, 1, []), (6, .aload_n 0, 1, []), (7, .getfield 7, 3, [10, 9, 1]), (10, .if_icmp .ge 7, 3, []), (13, .iconst 1, 1, []), (14, .goto 4, 3, []), (17, .iconst 0, 1, []), (18, .iconst 1, 1, []), (19, .invokevirtual 308, 3, [0, 65, 3, 19]), (22, .ireturn, 1, [])]
/-- TingDecksModel.isStop.(I)Z -/
abbrev xm_94 : xe_M := (xc_94, 2, 4, 0, 0, [])
def xc_95 : List xe_I := [(0, .aload_n 0, 1, []), (1, .iload_n 1, 1, []), (2, .iconst 0, 1, []), (3, .iload_n 2, 1, []), (4, .invokestatic 408, 3, [0, 69, 3, 2]), (7, .iconst 1, 1, []), (8, .invokevirtual 308, 3, [0, 65, 3, 19]), (11, .ireturn, 1, [])]
/-- TingDecksModel.isWhat.(II)Z -/
abbrev xm_95 : xe_M := (xc_95, 3, 4, 0, 0, [])
def xc_96 : List xe_I := [(0, .aload_n 0, 1, []), (1, .aload_n 0, 1, []), (2, .getfield 7, 3, [10, 9, 1]), (5, .iconst 1, 1, []), (6, .isub, 1, []), (7, .invokevirtual 334, 3, [0, 46, 2, 19]), (10, .ireturn, 1, [])]
/-- TingDecksModel.lastSecond.()I -/
abbrev xm_96 : xe_M := (xc_96, 1, 1, 0, 0, [])
def xc_97 : List xe_I := [(0, .aload_n 0, 1, []), (1, .iconst 0, 1, []), (2, .putfield 150, 3, [11, 9, 0, 0, 0]), (5, .iload_n 1, 1, []), (6, .iconst (-1), 1, []), (7, .if_icmp .lt 11, 3, []), (10, .iload_n 1, 1, []), (11, .aload_n 0, 1, []), (12, .getfield 318, 3, [10, 9, 3]), (15, .if_icmp .lt 17, 3, []), (18, .aload_n 0, 1, []), (19, .iconst 1, 1, []), (20, .invokevirtual 430, 3, [0, 63, 2, 19]), (23, .ifCond .le 7, 3, []), (30, .iconst 0, 1, []), (31, .ireturn, 1, []), (32, .aload_n 0, 1, []), (33, .bipush 24, 2, []), (35, .invokevirtual 433, 3, [0, 58, 2, 19]), (38, .aload_n 0, 1, []), (39, .getfield 96, 3, [10, 9, 50]), (42, .bipush 24, 2, []), (44, .iload_n 1, 1, []), (45, .iastore, 1, []), (46, .iconst 1, 1, []), (47, .ireturn, 1, [])]
/-- TingDecksModel.obey.(I)Z -/
abbrev xm_97 : xe_M := (xc_97, 2, 4, 0, 0, [])
def xc_98 : List xe_I := [(0, .aload_n 0, 1, []), (1, .iconst 0, 1, []), (2, .putfield 150, 3, [11, 9, 0, 0, 0]), (5, .aload_n 0, 1, []), (6, .iload_n 1, 1, []), (7, .ifCond .lt 15, 3, []), (10, .iload_n 1, 1, []), (11, .aload_n 0, 1, []), (12, .invokevirtual 396, 3, [0, 50, 1, 19]), (15, .if_icmp .gt 7, 3, []), (18, .iconst 1, 1, []), (19, .goto 4, 3, []), (22, .iconst 0, 1, []), (23, .iconst 1, 1, []), (24, .invokevirtual 308, 3, [0, 65, 3, 19]), (27, .ifCond .ne 5, 3, []), (30, .iconst 0, 1, []), (31, .ireturn, 1, []), (32, .aload_n 0, 1, []), (33, .getfield 315, 3, [10, 9, 2]), (36, .bipush 10, 2, []), (38, .if_icmp .le 6, 3, []), (44, .iload_n 1, 1, []), (45, .ifCond .ne 5, 3, []), (48, .iconst 0, 1, []), (49, .ireturn, 1, [])]
/-- TingDecksModel.soonest.(I)I -/
abbrev xm_98 : xe_M := (xc_98, 3, 1, 0, 0, [])
def xc_99 : List xe_I := [(0, .iconst 0, 1, []), (1, .istore_n 2, 1, []), (2, .iload_n 2, 1, []), (3, .iconst 1, 1, []), (4, .iadd, 1, []), (5, .aload_n 0, 1, []), (6, .getfield 7, 3, [10, 9, 1]), (9, .if_icmp .ge 20, 3, []), (12, .aload_n 0, 1, []), (13, .iload_n 2, 1, []), (14, .iconst 1, 1, []), (15, .iadd, 1, []), (16, .invokevirtual 334, 3, [0, 46, 2, 19]), (19, .iload_n 1, 1, []), (20, .if_icmp .gt 9, 3, []), (29, .iload_n 2, 1, []), (30, .ireturn, 1, [])]
/-- TingDecksModel.stopBy.(I)I -/
abbrev xm_99 : xe_M := (xc_99, 3, 1, 0, 0, [])
def xc_100 : List xe_I := [(0, .aload_n 3, 1, []), (1, .iconst 0, 1, []), (2, .aload_n 0, 1, []), (3, .iload_n 1, 1, []), (4, .iload_n 2, 1, []), (5, .invokevirtual 85, 3, [0, 76, 3, 18]), (13, .astore 4, 2, []), (15, .iconst 1, 1, []), (16, .ireturn, 1, [])]
/-- TingDecksLaw.dodge.(LTingDecks;II[J)I -/
abbrev xm_100 : xe_M := (xc_100, 5, 1, 1, 6, [(0, 10, 13, 1)])
def xc_101 : List xe_I := [(0, .aload 4, 2, []), (2, .iconst 0, 1, []), (3, .aload_n 0, 1, []), (4, .iload_n 1, 1, []), (5, .iload_n 2, 1, []), (6, .iload_n 3, 1, []), (7, .invokevirtual 70, 3, [0, 79, 4, 18]), (15, .astore 5, 2, []), (17, .iconst 1, 1, []), (18, .ireturn, 1, [])]
/-- TingDecksLaw.game.(LTingDecks;III[J)I -/
abbrev xm_101 : xe_M := (xc_101, 6, 1, 2, 12, [(0, 12, 15, 1), (0, 12, 19, 0)])
def xc_102 : List xe_I := [(0, .aload 4, 2, []), (2, .iconst 0, 1, []), (3, .aload_n 0, 1, []), (4, .iload_n 1, 1, []), (5, .iload_n 2, 1, []), (6, .iload_n 3, 1, []), (7, .invokevirtual 64, 3, [0, 80, 4, 18]), (10, .i2l, 1, []), (11, .lastore, 1, []), (12, .goto 7, 3, []), (15, .astore 5, 2, []), (17, .iconst 1, 1, []), (18, .ireturn, 1, []), (19, .iconst 0, 1, []), (20, .ireturn, 1, [])]
/-- TingDecksLaw.head.(LTingDecks;III[J)I -/
abbrev xm_102 : xe_M := (xc_102, 6, 1, 1, 6, [(0, 12, 15, 1)])
def xc_103 : List xe_I := [(0, .aload_n 3, 1, []), (1, .iconst 0, 1, []), (2, .aload_n 0, 1, []), (3, .iload_n 1, 1, []), (4, .iload_n 2, 1, []), (5, .invokevirtual 36, 3, [0, 81, 3, 18]), (8, .i2l, 1, []), (9, .lastore, 1, []), (10, .goto 7, 3, []), (13, .astore 4, 2, []), (15, .iconst 1, 1, []), (16, .ireturn, 1, []), (17, .iconst 0, 1, []), (18, .ireturn, 1, [])]
/-- TingDecksLaw.hold.(LTingDecks;II[J)I -/
abbrev xm_103 : xe_M := (xc_103, 5, 1, 1, 6, [(0, 10, 13, 1)])
def xc_104 : List xe_I := [(0, .aload_n 3, 1, []), (1, .iconst 0, 1, []), (2, .aload_n 0, 1, []), (3, .iload_n 1, 1, []), (4, .iload_n 2, 1, []), (5, .invokevirtual 91, 3, [0, 83, 3, 18]), (12, .astore 4, 2, []), (14, .iconst 1, 1, []), (15, .ireturn, 1, [])]
/-- TingDecksLaw.likely.(LTingDecks;II[J)I -/
abbrev xm_104 : xe_M := (xc_104, 5, 1, 1, 6, [(0, 9, 12, 1)])
def xc_105 : List xe_I := [(0, .aload_n 3, 1, []), (1, .iconst 0, 1, []), (2, .aload_n 0, 1, []), (3, .iload_n 1, 1, []), (4, .iload_n 2, 1, []), (5, .invokevirtual 27, 3, [0, 85, 3, 18]), (13, .astore 4, 2, []), (15, .iconst 1, 1, []), (16, .ireturn, 1, [])]
/-- TingDecksLaw.paid.(LTingDecks;II[J)I -/
abbrev xm_105 : xe_M := (xc_105, 5, 1, 1, 6, [(0, 10, 13, 1)])
def xc_106 : List xe_I := [(0, .aload_n 3, 1, []), (1, .iconst 0, 1, []), (2, .aload_n 0, 1, []), (3, .iload_n 1, 1, []), (4, .iload_n 2, 1, []), (5, .invokevirtual 24, 3, [0, 86, 3, 18]), (13, .astore 4, 2, []), (15, .iconst 1, 1, []), (16, .ireturn, 1, [])]
/-- TingDecksLaw.rider.(LTingDecks;II[J)I -/
abbrev xm_106 : xe_M := (xc_106, 5, 1, 1, 6, [(0, 10, 13, 1)])
def xc_107 : List xe_I := [(0, .aload 4, 2, []), (2, .iconst 0, 1, []), (3, .aload_n 0, 1, []), (4, .iload_n 1, 1, []), (5, .iload_n 2, 1, []), (6, .iload_n 3, 1, []), (7, .invokevirtual 39, 3, [0, 87, 4, 18]), (15, .astore 5, 2, []), (17, .iconst 1, 1, []), (18, .ireturn, 1, [])]
/-- TingDecksLaw.sit.(LTingDecks;III[J)I -/
abbrev xm_107 : xe_M := (xc_107, 6, 1, 1, 6, [(0, 12, 15, 1)])
def xc_108 : List xe_I := [(0, .aload_n 3, 1, []), (1, .iconst 0, 1, []), (2, .aload_n 0, 1, []), (3, .iload_n 1, 1, []), (4, .iload_n 2, 1, []), (5, .invokevirtual 30, 3, [0, 88, 3, 18]), (13, .astore 4, 2, []), (15, .iconst 1, 1, []), (16, .ireturn, 1, [])]
/-- TingDecksLaw.way.(LTingDecks;II[J)I -/
abbrev xm_108 : xe_M := (xc_108, 5, 1, 1, 6, [(0, 10, 13, 1)])
def xc_109 : List xe_I := [(0, .aload_n 2, 1, []), (1, .iconst 0, 1, []), (2, .aload_n 0, 1, []), (3, .iload_n 1, 1, []), (4, .invokevirtual 88, 3, [0, 89, 2, 18]), (12, .astore_n 3, 1, []), (13, .iconst 1, 1, []), (14, .ireturn, 1, [])]
/-- TingDecksLaw.worth.(LTingDecks;I[J)I -/
abbrev xm_109 : xe_M := (xc_109, 4, 1, 1, 6, [(0, 9, 12, 1)])
def xc_110 : List xe_I := [(0, .aload_n 0, 1, []), (1, .aload_n 2, 1, []), (2, .putfield 20, 3, [11, 3, 1, 3, 0]), (5, .aload_n 0, 1, []), (6, .getfield 20, 3, [10, 3, 1]), (9, .invokevirtual 24, 3, [0, 3, 1, 10]), (12, .aload_n 0, 1, []), (13, .iconst 0, 1, []), (14, .putfield 29, 3, [11, 3, 2, 0, 0]), (17, .aload_n 0, 1, []), (18, .iconst 0, 1, []), (19, .putfield 33, 3, [11, 3, 4, 0, 0]), (22, .aload_n 0, 1, []), (23, .iconst (-1), 1, []), (24, .putfield 36, 3, [11, 3, 5, 0, 0]), (27, .aload_n 0, 1, []), (28, .getfield 14, 3, [10, 3, 0]), (31, .iload_n 1, 1, []), (32, .invokevirtual 39, 3, [0, 72, 2, 16]), (35, .iconst 0, 1, []), (36, .istore_n 3, 1, []), (37, .iload_n 3, 1, []), (38, .sipush 700, 3, []), (41, .if_icmp .ge 31, 3, []), (44, .aload_n 0, 1, []), (45, .getfield 14, 3, [10, 3, 0]), (48, .getfield 43, 3, [10, 6, 4]), (51, .ifCond .eq 21, 3, []), (72, .iconst 0, 1, []), (73, .ireturn, 1, [])]
/-- TingDecks$Parser.readBus.(ILTingDecks$Bus;)I -/
abbrev xm_110 : xe_M := (xc_110, 4, 1, 0, 0, [])
def xc_111 : List xe_I := [(0, .aload_n 0, 1, []), (1, .iload_n 1, 1, []), (2, .invokevirtual 149, 3, [0, 34, 2, 18]), (5, .aload_n 0, 1, []), (6, .iload_n 2, 1, []), (7, .iconst 1, 1, []), (8, .invokevirtual 190, 3, [0, 35, 3, 18]), (11, .aload_n 0, 1, []), (12, .getfield 55, 3, [10, 8, 8]), (15, .aload_n 0, 1, []), (16, .getfield 20, 3, [10, 8, 2]), (19, .aload_n 0, 1, []), (20, .getfield 30, 3, [10, 8, 4]), (23, .invokevirtual 241, 3, [0, 74, 3, 17]), (26, .aload_n 0, 1, []), (27, .getfield 55, 3, [10, 8, 8]), (30, .iload_n 1, 1, []), (31, .aload_n 0, 1, []), (32, .getfield 30, 3, [10, 8, 4]), (35, .getfield 155, 3, [10, 5, 0]), (38, .iload_n 1, 1, []), (39, .iaload, 1, []), (40, .ineg, 1, []), (41, .invokevirtual 245, 3, [0, 29, 3, 17]), (44, .aload_n 0, 1, []), (45, .getfield 30, 3, [10, 8, 4]), (48, .invokevirtual 127, 3, [0, 16, 1, 15]), (51, .aload_n 0, 1, []), (52, .getfield 30, 3, [10, 8, 4]), (55, .getfield 155, 3, [10, 5, 0]), (58, .iload_n 1, 1, []), (59, .iaload, 1, []), (60, .isub, 1, []), (61, .istore_n 3, 1, []), (62, .iconst 0, 1, []), (63, .istore 4, 2, []), (65, .iconst 0, 1, []), (66, .istore 5, 2, []), (68, .iconst 0, 1, []), (69, .istore 6, 2, []), (71, .iload 6, 2, []), (73, .bipush 60, 2, []), (75, .if_icmp .gt 62, 3, []), (78, .aload_n 0, 1, []), (79, .getfield 55, 3, [10, 8, 8]), (82, .invokevirtual 248, 3, [0, 75, 1, 17]), (85, .aload_n 0, 1, []), (86, .aload_n 0, 1, []), (87, .getfield 55, 3, [10, 8, 8]), (90, .getfield 124, 3, [10, 7, 16]), (93, .iload_n 3, 1, []), (94, .iload 6, 2, []), (96, .iadd, 1, []), (97, .invokevirtual 131, 3, [0, 40, 3, 18]), (100, .istore 7, 2, []), (102, .iload 6, 2, []), (104, .ifCond .eq 10, 3, []), (107, .iload 7, 2, []), (109, .iload 5, 2, []), (111, .if_icmp .le 11, 3, []), (114, .iload 7, 2, []), (116, .istore 5, 2, []), (118, .iload 6, 2, []), (120, .istore 4, 2, []), (122, .aload_n 0, 1, []), (123, .getfield 55, 3, [10, 8, 8]), (126, .iload_n 1, 1, []), (127, .iconst 1, 1, []), (128, .invokevirtual 245, 3, [0, 29, 3, 17]), (131, .iinc 6 1, 3, []), (134, .goto (-63), 3, []), (137, .iload_n 2, 1, []), (138, .ifCond .ne 8, 3, []), (141, .iload 4, 2, []), (143, .goto 5, 3, []), (146, .iload 5, 2, []), (148, .ireturn, 1, [])]
/-- TingDecks.bell.(II)I -/
abbrev xm_111 : xe_M := (xc_111, 8, 1, 2, 12, [])
def xc_112 : List xe_I := [(0, .aload_n 0, 1, []), (1, .invokespecial 1, 3, [2]), (4, .aload_n 0, 1, []), (5, .sipush 700, 3, []), (8, .newarray .byte, 2, []), (10, .putfield 9, 3, [11, 8, 0, 3, 1]), (13, .aload_n 0, 1, []), (14, .iconst 3, 1, []), (15, .newarray .int, 2, []), (17, .putfield 13, 3, [11, 8, 1, 3, 1]), (20, .aload_n 0, 1, []), (21, .new 17, 3, [12, 0, 14]), (24, .dup, 1, []), (25, .invokespecial 19, 3, [0, 2, 1, 1]), (28, .putfield 20, 3, [11, 8, 2, 3, 0]), (31, .aload_n 0, 1, []), (32, .new 17, 3, [12, 0, 14]), (35, .dup, 1, []), (36, .invokespecial 19, 3, [0, 2, 1, 1]), (39, .putfield 24, 3, [11, 8, 3, 3, 0]), (42, .aload_n 0, 1, []), (43, .new 27, 3, [12, 5, 11]), (46, .dup, 1, []), (47, .invokespecial 29, 3, [0, 18, 1, 3]), (50, .putfield 30, 3, [11, 8, 4, 3, 1]), (53, .aload_n 0, 1, []), (54, .new 27, 3, [12, 5, 11]), (57, .dup, 1, []), (58, .invokespecial 29, 3, [0, 18, 1, 3]), (61, .putfield 34, 3, [11, 8, 5, 3, 1]), (64, .aload_n 0, 1, []), (65, .new 37, 3, [12, 3, 6]), (68, .dup, 1, []), (69, .aload_n 0, 1, []), (70, .getfield 9, 3, [10, 8, 0]), (73, .aload_n 0, 1, []), (74, .getfield 24, 3, [10, 8, 3]), (77, .invokespecial 39, 3, [0, 71, 3, 1]), (80, .putfield 42, 3, [11, 8, 6, 3, 1]), (83, .aload_n 0, 1, []), (84, .new 46, 3, [12, 7, 21]), (87, .dup, 1, []), (88, .aload_n 0, 1, []), (89, .getfield 20, 3, [10, 8, 2]), (92, .invokespecial 48, 3, [0, 73, 2, 1]), (95, .putfield 51, 3, [11, 8, 7, 3, 1]), (98, .aload_n 0, 1, []), (99, .new 46, 3, [12, 7, 21]), (102, .dup, 1, []), (103, .aload_n 0, 1, []), (104, .getfield 20, 3, [10, 8, 2]), (107, .invokespecial 48, 3, [0, 73, 2, 1]), (110, .putfield 55, 3, [11, 8, 8, 3, 1]), (113, .aload_n 0, 1, []), (114, .new 58, 3, [12, 2, 4]), (117, .dup, 1, []), (118, .invokespecial 60, 3, [0, 13, 1, 3]), (121, .putfield 61, 3, [11, 8, 9, 3, 1]), (124, .aload_n 0, 1, []), (125, .new 65, 3, [12, 1, 6]), (128, .dup, 1, []), (129, .invokespecial 67, 3, [0, 8, 1, 3]), (132, .putfield 68, 3, [11, 8, 10, 3, 1]), (135, .aload_n 0, 1, []), (136, .iconst (-1), 1, []), (137, .putfield 72, 3, [11, 8, 12, 0, 0]), (140, .aload_n 0, 1, []), (141, .getfield 30, 3, [10, 8, 4]), (144, .aload_n 0, 1, []), (145, .getfield 20, 3, [10, 8, 2]), (148, .invokevirtual 76, 3, [0, 21, 2, 15]), (151, .return_, 1, [])]
/-- TingDecks.<init>.()V -/
abbrev xm_112 : xe_M := (xc_112, 1, 0, 69, 2989, [])
def xc_113 : List xe_I := [(0, .aload_n 0, 1, []), (1, .getfield 55, 3, [10, 8, 8]), (4, .aload_n 0, 1, []), (5, .getfield 20, 3, [10, 8, 2]), (8, .aload_n 0, 1, []), (9, .getfield 30, 3, [10, 8, 4]), (12, .invokevirtual 241, 3, [0, 74, 3, 17]), (15, .aload_n 0, 1, []), (16, .getfield 55, 3, [10, 8, 8]), (19, .iload_n 1, 1, []), (20, .putfield 398, 3, [11, 7, 6, 0, 0]), (23, .aload_n 0, 1, []), (24, .getfield 55, 3, [10, 8, 8]), (27, .invokevirtual 248, 3, [0, 75, 1, 17]), (30, .aload_n 0, 1, []), (31, .aload_n 0, 1, []), (32, .getfield 55, 3, [10, 8, 8]), (35, .getfield 124, 3, [10, 7, 16]), (38, .aload_n 0, 1, []), (39, .getfield 30, 3, [10, 8, 4]), (42, .invokevirtual 127, 3, [0, 16, 1, 15]), (45, .invokevirtual 131, 3, [0, 40, 3, 18]), (48, .ireturn, 1, [])]
/-- TingDecks.netByRule.(I)I -/
abbrev xm_113 : xe_M := (xc_113, 2, 1, 0, 0, [])
def xc_114 : List xe_I := [(0, .aload_n 0, 1, []), (1, .getfield 374, 3, [10, 8, 15]), (4, .ifCond .ne 16, 3, []), (7, .aload_n 0, 1, []), (8, .getfield 61, 3, [10, 8, 9]), (11, .aload_n 1, 1, []), (12, .invokevirtual 380, 3, [0, 70, 2, 12]), (15, .aload_n 0, 1, []), (16, .iconst 1, 1, []), (17, .putfield 374, 3, [11, 8, 15, 1, 0]), (20, .aload_n 0, 1, []), (21, .getfield 61, 3, [10, 8, 9]), (24, .areturn, 1, [])]
/-- TingDecks.ordered.(LTingDecks$Trip;)LTingDecks$Orders; -/
abbrev xm_114 : xe_M := (xc_114, 2, 3, 1, 10240, [])
def xc_115 : List xe_I := [(0, .aload_n 0, 1, []), (1, .getfield 377, 3, [10, 8, 16]), (4, .ifCond .ne 87, 3, []), (7, .aload_n 0, 1, []), (8, .getfield 55, 3, [10, 8, 8]), (11, .aload_n 0, 1, []), (12, .getfield 20, 3, [10, 8, 2]), (15, .aload_n 0, 1, []), (16, .getfield 30, 3, [10, 8, 4]), (19, .invokevirtual 241, 3, [0, 74, 3, 17]), (22, .aload_n 0, 1, []), (23, .getfield 68, 3, [10, 8, 10]), (26, .aload_n 0, 1, []), (27, .getfield 20, 3, [10, 8, 2]), (30, .invokevirtual 384, 3, [0, 7, 2, 11]), (33, .iconst 0, 1, []), (34, .istore_n 1, 1, []), (35, .iload_n 1, 1, []), (36, .iconst 1, 1, []), (37, .aload_n 0, 1, []), (38, .getfield 68, 3, [10, 8, 10]), (41, .getfield 387, 3, [10, 1, 2]), (44, .ishl, 1, []), (45, .if_icmp .ge 41, 3, []), (48, .aload_n 0, 1, []), (49, .getfield 68, 3, [10, 8, 10]), (52, .aload_n 0, 1, []), (53, .getfield 55, 3, [10, 8, 8]), (56, .iload_n 1, 1, []), (57, .invokevirtual 390, 3, [0, 9, 3, 11]), (60, .lstore_n 2, 1, []), (61, .aload_n 0, 1, []), (62, .getfield 55, 3, [10, 8, 8]), (65, .invokevirtual 248, 3, [0, 75, 1, 17]), (68, .aload_n 0, 1, []), (69, .getfield 68, 3, [10, 8, 10]), (72, .aload_n 0, 1, []), (73, .getfield 55, 3, [10, 8, 8]), (76, .lload_n 2, 1, []), (77, .invokevirtual 394, 3, [0, 6, 3, 11]), (80, .iinc 1 1, 3, []), (83, .goto (-48), 3, []), (86, .aload_n 0, 1, []), (87, .iconst 1, 1, []), (88, .putfield 377, 3, [11, 8, 16, 1, 0]), (91, .aload_n 0, 1, []), (92, .getfield 68, 3, [10, 8, 10]), (95, .areturn, 1, [])]
/-- TingDecks.reckonedChances.()LTingDecks$Chances; -/
abbrev xm_115 : xe_M := (xc_115, 4, 3, 0, 0, [])
def xc_116 : List xe_I := [(0, .aload_n 0, 1, []), (1, .getfield 371, 3, [10, 8, 14]), (4, .ifCond .ne 30, 3, []), (7, .aload_n 0, 1, []), (8, .getfield 51, 3, [10, 8, 7]), (11, .aload_n 0, 1, []), (12, .getfield 20, 3, [10, 8, 2]), (15, .aload_n 0, 1, []), (16, .getfield 30, 3, [10, 8, 4]), (19, .invokevirtual 241, 3, [0, 74, 3, 17]), (22, .aload_n 0, 1, []), (23, .getfield 51, 3, [10, 8, 7]), (26, .invokevirtual 248, 3, [0, 75, 1, 17]), (29, .aload_n 0, 1, []), (30, .iconst 1, 1, []), (31, .putfield 371, 3, [11, 8, 14, 1, 0]), (34, .aload_n 0, 1, []), (35, .getfield 51, 3, [10, 8, 7]), (38, .areturn, 1, [])]
/-- TingDecks.walked.()LTingDecks$Trip; -/
abbrev xm_116 : xe_M := (xc_116, 1, 3, 0, 0, [])
def xc_117 : List xe_I := [(0, .aload_n 0, 1, []), (1, .iload_n 3, 1, []), (2, .iconst 2, 1, []), (3, .invokevirtual 190, 3, [0, 35, 3, 18]), (6, .iload_n 2, 1, []), (7, .ifCond .lt 9, 3, []), (10, .iload_n 2, 1, []), (11, .bipush 60, 2, []), (13, .if_icmp .le 14, 3, []), (16, .new 86, 3, [1, 0, 301, 90, 3]), (27, .aload_n 0, 1, []), (28, .getfield 55, 3, [10, 8, 8]), (31, .aload_n 0, 1, []), (32, .getfield 20, 3, [10, 8, 2]), (35, .aload_n 0, 1, []), (36, .getfield 30, 3, [10, 8, 4]), (39, .invokevirtual 241, 3, [0, 74, 3, 17]), (42, .iload_n 1, 1, []), (43, .istore 4, 2, []), (45, .iconst 0, 1, []), (46, .istore 5, 2, []), (48, .iconst 0, 1, []), (49, .istore 6, 2, []), (51, .iconst 0, 1, []), (52, .istore 7, 2, []), (54, .iconst 0, 1, []), (55, .istore 8, 2, []), (57, .iload 8, 2, []), (59, .iload_n 2, 1, []), (60, .if_icmp .ge 97, 3, []), (63, .aload_n 0, 1, []), (64, .getfield 55, 3, [10, 8, 8]), (67, .iload 4, 2, []), (69, .invokevirtual 303, 3, [0, 24, 2, 17]), (72, .istore 4, 2, []), (74, .aload_n 0, 1, []), (75, .getfield 55, 3, [10, 8, 8]), (78, .invokevirtual 248, 3, [0, 75, 1, 17]), (81, .iload 5, 2, []), (83, .aload_n 0, 1, []), (84, .getfield 55, 3, [10, 8, 8]), (87, .getfield 124, 3, [10, 7, 16]), (90, .iadd, 1, []), (91, .istore 5, 2, []), (93, .iload 8, 2, []), (95, .ifCond .ne 13, 3, []), (98, .aload_n 0, 1, []), (99, .getfield 55, 3, [10, 8, 8]), (102, .getfield 124, 3, [10, 7, 16]), (105, .goto 15, 3, []), (108, .iload 6, 2, []), (110, .aload_n 0, 1, []), (111, .getfield 55, 3, [10, 8, 8]), (114, .getfield 124, 3, [10, 7, 16]), (117, .invokestatic 306, 3, [6]), (120, .istore 6, 2, []), (122, .iload 8, 2, []), (124, .ifCond .ne 13, 3, []), (127, .aload_n 0, 1, []), (128, .getfield 55, 3, [10, 8, 8]), (131, .getfield 124, 3, [10, 7, 16]), (134, .goto 15, 3, []), (137, .iload 7, 2, []), (139, .aload_n 0, 1, []), (140, .getfield 55, 3, [10, 8, 8]), (143, .getfield 124, 3, [10, 7, 16]), (146, .invokestatic 284, 3, [7]), (149, .istore 7, 2, []), (151, .iinc 8 1, 3, []), (154, .goto (-97), 3, []), (157, .iload_n 3, 1, []), (158, .ifCond .ne 6, 3, []), (161, .iload 5, 2, []), (163, .ireturn, 1, []), (164, .iload_n 3, 1, []), (165, .iconst 1, 1, []), (166, .if_icmp .ne 8, 3, []), (169, .iload 6, 2, []), (171, .goto 5, 3, []), (174, .iload 7, 2, []), (176, .ireturn, 1, [])]
/-- TingDecks.week.(III)I -/
abbrev xm_117 : xe_M := (xc_117, 9, 1, 2, 12, [])
def xc_118 : List xe_I := [(0, .aload_n 0, 1, []), (1, .iconst 0, 1, []), (2, .putfield 150, 3, [11, 9, 0, 0, 0]), (5, .aload_n 0, 1, []), (6, .iload_n 1, 1, []), (7, .ifCond .lt 15, 3, []), (10, .iload_n 1, 1, []), (11, .aload_n 0, 1, []), (12, .getfield 153, 3, [10, 9, 18]), (15, .if_icmp .gt 7, 3, []), (18, .iconst 1, 1, []), (19, .goto 4, 3, []), (22, .iconst 0, 1, []), (23, .iconst 1, 1, []), (24, .invokevirtual 308, 3, [0, 65, 3, 19]), (27, .ifCond .ne 5, 3, []), (30, .iconst 0, 1, []), (31, .ireturn, 1, []), (32, .aload_n 0, 1, []), (33, .iconst 0, 1, []), (34, .putfield 153, 3, [11, 9, 18, 0, 0]), (37, .aload_n 0, 1, []), (38, .iconst (-1), 1, []), (39, .putfield 56, 3, [11, 9, 20, 0, 0]), (42, .aload_n 0, 1, []), (43, .iconst 0, 1, []), (44, .putfield 206, 3, [11, 9, 19, 0, 0]), (47, .aload_n 0, 1, []), (48, .iload_n 1, 1, []), (49, .putfield 160, 3, [11, 9, 22, 0, 0]), (52, .aload_n 0, 1, []), (53, .iconst 0, 1, []), (54, .putfield 163, 3, [11, 9, 23, 0, 0]), (57, .aload_n 0, 1, []), (58, .iconst 2, 1, []), (59, .putfield 287, 3, [11, 9, 30, 0, 0]), (62, .aload_n 0, 1, []), (63, .getfield 77, 3, [10, 9, 44]), (66, .iconst 0, 1, []), (67, .bipush 60, 2, []), (69, .iastore, 1, []), (70, .aload_n 0, 1, []), (71, .iconst 0, 1, []), (72, .putfield 277, 3, [11, 9, 31, 0, 0]), (75, .aload_n 0, 1, []), (76, .iconst 0, 1, []), (77, .putfield 305, 3, [11, 9, 32, 0, 0]), (80, .aload_n 0, 1, []), (81, .iconst (-1), 1, []), (82, .putfield 299, 3, [11, 9, 33, 0, 0]), (85, .aload_n 0, 1, []), (86, .getfield 80, 3, [10, 9, 45]), (89, .iconst 0, 1, []), (90, .iconst 1, 1, []), (91, .iastore, 1, []), (92, .aload_n 0, 1, []), (93, .getfield 80, 3, [10, 9, 45]), (96, .iconst 1, 1, []), (97, .bipush 11, 2, []), (99, .iastore, 1, []), (100, .aload_n 0, 1, []), (101, .getfield 80, 3, [10, 9, 45]), (104, .iconst 2, 1, []), (105, .iconst 5, 1, []), (106, .iastore, 1, []), (107, .aload_n 0, 1, []), (108, .getfield 80, 3, [10, 9, 45]), (111, .iconst 3, 1, []), (112, .bipush 6, 2, []), (114, .iastore, 1, []), (115, .aload_n 0, 1, []), (116, .getfield 80, 3, [10, 9, 45]), (119, .iconst 4, 1, []), (120, .bipush 10, 2, []), (122, .iastore, 1, []), (123, .aload_n 0, 1, []), (124, .iconst 0, 1, []), (125, .putfield 274, 3, [11, 9, 34, 0, 0]), (128, .aload_n 0, 1, []), (129, .iconst 0, 1, []), (130, .putfield 223, 3, [11, 9, 35, 0, 0]), (133, .aload_n 0, 1, []), (134, .invokevirtual 213, 3, [0, 91, 1, 19]), (137, .aload_n 0, 1, []), (138, .invokevirtual 209, 3, [0, 57, 1, 19]), (141, .ifCond .eq 17, 3, []), (144, .aload_n 0, 1, []), (145, .getfield 183, 3, [10, 9, 24]), (148, .ifCond .eq 10, 3, []), (158, .aload_n 0, 1, []), (159, .invokevirtual 209, 3, [0, 57, 1, 19]), (162, .ifCond .ne 18, 3, []), (180, .aload_n 0, 1, []), (181, .aload_n 0, 1, []), (182, .getfield 287, 3, [10, 9, 30]), (185, .putfield 7, 3, [11, 9, 1, 0, 0]), (188, .aload_n 0, 1, []), (189, .aload_n 0, 1, []), (190, .getfield 277, 3, [10, 9, 31]), (193, .putfield 315, 3, [11, 9, 2, 0, 0]), (196, .aload_n 0, 1, []), (197, .aload_n 0, 1, []), (198, .getfield 305, 3, [10, 9, 32]), (201, .putfield 318, 3, [11, 9, 3, 0, 0]), (204, .aload_n 0, 1, []), (205, .aload_n 0, 1, []), (206, .getfield 299, 3, [10, 9, 33]), (209, .putfield 28, 3, [11, 9, 9, 0, 0]), (212, .aload_n 0, 1, []), (213, .aload_n 0, 1, []), (214, .getfield 80, 3, [10, 9, 45]), (217, .iconst 0, 1, []), (218, .iaload, 1, []), (219, .putfield 13, 3, [11, 9, 4, 0, 0]), (222, .aload_n 0, 1, []), (223, .aload_n 0, 1, []), (224, .getfield 80, 3, [10, 9, 45]), (227, .iconst 1, 1, []), (228, .iaload, 1, []), (229, .putfield 16, 3, [11, 9, 5, 0, 0]), (232, .aload_n 0, 1, []), (233, .aload_n 0, 1, []), (234, .getfield 80, 3, [10, 9, 45]), (237, .iconst 2, 1, []), (238, .iaload, 1, []), (239, .putfield 19, 3, [11, 9, 6, 0, 0]), (242, .aload_n 0, 1, []), (243, .aload_n 0, 1, []), (244, .getfield 80, 3, [10, 9, 45]), (247, .iconst 3, 1, []), (248, .iaload, 1, []), (249, .putfield 22, 3, [11, 9, 7, 0, 0]), (252, .aload_n 0, 1, []), (253, .aload_n 0, 1, []), (254, .getfield 80, 3, [10, 9, 45]), (257, .iconst 4, 1, []), (258, .iaload, 1, []), (259, .putfield 25, 3, [11, 9, 8, 0, 0]), (262, .aload_n 0, 1, []), (263, .aload_n 0, 1, []), (264, .getfield 62, 3, [10, 9, 39]), (267, .aload_n 0, 1, []), (268, .getfield 31, 3, [10, 9, 10]), (271, .invokevirtual 321, 3, [0, 49, 3, 19]), (274, .aload_n 0, 1, []), (275, .aload_n 0, 1, []), (276, .getfield 65, 3, [10, 9, 40]), (279, .aload_n 0, 1, []), (280, .getfield 35, 3, [10, 9, 11]), (283, .invokevirtual 321, 3, [0, 49, 3, 19]), (286, .aload_n 0, 1, []), (287, .aload_n 0, 1, []), (288, .getfield 68, 3, [10, 9, 41]), (291, .aload_n 0, 1, []), (292, .getfield 38, 3, [10, 9, 12]), (295, .invokevirtual 321, 3, [0, 49, 3, 19]), (298, .aload_n 0, 1, []), (299, .aload_n 0, 1, []), (300, .getfield 71, 3, [10, 9, 42]), (303, .aload_n 0, 1, []), (304, .getfield 41, 3, [10, 9, 13]), (307, .invokevirtual 321, 3, [0, 49, 3, 19]), (310, .aload_n 0, 1, []), (311, .aload_n 0, 1, []), (312, .getfield 77, 3, [10, 9, 44]), (315, .aload_n 0, 1, []), (316, .getfield 44, 3, [10, 9, 14]), (319, .invokevirtual 321, 3, [0, 49, 3, 19]), (322, .aload_n 0, 1, []), (323, .aload_n 0, 1, []), (324, .getfield 83, 3, [10, 9, 46]), (327, .aload_n 0, 1, []), (328, .getfield 47, 3, [10, 9, 15]), (331, .invokevirtual 321, 3, [0, 49, 3, 19]), (334, .aload_n 0, 1, []), (335, .aload_n 0, 1, []), (336, .getfield 86, 3, [10, 9, 47]), (339, .aload_n 0, 1, []), (340, .getfield 50, 3, [10, 9, 16]), (343, .invokevirtual 321, 3, [0, 49, 3, 19]), (346, .iconst 0, 1, []), (347, .istore_n 2, 1, []), (348, .iload_n 2, 1, []), (349, .bipush 12, 2, []), (351, .if_icmp .ge 33, 3, []), (354, .aload_n 0, 1, []), (355, .getfield 96, 3, [10, 9, 50]), (358, .iconst 0, 1, []), (359, .iload_n 2, 1, []), (360, .iadd, 1, []), (361, .iconst 0, 1, []), (362, .iastore, 1, []), (363, .aload_n 0, 1, []), (364, .getfield 96, 3, [10, 9, 50]), (367, .bipush 12, 2, []), (369, .iload_n 2, 1, []), (370, .iadd, 1, []), (371, .aload_n 0, 1, []), (372, .getfield 74, 3, [10, 9, 43]), (375, .iload_n 2, 1, []), (376, .iaload, 1, []), (377, .iastore, 1, []), (378, .iinc 2 1, 3, []), (381, .goto (-33), 3, []), (384, .aload_n 0, 1, []), (385, .getfield 96, 3, [10, 9, 50]), (388, .bipush 24, 2, []), (390, .iconst (-1), 1, []), (391, .iastore, 1, []), (392, .aload_n 0, 1, []), (393, .iconst 0, 1, []), (394, .putfield 325, 3, [11, 9, 51, 0, 0]), (397, .aload_n 0, 1, []), (398, .iconst 0, 1, []), (399, .putfield 328, 3, [11, 9, 74, 0, 0]), (402, .aload_n 0, 1, []), (403, .iconst 0, 1, []), (404, .putfield 331, 3, [11, 9, 77, 1, 0]), (407, .iconst 0, 1, []), (408, .ireturn, 1, [])]
/-- TingDecksModel.bus.(I)I -/
abbrev xm_118 : xe_M := (xc_118, 3, 1, 0, 0, [])
def xc_119 : List xe_I := [(0, .aload_n 0, 1, []), (1, .iconst 0, 1, []), (2, .putfield 150, 3, [11, 9, 0, 0, 0]), (5, .aload_n 0, 1, []), (6, .iload_n 1, 1, []), (7, .invokevirtual 424, 3, [0, 93, 2, 19]), (10, .ifCond .eq 12, 3, []), (22, .iconst 0, 1, []), (23, .ireturn, 1, [])]
/-- TingDecksModel.dodge.(II)I -/
abbrev xm_119 : xe_M := (xc_119, 7, 1, 0, 0, [])
def xc_120 : List xe_I := [(0, .aload_n 0, 1, []), (1, .iconst 0, 1, []), (2, .putfield 150, 3, [11, 9, 0, 0, 0]), (5, .aload_n 0, 1, []), (6, .iload_n 1, 1, []), (7, .iconst 2, 1, []), (8, .invokevirtual 418, 3, [0, 95, 3, 19]), (11, .ifCond .ne 5, 3, []), (14, .iconst 0, 1, []), (15, .ireturn, 1, []), (16, .iconst 0, 1, []), (17, .istore_n 2, 1, []), (18, .iconst (-1), 1, []), (19, .istore_n 3, 1, []), (20, .aload_n 0, 1, []), (21, .invokevirtual 396, 3, [0, 50, 1, 19]), (24, .istore 4, 2, []), (26, .aload_n 0, 1, []), (27, .invokevirtual 396, 3, [0, 50, 1, 19]), (30, .istore 5, 2, []), (32, .iload 5, 2, []), (34, .ifCond .lt 34, 3, []), (37, .aload_n 0, 1, []), (38, .iload 5, 2, []), (40, .invokevirtual 471, 3, [0, 56, 2, 19]), (43, .ifCond .ne 6, 3, []), (49, .iinc 2 1, 3, []), (52, .iload 5, 2, []), (54, .istore_n 3, 1, []), (55, .iload 4, 2, []), (57, .iload 5, 2, []), (59, .iand, 1, []), (60, .istore 4, 2, []), (62, .iinc 5 (-1), 3, []), (65, .goto (-33), 3, []), (68, .iload_n 1, 1, []), (69, .ifCond .ne 7, 3, []), (72, .iload_n 2, 1, []), (73, .goto 22, 3, []), (76, .iload_n 1, 1, []), (77, .iconst 1, 1, []), (78, .if_icmp .ne 7, 3, []), (81, .iload_n 3, 1, []), (82, .goto 13, 3, []), (85, .iload_n 2, 1, []), (86, .ifCond .ne 7, 3, []), (93, .iload 4, 2, []), (95, .ireturn, 1, [])]
/-- TingDecksModel.fits.(I)I -/
abbrev xm_120 : xe_M := (xc_120, 6, 1, 0, 0, [])
def xc_121 : List xe_I := [(0, .aload_n 0, 1, []), (1, .iconst 0, 1, []), (2, .putfield 150, 3, [11, 9, 0, 0, 0]), (5, .aload_n 0, 1, []), (6, .iload_n 1, 1, []), (7, .invokevirtual 415, 3, [0, 94, 2, 19]), (10, .ifCond .eq 34, 3, []), (13, .aload_n 0, 1, []), (14, .iload_n 2, 1, []), (15, .invokevirtual 424, 3, [0, 93, 2, 19]), (18, .ifCond .eq 26, 3, []), (44, .iconst 0, 1, []), (45, .ireturn, 1, [])]
/-- TingDecksModel.game.(III)I -/
abbrev xm_121 : xe_M := (xc_121, 14, 1, 0, 0, [])
def xc_122 : List xe_I := [(0, .aload_n 0, 1, []), (1, .iconst 0, 1, []), (2, .putfield 150, 3, [11, 9, 0, 0, 0]), (5, .aload_n 0, 1, []), (6, .iload_n 1, 1, []), (7, .invokevirtual 415, 3, [0, 94, 2, 19]), (10, .ifCond .ne 5, 3, []), (13, .iconst 0, 1, []), (14, .ireturn, 1, []), (15, .aload_n 0, 1, []), (16, .getfield 328, 3, [10, 9, 74]), (19, .bipush 8, 2, []), (21, .if_icmp .eq 22, 3, []), (24, .iload_n 2, 1, []), (25, .iconst 0, 1, []), (26, .iconst 1, 1, []), (27, .invokestatic 408, 3, [0, 69, 3, 2]), (30, .ifCond .eq 13, 3, []), (33, .iload_n 3, 1, []), (34, .iconst 0, 1, []), (35, .bipush 12, 2, []), (37, .invokestatic 408, 3, [0, 69, 3, 2]), (40, .ifCond .ne 9, 3, []), (43, .aload_n 0, 1, []), (44, .iconst 2, 1, []), (45, .invokevirtual 430, 3, [0, 63, 2, 19]), (48, .ireturn, 1, []), (49, .aload_n 0, 1, []), (50, .getfield 138, 3, [10, 9, 75]), (53, .iconst 3, 1, []), (54, .aload_n 0, 1, []), (55, .getfield 328, 3, [10, 9, 74]), (58, .imul, 1, []), (59, .iload_n 1, 1, []), (60, .iastore, 1, []), (61, .aload_n 0, 1, []), (62, .getfield 138, 3, [10, 9, 75]), (65, .iconst 3, 1, []), (66, .aload_n 0, 1, []), (67, .getfield 328, 3, [10, 9, 74]), (70, .imul, 1, []), (71, .iconst 1, 1, []), (72, .iadd, 1, []), (73, .iload_n 2, 1, []), (74, .iastore, 1, []), (75, .aload_n 0, 1, []), (76, .getfield 138, 3, [10, 9, 75]), (79, .iconst 3, 1, []), (80, .aload_n 0, 1, []), (81, .getfield 328, 3, [10, 9, 74]), (84, .imul, 1, []), (85, .iconst 2, 1, []), (86, .iadd, 1, []), (87, .iload_n 3, 1, []), (88, .iastore, 1, []), (89, .aload_n 0, 1, []), (90, .dup, 1, []), (91, .getfield 328, 3, [10, 9, 74]), (94, .iconst 1, 1, []), (95, .iadd, 1, []), (96, .putfield 328, 3, [11, 9, 74, 0, 0]), (99, .aload_n 0, 1, []), (100, .getfield 328, 3, [10, 9, 74]), (103, .ireturn, 1, [])]
/-- TingDecksModel.head.(III)I -/
abbrev xm_122 : xe_M := (xc_122, 4, 1, 0, 0, [])
def xc_123 : List xe_I := [(0, .aload_n 0, 1, []), (1, .iconst 0, 1, []), (2, .putfield 150, 3, [11, 9, 0, 0, 0]), (5, .aload_n 0, 1, []), (6, .iload_n 1, 1, []), (7, .invokevirtual 415, 3, [0, 94, 2, 19]), (10, .ifCond .ne 5, 3, []), (13, .iconst 0, 1, []), (14, .ireturn, 1, []), (15, .iload_n 2, 1, []), (16, .iconst 0, 1, []), (17, .bipush 60, 2, []), (19, .invokestatic 408, 3, [0, 69, 3, 2]), (22, .ifCond .ne 9, 3, []), (25, .aload_n 0, 1, []), (26, .iconst 1, 1, []), (27, .invokevirtual 430, 3, [0, 63, 2, 19]), (30, .ireturn, 1, []), (31, .aload_n 0, 1, []), (32, .iconst 0, 1, []), (33, .iload_n 1, 1, []), (34, .iadd, 1, []), (35, .invokevirtual 433, 3, [0, 58, 2, 19]), (38, .aload_n 0, 1, []), (39, .getfield 96, 3, [10, 9, 50]), (42, .iconst 0, 1, []), (43, .iload_n 1, 1, []), (44, .iadd, 1, []), (45, .iaload, 1, []), (46, .istore_n 3, 1, []), (47, .aload_n 0, 1, []), (48, .getfield 96, 3, [10, 9, 50]), (51, .iconst 0, 1, []), (52, .iload_n 1, 1, []), (53, .iadd, 1, []), (54, .iload_n 2, 1, []), (55, .iastore, 1, []), (56, .iload_n 3, 1, []), (57, .ireturn, 1, [])]
/-- TingDecksModel.hold.(II)I -/
abbrev xm_123 : xe_M := (xc_123, 4, 1, 0, 0, [])
def xc_124 : List xe_I := [(0, .aload_n 0, 1, []), (1, .iconst 0, 1, []), (2, .putfield 150, 3, [11, 9, 0, 0, 0]), (5, .aload_n 0, 1, []), (6, .iload_n 1, 1, []), (7, .invokevirtual 424, 3, [0, 93, 2, 19]), (10, .ifCond .eq 12, 3, []), (22, .lconst 0, 1, []), (23, .lreturn, 1, [])]
/-- TingDecksModel.likely.(II)J -/
abbrev xm_124 : xe_M := (xc_124, 3, 2, 0, 0, [])
def xc_125 : List xe_I := [(0, .aload_n 0, 1, []), (1, .iconst 0, 1, []), (2, .putfield 150, 3, [11, 9, 0, 0, 0]), (5, .aload_n 0, 1, []), (6, .iload_n 1, 1, []), (7, .iconst 1, 1, []), (8, .invokevirtual 418, 3, [0, 95, 3, 19]), (11, .ifCond .ne 5, 3, []), (14, .iconst 0, 1, []), (15, .ireturn, 1, []), (16, .aload_n 0, 1, []), (17, .getfield 315, 3, [10, 9, 2]), (20, .bipush 10, 2, []), (22, .if_icmp .le 6, 3, []), (28, .aload_n 0, 1, []), (29, .aload_n 0, 1, []), (30, .invokevirtual 396, 3, [0, 50, 1, 19]), (33, .invokevirtual 440, 3, [0, 60, 2, 19]), (36, .iconst 0, 1, []), (37, .istore_n 2, 1, []), (38, .iconst 0, 1, []), (39, .istore_n 3, 1, []), (40, .iconst 1, 1, []), (41, .istore 4, 2, []), (43, .iload 4, 2, []), (45, .aload_n 0, 1, []), (46, .invokevirtual 396, 3, [0, 50, 1, 19]), (49, .if_icmp .gt 44, 3, []), (93, .iload_n 1, 1, []), (94, .ifCond .ne 7, 3, []), (97, .iload_n 3, 1, []), (98, .goto 4, 3, []), (101, .iload_n 2, 1, []), (102, .ireturn, 1, [])]
/-- TingDecksModel.most.(I)I -/
abbrev xm_125 : xe_M := (xc_125, 5, 1, 0, 0, [])
def xc_126 : List xe_I := [(0, .aload_n 0, 1, []), (1, .iconst 0, 1, []), (2, .putfield 150, 3, [11, 9, 0, 0, 0]), (5, .aload_n 0, 1, []), (6, .iload_n 1, 1, []), (7, .invokevirtual 424, 3, [0, 93, 2, 19]), (10, .ifCond .eq 12, 3, []), (22, .iconst 0, 1, []), (23, .ireturn, 1, [])]
/-- TingDecksModel.paid.(II)I -/
abbrev xm_126 : xe_M := (xc_126, 3, 1, 0, 0, [])
def xc_127 : List xe_I := [(0, .aload_n 0, 1, []), (1, .iconst 0, 1, []), (2, .putfield 150, 3, [11, 9, 0, 0, 0]), (5, .aload_n 0, 1, []), (6, .iload_n 1, 1, []), (7, .invokevirtual 424, 3, [0, 93, 2, 19]), (10, .ifCond .eq 13, 3, []), (23, .iconst 0, 1, []), (24, .ireturn, 1, [])]
/-- TingDecksModel.rider.(II)I -/
abbrev xm_127 : xe_M := (xc_127, 3, 1, 0, 0, [])
def xc_128 : List xe_I := [(0, .iconst 0, 1, []), (1, .istore_n 3, 1, []), (2, .iload_n 3, 1, []), (3, .aload_n 0, 1, []), (4, .getfield 7, 3, [10, 9, 1]), (7, .if_icmp .ge 20, 3, []), (10, .aload_n 0, 1, []), (11, .getfield 129, 3, [10, 9, 62]), (14, .iload_n 3, 1, []), (15, .aload_n 0, 1, []), (16, .iload_n 3, 1, []), (17, .invokevirtual 334, 3, [0, 46, 2, 19]), (20, .iastore, 1, []), (21, .iinc 3 1, 3, []), (24, .goto (-22), 3, []), (27, .iconst 0, 1, []), (28, .istore_n 3, 1, []), (29, .iload_n 3, 1, []), (30, .aload_n 0, 1, []), (31, .getfield 315, 3, [10, 9, 2]), (34, .if_icmp .ge 30, 3, []), (64, .aload_n 0, 1, []), (65, .iconst 0, 1, []), (66, .putfield 362, 3, [11, 9, 63, 0, 0]), (69, .aload_n 0, 1, []), (70, .iconst 0, 1, []), (71, .putfield 365, 3, [11, 9, 64, 0, 0]), (74, .aload_n 0, 1, []), (75, .iconst 0, 1, []), (76, .putfield 368, 3, [11, 9, 65, 0, 0]), (79, .aload_n 0, 1, []), (80, .iconst 0, 1, []), (81, .putfield 371, 3, [11, 9, 66, 0, 0]), (84, .aload_n 0, 1, []), (85, .iconst 0, 1, []), (86, .putfield 374, 3, [11, 9, 67, 0, 0]), (89, .aload_n 0, 1, []), (90, .iconst 0, 1, []), (91, .putfield 377, 3, [11, 9, 68, 0, 0]), (94, .aload_n 0, 1, []), (95, .iconst 0, 1, []), (96, .putfield 380, 3, [11, 9, 69, 0, 0]), (99, .iload_n 2, 1, []), (100, .iconst 1, 1, []), (101, .if_icmp .ne 8, 3, []), (104, .bipush 10, 2, []), (106, .goto 4, 3, []), (109, .iconst 0, 1, []), (110, .istore_n 3, 1, []), (111, .iconst 0, 1, []), (112, .istore 4, 2, []), (114, .iload 4, 2, []), (116, .aload_n 0, 1, []), (117, .getfield 129, 3, [10, 9, 62]), (120, .aload_n 0, 1, []), (121, .getfield 7, 3, [10, 9, 1]), (124, .iconst 1, 1, []), (125, .isub, 1, []), (126, .iaload, 1, []), (127, .if_icmp .ge 294, 3, []), (130, .aload_n 0, 1, []), (131, .iload 4, 2, []), (133, .iload_n 3, 1, []), (134, .iload_n 1, 1, []), (135, .iload_n 2, 1, []), (136, .invokevirtual 383, 3, [0, 61, 5, 19]), (139, .istore 5, 2, []), (141, .iload 5, 2, []), (143, .iconst (-1), 1, []), (144, .if_icmp .ne 39, 3, []), (147, .aload_n 0, 1, []), (148, .getfield 129, 3, [10, 9, 62]), (151, .aload_n 0, 1, []), (152, .iload 4, 2, []), (154, .invokevirtual 353, 3, [0, 99, 2, 19]), (157, .iconst 1, 1, []), (158, .iadd, 1, []), (159, .iaload, 1, []), (160, .istore 6, 2, []), (162, .aload_n 0, 1, []), (163, .dup, 1, []), (164, .getfield 374, 3, [10, 9, 67]), (167, .iload 6, 2, []), (169, .iload 4, 2, []), (171, .isub, 1, []), (172, .iadd, 1, []), (173, .putfield 374, 3, [11, 9, 67, 0, 0]), (176, .iload 6, 2, []), (178, .istore 4, 2, []), (180, .goto (-66), 3, []), (421, .return_, 1, [])]
/-- TingDecksModel.runs.(II)V -/
abbrev xm_128 : xe_M := (xc_128, 7, 0, 0, 0, [])
def xc_129 : List xe_I := [(0, .aload_n 0, 1, []), (1, .iconst 0, 1, []), (2, .putfield 150, 3, [11, 9, 0, 0, 0]), (5, .aload_n 0, 1, []), (6, .iload_n 1, 1, []), (7, .invokevirtual 424, 3, [0, 93, 2, 19]), (10, .ifCond .ne 5, 3, []), (13, .iconst 0, 1, []), (14, .ireturn, 1, [])]
/-- TingDecksModel.sit.(III)I -/
abbrev xm_129 : xe_M := (xc_129, 5, 1, 0, 0, [])
def xc_130 : List xe_I := [(0, .aload_n 0, 1, []), (1, .iconst 0, 1, []), (2, .putfield 150, 3, [11, 9, 0, 0, 0]), (5, .aload_n 0, 1, []), (6, .iload_n 1, 1, []), (7, .invokevirtual 415, 3, [0, 94, 2, 19]), (10, .ifCond .eq 12, 3, []), (13, .aload_n 0, 1, []), (14, .iload_n 2, 1, []), (15, .iconst 3, 1, []), (16, .invokevirtual 418, 3, [0, 95, 3, 19]), (19, .ifCond .ne 5, 3, []), (22, .iconst 0, 1, []), (23, .ireturn, 1, []), (24, .iload_n 2, 1, []), (25, .iconst 2, 1, []), (26, .if_icmp .ge 24, 3, []), (29, .iload_n 2, 1, []), (30, .ifCond .ne 11, 3, []), (33, .aload_n 0, 1, []), (34, .iload_n 1, 1, []), (35, .invokevirtual 334, 3, [0, 46, 2, 19]), (38, .goto 11, 3, []), (41, .aload_n 0, 1, []), (42, .getfield 96, 3, [10, 9, 50]), (45, .iconst 0, 1, []), (46, .iload_n 1, 1, []), (47, .iadd, 1, []), (48, .iaload, 1, []), (49, .ireturn, 1, []), (50, .iconst 0, 1, []), (51, .istore_n 3, 1, []), (52, .iconst 0, 1, []), (53, .istore 4, 2, []), (55, .iload 4, 2, []), (57, .aload_n 0, 1, []), (58, .getfield 315, 3, [10, 9, 2]), (61, .if_icmp .ge 49, 3, []), (110, .iload_n 3, 1, []), (111, .ireturn, 1, [])]
/-- TingDecksModel.stop.(II)I -/
abbrev xm_130 : xe_M := (xc_130, 5, 1, 0, 0, [])
def xc_131 : List xe_I := [(0, .aload_n 0, 1, []), (1, .iconst 0, 1, []), (2, .putfield 150, 3, [11, 9, 0, 0, 0]), (5, .aload_n 0, 1, []), (6, .iload_n 1, 1, []), (7, .invokevirtual 424, 3, [0, 93, 2, 19]), (10, .ifCond .eq 36, 3, []), (46, .iconst 0, 1, []), (47, .ireturn, 1, [])]
/-- TingDecksModel.way.(II)I -/
abbrev xm_131 : xe_M := (xc_131, 3, 1, 0, 0, [])
def xc_132 : List xe_I := [(0, .aload_n 0, 1, []), (1, .iconst 0, 1, []), (2, .putfield 150, 3, [11, 9, 0, 0, 0]), (5, .aload_n 0, 1, []), (6, .iload_n 1, 1, []), (7, .invokevirtual 424, 3, [0, 93, 2, 19]), (10, .ifCond .eq 25, 3, []), (35, .iconst 0, 1, []), (36, .ireturn, 1, [])]
/-- TingDecksModel.worth.(I)I -/
abbrev xm_132 : xe_M := (xc_132, 2, 1, 0, 0, [])
def xc_133 : List xe_I := [(0, .aload_n 3, 1, []), (1, .iconst 0, 1, []), (2, .aload_n 0, 1, []), (3, .iload_n 1, 1, []), (4, .iload_n 2, 1, []), (5, .invokevirtual 49, 3, [0, 111, 3, 18]), (8, .i2l, 1, []), (9, .lastore, 1, []), (10, .goto 7, 3, []), (13, .astore 4, 2, []), (15, .iconst 1, 1, []), (16, .ireturn, 1, []), (17, .iconst 0, 1, []), (18, .ireturn, 1, [])]
/-- TingDecksLaw.bell.(LTingDecks;II[J)I -/
abbrev xm_133 : xe_M := (xc_133, 5, 1, 2, 12, [(0, 10, 13, 1)])
def xc_134 : List xe_I := [(0, .aload 4, 2, []), (2, .iconst 0, 1, []), (3, .aload_n 0, 1, []), (4, .iload_n 1, 1, []), (5, .iload_n 2, 1, []), (6, .iload_n 3, 1, []), (7, .invokevirtual 73, 3, [0, 117, 4, 18]), (10, .i2l, 1, []), (11, .lastore, 1, []), (12, .goto 11, 3, []), (15, .astore 5, 2, []), (17, .iconst 1, 1, []), (18, .ireturn, 1, []), (19, .astore 5, 2, []), (21, .iconst 2, 1, []), (22, .ireturn, 1, []), (23, .iconst 0, 1, []), (24, .ireturn, 1, [])]
/-- TingDecksLaw.week.(LTingDecks;III[J)I -/
abbrev xm_134 : xe_M := (xc_134, 6, 1, 2, 12, [(0, 12, 15, 1), (0, 12, 19, 0)])
def xc_135 : List xe_I := [(0, .aload_n 0, 1, []), (1, .iload_n 1, 1, []), (2, .invokevirtual 149, 3, [0, 34, 2, 18]), (5, .aload_n 0, 1, []), (6, .invokevirtual 120, 3, [0, 116, 1, 18]), (9, .astore_n 2, 1, []), (10, .aload_n 0, 1, []), (11, .getfield 20, 3, [10, 8, 2]), (14, .iload_n 1, 1, []), (15, .invokevirtual 158, 3, [0, 5, 2, 10]), (18, .aload_n 2, 1, []), (19, .getfield 135, 3, [10, 7, 15]), (22, .iand, 1, []), (23, .istore_n 3, 1, []), (24, .iconst 0, 1, []), (25, .istore 4, 2, []), (27, .iconst 0, 1, []), (28, .istore 5, 2, []), (30, .iload 5, 2, []), (32, .aload_n 0, 1, []), (33, .getfield 20, 3, [10, 8, 2]), (36, .getfield 108, 3, [10, 0, 11]), (39, .if_icmp .ge 71, 3, []), (110, .iload 4, 2, []), (112, .ireturn, 1, [])]
/-- TingDecks.again.(I)I -/
abbrev xm_135 : xe_M := (xc_135, 7, 1, 1, 6, [])
def xc_136 : List xe_I := [(0, .iconst (-1), 1, []), (1, .istore_n 1, 1, []), (2, .aload_n 0, 1, []), (3, .iconst (-1), 1, []), (4, .invokevirtual 238, 3, [0, 113, 2, 18]), (7, .istore_n 2, 1, []), (8, .iconst 0, 1, []), (9, .istore_n 3, 1, []), (10, .iload_n 3, 1, []), (11, .aload_n 0, 1, []), (12, .getfield 20, 3, [10, 8, 2]), (15, .getfield 111, 3, [10, 0, 12]), (18, .if_icmp .ge 27, 3, []), (45, .iload_n 1, 1, []), (46, .ireturn, 1, [])]
/-- TingDecks.best.()I -/
abbrev xm_136 : xe_M := (xc_136, 5, 1, 0, 0, [])
def xc_137 : List xe_I := [(0, .iload_n 1, 1, []), (1, .ifCond .lt 11, 3, []), (4, .iload_n 1, 1, []), (5, .aload_n 0, 1, []), (6, .getfield 79, 3, [10, 8, 11]), (9, .if_icmp .le 13, 3, []), (12, .new 86, 3, [1, 0, 88, 90, 2]), (22, .aload_n 0, 1, []), (23, .iconst 0, 1, []), (24, .putfield 79, 3, [11, 8, 11, 0, 0]), (27, .aload_n 0, 1, []), (28, .getfield 42, 3, [10, 8, 6]), (31, .iload_n 1, 1, []), (32, .aload_n 0, 1, []), (33, .getfield 24, 3, [10, 8, 3]), (36, .invokevirtual 93, 3, [0, 110, 3, 13]), (39, .istore_n 2, 1, []), (40, .iload_n 2, 1, []), (41, .ifCond .eq 26, 3, []), (67, .aload_n 0, 1, []), (68, .iconst (-1), 1, []), (69, .putfield 72, 3, [11, 8, 12, 0, 0]), (72, .aload_n 0, 1, []), (73, .getfield 20, 3, [10, 8, 2]), (76, .astore_n 3, 1, []), (77, .aload_n 0, 1, []), (78, .aload_n 0, 1, []), (79, .getfield 24, 3, [10, 8, 3]), (82, .putfield 20, 3, [11, 8, 2, 3, 0]), (85, .aload_n 0, 1, []), (86, .aload_n 3, 1, []), (87, .putfield 24, 3, [11, 8, 3, 3, 0]), (90, .aload_n 0, 1, []), (91, .getfield 30, 3, [10, 8, 4]), (94, .aload_n 0, 1, []), (95, .getfield 20, 3, [10, 8, 2]), (98, .invokevirtual 76, 3, [0, 21, 2, 15]), (101, .aload_n 0, 1, []), (102, .iconst 0, 1, []), (103, .putfield 98, 3, [11, 8, 13, 1, 0]), (106, .aload_n 0, 1, []), (107, .invokevirtual 102, 3, [0, 43, 1, 18]), (110, .iconst 0, 1, []), (111, .ireturn, 1, [])]
/-- TingDecks.bus.(I)I -/
abbrev xm_137 : xe_M := (xc_137, 4, 1, 1, 6, [])
def xc_138 : List xe_I := [(0, .aload_n 0, 1, []), (1, .iload_n 1, 1, []), (2, .invokevirtual 219, 3, [0, 39, 2, 18]), (5, .ifCond .ne 13, 3, []), (8, .new 144, 3, [1, 1, 236, 148, 2]), (18, .aload_n 0, 1, []), (19, .iload_n 1, 1, []), (20, .invokevirtual 238, 3, [0, 113, 2, 18]), (23, .ireturn, 1, [])]
/-- TingDecks.compare.(I)I -/
abbrev xm_138 : xe_M := (xc_138, 2, 1, 1, 6, [])
def xc_139 : List xe_I := [(0, .iload_n 1, 1, []), (1, .tableswitch 197 0 17 #[87, 95, 103, 111, 119, 119, 119, 119, 119, 131, 139, 158, 166, 174, 182, 187, 187, 187], 87, []), (88, .aload_n 0, 1, []), (89, .getfield 20, 3, [10, 8, 2]), (92, .getfield 105, 3, [10, 0, 10]), (95, .ireturn, 1, []), (96, .aload_n 0, 1, []), (97, .getfield 20, 3, [10, 8, 2]), (100, .getfield 108, 3, [10, 0, 11]), (103, .ireturn, 1, []), (104, .aload_n 0, 1, []), (105, .getfield 20, 3, [10, 8, 2]), (108, .getfield 111, 3, [10, 0, 12]), (111, .ireturn, 1, []), (112, .aload_n 0, 1, []), (113, .getfield 30, 3, [10, 8, 4]), (116, .getfield 114, 3, [10, 5, 8]), (119, .ireturn, 1, []), (120, .aload_n 0, 1, []), (121, .getfield 20, 3, [10, 8, 2]), (124, .getfield 117, 3, [10, 0, 5]), (127, .iload_n 1, 1, []), (128, .iconst 4, 1, []), (129, .isub, 1, []), (130, .iaload, 1, []), (131, .ireturn, 1, []), (132, .aload_n 0, 1, []), (133, .invokevirtual 120, 3, [0, 116, 1, 18]), (136, .getfield 124, 3, [10, 7, 16]), (139, .ireturn, 1, []), (140, .aload_n 0, 1, []), (141, .aload_n 0, 1, []), (142, .invokevirtual 120, 3, [0, 116, 1, 18]), (145, .getfield 124, 3, [10, 7, 16]), (148, .aload_n 0, 1, []), (149, .getfield 30, 3, [10, 8, 4]), (152, .invokevirtual 127, 3, [0, 16, 1, 15]), (155, .invokevirtual 131, 3, [0, 40, 3, 18]), (158, .ireturn, 1, []), (159, .aload_n 0, 1, []), (160, .invokevirtual 120, 3, [0, 116, 1, 18]), (163, .getfield 135, 3, [10, 7, 15]), (166, .ireturn, 1, []), (167, .aload_n 0, 1, []), (168, .getfield 30, 3, [10, 8, 4]), (171, .getfield 138, 3, [10, 5, 9]), (174, .ireturn, 1, []), (175, .aload_n 0, 1, []), (176, .getfield 30, 3, [10, 8, 4]), (179, .getfield 141, 3, [10, 5, 10]), (182, .ireturn, 1, []), (183, .aload_n 0, 1, []), (184, .getfield 79, 3, [10, 8, 11]), (187, .ireturn, 1, []), (188, .aload_n 0, 1, []), (189, .getfield 13, 3, [10, 8, 1]), (192, .iload_n 1, 1, []), (193, .bipush 15, 2, []), (195, .isub, 1, []), (196, .iaload, 1, []), (197, .ireturn, 1, []), (198, .new 144, 3, [1, 1, 146, 148, 2])]
/-- TingDecks.count.(I)I -/
abbrev xm_139 : xe_M := (xc_139, 2, 1, 1, 6, [])
def xc_140 : List xe_I := [(0, .aload_n 0, 1, []), (1, .iload_n 1, 1, []), (2, .iconst 2, 1, []), (3, .invokevirtual 190, 3, [0, 35, 3, 18]), (6, .iconst 0, 1, []), (7, .istore_n 2, 1, []), (8, .iconst 0, 1, []), (9, .istore_n 3, 1, []), (10, .iload_n 3, 1, []), (11, .aload_n 0, 1, []), (12, .getfield 20, 3, [10, 8, 2]), (15, .getfield 108, 3, [10, 0, 11]), (18, .if_icmp .ge 29, 3, []), (47, .iload_n 1, 1, []), (48, .iconst 1, 1, []), (49, .if_icmp .ne 5, 3, []), (52, .iload_n 2, 1, []), (53, .ireturn, 1, []), (54, .aload_n 0, 1, []), (55, .invokevirtual 120, 3, [0, 116, 1, 18]), (58, .aload_n 0, 1, []), (59, .getfield 20, 3, [10, 8, 2]), (62, .invokevirtual 254, 3, [0, 1, 1, 10]), (65, .invokevirtual 257, 3, [0, 26, 2, 17]), (68, .istore_n 3, 1, []), (69, .iload_n 1, 1, []), (70, .ifCond .ne 18, 3, []), (73, .aload_n 0, 1, []), (74, .iload_n 3, 1, []), (75, .iload_n 2, 1, []), (76, .aload_n 0, 1, []), (77, .getfield 30, 3, [10, 8, 4]), (80, .invokevirtual 127, 3, [0, 16, 1, 15]), (83, .iadd, 1, []), (84, .invokevirtual 131, 3, [0, 40, 3, 18]), (87, .ireturn, 1, []), (88, .aload_n 0, 1, []), (89, .iload_n 3, 1, []), (90, .iload_n 2, 1, []), (91, .aload_n 0, 1, []), (92, .invokevirtual 120, 3, [0, 116, 1, 18]), (95, .getfield 124, 3, [10, 7, 16]), (98, .invokevirtual 260, 3, [0, 77, 4, 18]), (101, .ireturn, 1, [])]
/-- TingDecks.door.(I)I -/
abbrev xm_140 : xe_M := (xc_140, 4, 1, 1, 6, [])
def xc_141 : List xe_I := [(0, .aload_n 0, 1, []), (1, .iload_n 1, 1, []), (2, .iconst 2, 1, []), (3, .invokevirtual 190, 3, [0, 35, 3, 18]), (6, .aload_n 0, 1, []), (7, .invokevirtual 120, 3, [0, 116, 1, 18]), (10, .invokevirtual 264, 3, [0, 32, 1, 17]), (13, .istore_n 2, 1, []), (14, .iconst 0, 1, []), (15, .istore_n 3, 1, []), (16, .iconst (-1), 1, []), (17, .istore 4, 2, []), (19, .aload_n 0, 1, []), (20, .getfield 20, 3, [10, 8, 2]), (23, .invokevirtual 254, 3, [0, 1, 1, 10]), (26, .istore 5, 2, []), (28, .iload 5, 2, []), (30, .istore 6, 2, []), (32, .iconst 0, 1, []), (33, .istore 7, 2, []), (35, .iload 7, 2, []), (37, .iload 5, 2, []), (39, .if_icmp .gt 43, 3, []), (42, .aload_n 0, 1, []), (43, .iload_n 2, 1, []), (44, .iload 7, 2, []), (46, .ixor, 1, []), (47, .invokevirtual 292, 3, [0, 38, 2, 18]), (50, .ifCond .eq 26, 3, []), (53, .iload_n 3, 1, []), (54, .ifCond .ne 8, 3, []), (57, .iload 7, 2, []), (59, .goto 5, 3, []), (64, .istore 4, 2, []), (66, .iload 6, 2, []), (68, .iload 7, 2, []), (70, .iand, 1, []), (71, .istore 6, 2, []), (73, .iinc 3 1, 3, []), (76, .iinc 7 1, 3, []), (79, .goto (-44), 3, []), (82, .iload_n 1, 1, []), (83, .ifCond .ne 5, 3, []), (86, .iload_n 3, 1, []), (87, .ireturn, 1, []), (88, .iload_n 1, 1, []), (89, .iconst 1, 1, []), (90, .if_icmp .ne 6, 3, []), (93, .iload 4, 2, []), (95, .ireturn, 1, []), (96, .iload_n 3, 1, []), (97, .ifCond .ne 7, 3, []), (104, .iload 6, 2, []), (106, .ireturn, 1, [])]
/-- TingDecks.fits.(I)I -/
abbrev xm_141 : xe_M := (xc_141, 8, 1, 1, 6, [])
def xc_142 : List xe_I := [(0, .aload_n 0, 1, []), (1, .invokevirtual 120, 3, [0, 116, 1, 18]), (4, .getfield 124, 3, [10, 7, 16]), (7, .istore_n 1, 1, []), (8, .aload_n 0, 1, []), (9, .getfield 55, 3, [10, 8, 8]), (12, .aload_n 0, 1, []), (13, .getfield 20, 3, [10, 8, 2]), (16, .aload_n 0, 1, []), (17, .getfield 30, 3, [10, 8, 4]), (20, .invokevirtual 241, 3, [0, 74, 3, 17]), (23, .iconst 0, 1, []), (24, .istore_n 2, 1, []), (25, .iload_n 2, 1, []), (26, .bipush 99, 2, []), (28, .if_icmp .gt 53, 3, []), (31, .iload_n 2, 1, []), (32, .aload_n 0, 1, []), (33, .getfield 20, 3, [10, 8, 2]), (36, .getfield 108, 3, [10, 0, 11]), (39, .imul, 1, []), (40, .iload_n 1, 1, []), (41, .if_icmp .ge 6, 3, []), (47, .aload_n 0, 1, []), (48, .getfield 55, 3, [10, 8, 8]), (51, .iload_n 2, 1, []), (52, .invokevirtual 273, 3, [0, 25, 2, 17]), (55, .aload_n 0, 1, []), (56, .getfield 55, 3, [10, 8, 8]), (59, .invokevirtual 248, 3, [0, 75, 1, 17]), (62, .aload_n 0, 1, []), (63, .getfield 55, 3, [10, 8, 8]), (66, .getfield 124, 3, [10, 7, 16]), (69, .iload_n 1, 1, []), (70, .if_icmp .lt 5, 3, []), (73, .iload_n 2, 1, []), (74, .ireturn, 1, [])]
/-- TingDecks.flat.()I -/
abbrev xm_142 : xe_M := (xc_142, 3, 1, 0, 0, [])
def xc_143 : List xe_I := [(0, .iload_n 1, 1, []), (1, .ifCond .lt 9, 3, []), (4, .iload_n 1, 1, []), (5, .bipush 12, 2, []), (7, .if_icmp .le 14, 3, []), (10, .new 86, 3, [1, 0, 276, 90, 3]), (21, .aload_n 0, 1, []), (22, .invokevirtual 120, 3, [0, 116, 1, 18]), (25, .astore_n 2, 1, []), (26, .iconst 0, 1, []), (27, .istore_n 3, 1, []), (28, .iconst 0, 1, []), (29, .istore 4, 2, []), (31, .iload 4, 2, []), (33, .aload_n 0, 1, []), (34, .getfield 20, 3, [10, 8, 2]), (37, .getfield 108, 3, [10, 0, 11]), (40, .if_icmp .ge 44, 3, []), (84, .iload_n 3, 1, []), (85, .ireturn, 1, [])]
/-- TingDecks.hops.(I)I -/
abbrev xm_143 : xe_M := (xc_143, 5, 1, 1, 6, [])
def xc_144 : List xe_I := [(0, .aload_n 0, 1, []), (1, .iload_n 1, 1, []), (2, .iconst 1, 1, []), (3, .invokevirtual 190, 3, [0, 35, 3, 18]), (6, .aload_n 0, 1, []), (7, .invokevirtual 345, 3, [0, 115, 1, 18]), (10, .astore_n 2, 1, []), (11, .aload_n 2, 1, []), (12, .aload_n 2, 1, []), (13, .getfield 357, 3, [10, 1, 4]), (16, .iload_n 1, 1, []), (17, .invokevirtual 353, 3, [0, 10, 3, 11]), (20, .lreturn, 1, [])]
/-- TingDecks.mean.(I)J -/
abbrev xm_144 : xe_M := (xc_144, 3, 2, 1, 6, [])
def xc_145 : List xe_I := [(0, .aload_n 0, 1, []), (1, .iload_n 1, 1, []), (2, .iconst 1, 1, []), (3, .invokevirtual 190, 3, [0, 35, 3, 18]), (6, .aload_n 0, 1, []), (7, .getfield 20, 3, [10, 8, 2]), (10, .getfield 108, 3, [10, 0, 11]), (13, .bipush 10, 2, []), (15, .if_icmp .le 6, 3, []), (21, .aload_n 0, 1, []), (22, .aload_n 0, 1, []), (23, .invokevirtual 120, 3, [0, 116, 1, 18]), (26, .invokevirtual 226, 3, [0, 114, 2, 18]), (29, .astore_n 2, 1, []), (30, .iload_n 1, 1, []), (31, .ifCond .ne 10, 3, []), (34, .aload_n 2, 1, []), (35, .getfield 230, 3, [10, 2, 2]), (38, .goto 7, 3, []), (41, .aload_n 2, 1, []), (42, .getfield 233, 3, [10, 2, 3]), (45, .ireturn, 1, [])]
/-- TingDecks.most.(I)I -/
abbrev xm_145 : xe_M := (xc_145, 3, 1, 2, 10246, [])
def xc_146 : List xe_I := [(0, .aload_n 0, 1, []), (1, .invokevirtual 120, 3, [0, 116, 1, 18]), (4, .getfield 124, 3, [10, 7, 16]), (7, .istore_n 1, 1, []), (8, .aload_n 0, 1, []), (9, .getfield 55, 3, [10, 8, 8]), (12, .aload_n 0, 1, []), (13, .getfield 20, 3, [10, 8, 2]), (16, .aload_n 0, 1, []), (17, .getfield 30, 3, [10, 8, 4]), (20, .invokevirtual 241, 3, [0, 74, 3, 17]), (23, .bipush 60, 2, []), (25, .istore_n 2, 1, []), (26, .iload_n 2, 1, []), (27, .iconst 1, 1, []), (28, .if_icmp .le 37, 3, []), (31, .aload_n 0, 1, []), (32, .getfield 55, 3, [10, 8, 8]), (35, .iload_n 2, 1, []), (36, .putfield 342, 3, [11, 7, 5, 0, 0]), (39, .aload_n 0, 1, []), (40, .getfield 55, 3, [10, 8, 8]), (43, .invokevirtual 248, 3, [0, 75, 1, 17]), (46, .aload_n 0, 1, []), (47, .getfield 55, 3, [10, 8, 8]), (50, .getfield 124, 3, [10, 7, 16]), (53, .iload_n 1, 1, []), (54, .if_icmp .lt 5, 3, []), (57, .iload_n 2, 1, []), (58, .ireturn, 1, [])]
/-- TingDecks.pace.()I -/
abbrev xm_146 : xe_M := (xc_146, 3, 1, 0, 0, [])
def xc_147 : List xe_I := [(0, .iload_n 1, 1, []), (1, .aload_n 0, 1, []), (2, .getfield 20, 3, [10, 8, 2]), (5, .invokevirtual 254, 3, [0, 1, 1, 10]), (8, .iconst (-1), 1, []), (9, .ixor, 1, []), (10, .iand, 1, []), (11, .ifCond .eq 14, 3, []), (14, .new 86, 3, [1, 0, 334, 90, 3]), (25, .aload_n 0, 1, []), (26, .getfield 20, 3, [10, 8, 2]), (29, .getfield 108, 3, [10, 0, 11]), (32, .bipush 10, 2, []), (34, .if_icmp .le 6, 3, []), (40, .aload_n 0, 1, []), (41, .aload_n 0, 1, []), (42, .invokevirtual 120, 3, [0, 116, 1, 18]), (45, .invokevirtual 226, 3, [0, 114, 2, 18]), (48, .iload_n 1, 1, []), (49, .invokevirtual 336, 3, [0, 14, 2, 12]), (52, .ireturn, 1, [])]
/-- TingDecks.soonest.(I)I -/
abbrev xm_147 : xe_M := (xc_147, 2, 1, 2, 10246, [])
def xc_148 : List xe_I := [(0, .aload_n 0, 1, []), (1, .iload_n 1, 1, []), (2, .invokevirtual 149, 3, [0, 34, 2, 18]), (5, .iload_n 2, 1, []), (6, .tableswitch 68 0 3 #[30, 40, 50, 59], 30, []), (36, .aload_n 0, 1, []), (37, .invokevirtual 120, 3, [0, 116, 1, 18]), (40, .getfield 152, 3, [10, 7, 1]), (43, .iload_n 1, 1, []), (44, .iaload, 1, []), (45, .ireturn, 1, []), (46, .aload_n 0, 1, []), (47, .getfield 30, 3, [10, 8, 4]), (50, .getfield 155, 3, [10, 5, 0]), (53, .iload_n 1, 1, []), (54, .iaload, 1, []), (55, .ireturn, 1, []), (56, .aload_n 0, 1, []), (57, .getfield 20, 3, [10, 8, 2]), (60, .iload_n 1, 1, []), (61, .invokevirtual 158, 3, [0, 5, 2, 10]), (64, .ireturn, 1, []), (65, .aload_n 0, 1, []), (66, .getfield 20, 3, [10, 8, 2]), (69, .iload_n 1, 1, []), (70, .invokevirtual 162, 3, [0, 4, 2, 10]), (73, .ireturn, 1, []), (74, .new 144, 3, [1, 1, 165, 148, 2])]
/-- TingDecks.stop.(II)I -/
abbrev xm_148 : xe_M := (xc_148, 3, 1, 2, 12, [])
def xc_149 : List xe_I := [(0, .aload_n 0, 1, []), (1, .invokevirtual 120, 3, [0, 116, 1, 18]), (4, .astore_n 2, 1, []), (5, .iload_n 1, 1, []), (6, .ifCond .lt 14, 3, []), (9, .iload_n 1, 1, []), (10, .aload_n 2, 1, []), (11, .getfield 135, 3, [10, 7, 15]), (14, .invokestatic 324, 3, [0, 0, 1, 2]), (17, .if_icmp .lt 14, 3, []), (20, .new 144, 3, [1, 1, 329, 148, 3])]
/-- TingDecks.ting.(I)I -/
abbrev xm_149 : xe_M := (xc_149, 3, 1, 1, 6, [])
def xc_150 : List xe_I := [(0, .aload_n 0, 1, []), (1, .iload_n 1, 1, []), (2, .iconst 1, 1, []), (3, .invokevirtual 190, 3, [0, 35, 3, 18]), (6, .aload_n 0, 1, []), (7, .getfield 55, 3, [10, 8, 8]), (10, .aload_n 0, 1, []), (11, .getfield 20, 3, [10, 8, 2]), (14, .aload_n 0, 1, []), (15, .getfield 30, 3, [10, 8, 4]), (18, .invokevirtual 241, 3, [0, 74, 3, 17]), (21, .aload_n 0, 1, []), (22, .getfield 55, 3, [10, 8, 8]), (25, .invokevirtual 264, 3, [0, 32, 1, 17]), (28, .istore_n 2, 1, []), (29, .aload_n 0, 1, []), (30, .getfield 55, 3, [10, 8, 8]), (33, .aload_n 0, 1, []), (34, .getfield 20, 3, [10, 8, 2]), (37, .invokevirtual 254, 3, [0, 1, 1, 10]), (40, .iload_n 2, 1, []), (41, .iconst (-1), 1, []), (42, .ixor, 1, []), (43, .iand, 1, []), (44, .putfield 267, 3, [11, 7, 7, 0, 0]), (47, .aload_n 0, 1, []), (48, .getfield 55, 3, [10, 8, 8]), (51, .invokevirtual 248, 3, [0, 75, 1, 17]), (54, .aload_n 0, 1, []), (55, .getfield 55, 3, [10, 8, 8]), (58, .getfield 124, 3, [10, 7, 16]), (61, .istore_n 3, 1, []), (62, .aload_n 0, 1, []), (63, .getfield 55, 3, [10, 8, 8]), (66, .iload_n 2, 1, []), (67, .putfield 267, 3, [11, 7, 7, 0, 0]), (70, .aload_n 0, 1, []), (71, .getfield 55, 3, [10, 8, 8]), (74, .bipush 10, 2, []), (76, .putfield 270, 3, [11, 7, 8, 0, 0]), (79, .aload_n 0, 1, []), (80, .getfield 55, 3, [10, 8, 8]), (83, .invokevirtual 248, 3, [0, 75, 1, 17]), (86, .iload_n 3, 1, []), (87, .aload_n 0, 1, []), (88, .getfield 55, 3, [10, 8, 8]), (91, .getfield 124, 3, [10, 7, 16]), (94, .iadd, 1, []), (95, .istore_n 3, 1, []), (96, .iload_n 1, 1, []), (97, .ifCond .ne 7, 3, []), (100, .iload_n 3, 1, []), (101, .goto 12, 3, []), (104, .iload_n 3, 1, []), (105, .aload_n 0, 1, []), (106, .invokevirtual 120, 3, [0, 116, 1, 18]), (109, .getfield 124, 3, [10, 7, 16]), (112, .isub, 1, []), (113, .ireturn, 1, [])]
/-- TingDecks.two.(I)I -/
abbrev xm_150 : xe_M := (xc_150, 4, 1, 1, 6, [])
def xc_151 : List xe_I := [(0, .aload_n 0, 1, []), (1, .iload_n 1, 1, []), (2, .iconst 5, 1, []), (3, .invokevirtual 190, 3, [0, 35, 3, 18]), (6, .aload_n 0, 1, []), (7, .invokevirtual 120, 3, [0, 116, 1, 18]), (10, .astore_n 2, 1, []), (11, .iload_n 1, 1, []), (12, .tableswitch 61 0 4 #[36, 41, 46, 51, 56], 36, []), (48, .aload_n 2, 1, []), (49, .getfield 309, 3, [10, 7, 17]), (52, .ireturn, 1, []), (53, .aload_n 2, 1, []), (54, .getfield 312, 3, [10, 7, 18]), (57, .ireturn, 1, []), (58, .aload_n 2, 1, []), (59, .getfield 315, 3, [10, 7, 19]), (62, .ireturn, 1, []), (63, .aload_n 2, 1, []), (64, .getfield 318, 3, [10, 7, 20]), (67, .ireturn, 1, []), (68, .aload_n 2, 1, []), (69, .invokevirtual 321, 3, [0, 28, 1, 17]), (72, .ireturn, 1, []), (73, .aload_n 2, 1, []), (74, .getfield 135, 3, [10, 7, 15]), (77, .aload_n 2, 1, []), (78, .invokevirtual 264, 3, [0, 32, 1, 17]), (81, .iand, 1, []), (82, .invokestatic 324, 3, [0, 0, 1, 2]), (85, .ireturn, 1, [])]
/-- TingDecks.walk.(I)I -/
abbrev xm_151 : xe_M := (xc_151, 3, 1, 1, 6, [])
def xc_152 : List xe_I := [(0, .aload_n 0, 1, []), (1, .invokevirtual 120, 3, [0, 116, 1, 18]), (4, .astore_n 2, 1, []), (5, .iload_n 1, 1, []), (6, .ifCond .lt 21, 3, []), (9, .iload_n 1, 1, []), (10, .aload_n 2, 1, []), (11, .getfield 152, 3, [10, 7, 1]), (14, .aload_n 0, 1, []), (15, .getfield 20, 3, [10, 8, 2]), (18, .getfield 105, 3, [10, 0, 10]), (21, .iconst 1, 1, []), (22, .isub, 1, []), (23, .iaload, 1, []), (24, .if_icmp .le 13, 3, []), (27, .new 86, 3, [1, 0, 206, 90, 2]), (37, .aload_n 2, 1, []), (38, .iload_n 1, 1, []), (39, .invokevirtual 208, 3, [0, 31, 2, 17]), (42, .ireturn, 1, [])]
/-- TingDecks.where.(I)I -/
abbrev xm_152 : xe_M := (xc_152, 3, 1, 1, 6, [])
def xc_153 : List xe_I := [(0, .aload_n 0, 1, []), (1, .iconst 0, 1, []), (2, .putfield 150, 3, [11, 9, 0, 0, 0]), (5, .aload_n 0, 1, []), (6, .iload_n 1, 1, []), (7, .invokevirtual 415, 3, [0, 94, 2, 19]), (10, .ifCond .ne 5, 3, []), (13, .iconst 0, 1, []), (14, .ireturn, 1, []), (15, .aload_n 0, 1, []), (16, .aload_n 0, 1, []), (17, .invokevirtual 396, 3, [0, 50, 1, 19]), (20, .iconst (-1), 1, []), (21, .invokevirtual 389, 3, [0, 128, 3, 19]), (24, .iconst 0, 1, []), (25, .istore_n 2, 1, []), (26, .iconst 0, 1, []), (27, .istore_n 3, 1, []), (28, .iload_n 3, 1, []), (29, .aload_n 0, 1, []), (30, .getfield 315, 3, [10, 9, 2]), (33, .if_icmp .ge 81, 3, []), (114, .iload_n 2, 1, []), (115, .ireturn, 1, [])]
/-- TingDecksModel.again.(I)I -/
abbrev xm_153 : xe_M := (xc_153, 5, 1, 0, 0, [])
def xc_154 : List xe_I := [(0, .aload_n 0, 1, []), (1, .iconst 0, 1, []), (2, .putfield 150, 3, [11, 9, 0, 0, 0]), (5, .aload_n 0, 1, []), (6, .iload_n 1, 1, []), (7, .iconst 0, 1, []), (8, .bipush 12, 2, []), (10, .invokestatic 408, 3, [0, 69, 3, 2]), (13, .iconst 1, 1, []), (14, .invokevirtual 308, 3, [0, 65, 3, 19]), (17, .ifCond .ne 5, 3, []), (20, .iconst 0, 1, []), (21, .ireturn, 1, []), (22, .aload_n 0, 1, []), (23, .aload_n 0, 1, []), (24, .invokevirtual 396, 3, [0, 50, 1, 19]), (27, .iconst (-1), 1, []), (28, .invokevirtual 389, 3, [0, 128, 3, 19]), (31, .iconst 0, 1, []), (32, .istore_n 2, 1, []), (33, .iconst 0, 1, []), (34, .istore_n 3, 1, []), (35, .iload_n 3, 1, []), (36, .aload_n 0, 1, []), (37, .getfield 315, 3, [10, 9, 2]), (40, .if_icmp .ge 49, 3, []), (89, .iload_n 2, 1, []), (90, .ireturn, 1, [])]
/-- TingDecksModel.hops.(I)I -/
abbrev xm_154 : xe_M := (xc_154, 4, 1, 0, 0, [])
def xc_155 : List xe_I := [(0, .aload_n 0, 1, []), (1, .iload_n 1, 1, []), (2, .iconst (-1), 1, []), (3, .invokevirtual 389, 3, [0, 128, 3, 19]), (6, .aload_n 0, 1, []), (7, .aload_n 0, 1, []), (8, .getfield 368, 3, [10, 9, 65]), (11, .invokevirtual 393, 3, [0, 51, 2, 19]), (14, .ireturn, 1, [])]
/-- TingDecksModel.takenOf.(I)I -/
abbrev xm_155 : xe_M := (xc_155, 2, 1, 0, 0, [])
def xc_156 : List xe_I := [(0, .aload_n 0, 1, []), (1, .iconst 0, 1, []), (2, .putfield 150, 3, [11, 9, 0, 0, 0]), (5, .aload_n 0, 1, []), (6, .aload_n 0, 1, []), (7, .invokevirtual 396, 3, [0, 50, 1, 19]), (10, .iconst (-1), 1, []), (11, .invokevirtual 389, 3, [0, 128, 3, 19]), (14, .aload_n 0, 1, []), (15, .iload_n 1, 1, []), (16, .ifCond .lt 15, 3, []), (19, .iload_n 1, 1, []), (20, .aload_n 0, 1, []), (21, .getfield 365, 3, [10, 9, 64]), (24, .if_icmp .ge 7, 3, []), (31, .iconst 0, 1, []), (32, .iconst 1, 1, []), (33, .invokevirtual 308, 3, [0, 65, 3, 19]), (36, .ifCond .eq 12, 3, []), (48, .iconst 0, 1, []), (49, .ireturn, 1, [])]
/-- TingDecksModel.ting.(I)I -/
abbrev xm_156 : xe_M := (xc_156, 2, 1, 0, 0, [])
def xc_157 : List xe_I := [(0, .aload_n 0, 1, []), (1, .iconst 0, 1, []), (2, .putfield 150, 3, [11, 9, 0, 0, 0]), (5, .aload_n 0, 1, []), (6, .iload_n 1, 1, []), (7, .iconst 5, 1, []), (8, .invokevirtual 418, 3, [0, 95, 3, 19]), (11, .ifCond .ne 5, 3, []), (14, .iconst 0, 1, []), (15, .ireturn, 1, []), (16, .aload_n 0, 1, []), (17, .aload_n 0, 1, []), (18, .invokevirtual 396, 3, [0, 50, 1, 19]), (21, .iconst (-1), 1, []), (22, .invokevirtual 389, 3, [0, 128, 3, 19]), (25, .iload_n 1, 1, []), (26, .iconst 4, 1, []), (27, .if_icmp .ge 43, 3, []), (30, .iload_n 1, 1, []), (31, .ifCond .ne 10, 3, []), (34, .aload_n 0, 1, []), (35, .getfield 371, 3, [10, 9, 66]), (38, .goto 31, 3, []), (41, .iload_n 1, 1, []), (42, .iconst 1, 1, []), (43, .if_icmp .ne 10, 3, []), (46, .aload_n 0, 1, []), (47, .getfield 374, 3, [10, 9, 67]), (50, .goto 19, 3, []), (53, .iload_n 1, 1, []), (54, .iconst 2, 1, []), (55, .if_icmp .ne 10, 3, []), (58, .aload_n 0, 1, []), (59, .getfield 377, 3, [10, 9, 68]), (62, .goto 7, 3, []), (65, .aload_n 0, 1, []), (66, .getfield 380, 3, [10, 9, 69]), (69, .ireturn, 1, []), (70, .iconst 0, 1, []), (71, .istore_n 2, 1, []), (72, .iconst 0, 1, []), (73, .istore_n 3, 1, []), (74, .iload_n 3, 1, []), (75, .aload_n 0, 1, []), (76, .getfield 365, 3, [10, 9, 64]), (79, .if_icmp .ge 49, 3, []), (128, .iload_n 2, 1, []), (129, .ireturn, 1, [])]
/-- TingDecksModel.walk.(I)I -/
abbrev xm_157 : xe_M := (xc_157, 4, 1, 0, 0, [])
def xc_158 : List xe_I := [(0, .aload_n 0, 1, []), (1, .iconst 0, 1, []), (2, .putfield 150, 3, [11, 9, 0, 0, 0]), (5, .aload_n 0, 1, []), (6, .iload_n 1, 1, []), (7, .ifCond .lt 15, 3, []), (10, .iload_n 1, 1, []), (11, .aload_n 0, 1, []), (12, .invokevirtual 427, 3, [0, 96, 1, 19]), (15, .if_icmp .gt 7, 3, []), (18, .iconst 1, 1, []), (19, .goto 4, 3, []), (22, .iconst 0, 1, []), (23, .iconst 1, 1, []), (24, .invokevirtual 308, 3, [0, 65, 3, 19]), (27, .ifCond .ne 5, 3, []), (30, .iconst 0, 1, []), (31, .ireturn, 1, []), (32, .aload_n 0, 1, []), (33, .aload_n 0, 1, []), (34, .invokevirtual 396, 3, [0, 50, 1, 19]), (37, .iconst (-1), 1, []), (38, .invokevirtual 389, 3, [0, 128, 3, 19]), (41, .iconst 0, 1, []), (42, .istore_n 2, 1, []), (43, .iconst 0, 1, []), (44, .istore_n 3, 1, []), (45, .iload_n 3, 1, []), (46, .aload_n 0, 1, []), (47, .getfield 362, 3, [10, 9, 63]), (50, .if_icmp .ge 26, 3, []), (76, .iload_n 2, 1, []), (77, .ireturn, 1, [])]
/-- TingDecksModel.where.(I)I -/
abbrev xm_158 : xe_M := (xc_158, 4, 1, 0, 0, [])
def xc_159 : List xe_I := [(0, .aload_n 2, 1, []), (1, .iconst 0, 1, []), (2, .aload_n 0, 1, []), (3, .iload_n 1, 1, []), (4, .invokevirtual 61, 3, [0, 135, 2, 18]), (7, .i2l, 1, []), (8, .lastore, 1, []), (9, .goto 6, 3, []), (12, .astore_n 3, 1, []), (13, .iconst 1, 1, []), (14, .ireturn, 1, []), (15, .iconst 0, 1, []), (16, .ireturn, 1, [])]
/-- TingDecksLaw.again.(LTingDecks;I[J)I -/
abbrev xm_159 : xe_M := (xc_159, 4, 1, 1, 6, [(0, 9, 12, 1)])
def xc_160 : List xe_I := [(0, .aload_n 2, 1, []), (1, .iconst 0, 1, []), (2, .aload_n 0, 1, []), (3, .iload_n 1, 1, []), (4, .invokevirtual 7, 3, [0, 137, 2, 18]), (7, .i2l, 1, []), (8, .lastore, 1, []), (9, .goto 6, 3, []), (12, .astore_n 3, 1, []), (13, .iconst 1, 1, []), (14, .ireturn, 1, []), (15, .iconst 0, 1, []), (16, .ireturn, 1, [])]
/-- TingDecksLaw.bus.(LTingDecks;I[J)I -/
abbrev xm_160 : xe_M := (xc_160, 4, 1, 1, 6, [(0, 9, 12, 0)])
def xc_161 : List xe_I := [(0, .aload_n 2, 1, []), (1, .iconst 0, 1, []), (2, .aload_n 0, 1, []), (3, .iload_n 1, 1, []), (4, .invokevirtual 46, 3, [0, 138, 2, 18]), (7, .i2l, 1, []), (8, .lastore, 1, []), (9, .goto 6, 3, []), (12, .astore_n 3, 1, []), (13, .iconst 1, 1, []), (14, .ireturn, 1, []), (15, .iconst 0, 1, []), (16, .ireturn, 1, [])]
/-- TingDecksLaw.compare.(LTingDecks;I[J)I -/
abbrev xm_161 : xe_M := (xc_161, 4, 1, 1, 6, [(0, 9, 12, 1)])
def xc_162 : List xe_I := [(0, .aload_n 2, 1, []), (1, .iconst 0, 1, []), (2, .aload_n 0, 1, []), (3, .iload_n 1, 1, []), (4, .invokevirtual 15, 3, [0, 139, 2, 18]), (7, .i2l, 1, []), (8, .lastore, 1, []), (9, .goto 6, 3, []), (12, .astore_n 3, 1, []), (13, .iconst 1, 1, []), (14, .ireturn, 1, []), (15, .iconst 0, 1, []), (16, .ireturn, 1, [])]
/-- TingDecksLaw.count.(LTingDecks;I[J)I -/
abbrev xm_162 : xe_M := (xc_162, 4, 1, 1, 6, [(0, 9, 12, 1)])
def xc_163 : List xe_I := [(0, .aload_n 2, 1, []), (1, .iconst 0, 1, []), (2, .aload_n 0, 1, []), (3, .iload_n 1, 1, []), (4, .invokevirtual 52, 3, [0, 140, 2, 18]), (7, .i2l, 1, []), (8, .lastore, 1, []), (9, .goto 6, 3, []), (12, .astore_n 3, 1, []), (13, .iconst 1, 1, []), (14, .ireturn, 1, []), (15, .iconst 0, 1, []), (16, .ireturn, 1, [])]
/-- TingDecksLaw.door.(LTingDecks;I[J)I -/
abbrev xm_163 : xe_M := (xc_163, 4, 1, 1, 6, [(0, 9, 12, 1)])
def xc_164 : List xe_I := [(0, .aload_n 2, 1, []), (1, .iconst 0, 1, []), (2, .aload_n 0, 1, []), (3, .iload_n 1, 1, []), (4, .invokevirtual 67, 3, [0, 141, 2, 18]), (7, .i2l, 1, []), (8, .lastore, 1, []), (9, .goto 6, 3, []), (12, .astore_n 3, 1, []), (13, .iconst 1, 1, []), (14, .ireturn, 1, []), (15, .iconst 0, 1, []), (16, .ireturn, 1, [])]
/-- TingDecksLaw.fits.(LTingDecks;I[J)I -/
abbrev xm_164 : xe_M := (xc_164, 4, 1, 1, 6, [(0, 9, 12, 1)])
def xc_165 : List xe_I := [(0, .aload_n 2, 1, []), (1, .iconst 0, 1, []), (2, .aload_n 0, 1, []), (3, .iload_n 1, 1, []), (4, .invokevirtual 58, 3, [0, 143, 2, 18]), (7, .i2l, 1, []), (8, .lastore, 1, []), (9, .goto 6, 3, []), (12, .astore_n 3, 1, []), (13, .iconst 1, 1, []), (14, .ireturn, 1, []), (15, .iconst 0, 1, []), (16, .ireturn, 1, [])]
/-- TingDecksLaw.hops.(LTingDecks;I[J)I -/
abbrev xm_165 : xe_M := (xc_165, 4, 1, 1, 6, [(0, 9, 12, 0)])
def xc_166 : List xe_I := [(0, .aload_n 2, 1, []), (1, .iconst 0, 1, []), (2, .aload_n 0, 1, []), (3, .iload_n 1, 1, []), (4, .invokevirtual 95, 3, [0, 144, 2, 18]), (7, .lastore, 1, []), (8, .goto 6, 3, []), (11, .astore_n 3, 1, []), (12, .iconst 1, 1, []), (13, .ireturn, 1, []), (14, .iconst 0, 1, []), (15, .ireturn, 1, [])]
/-- TingDecksLaw.mean.(LTingDecks;I[J)I -/
abbrev xm_166 : xe_M := (xc_166, 4, 1, 1, 6, [(0, 8, 11, 1)])
def xc_167 : List xe_I := [(0, .aload_n 2, 1, []), (1, .iconst 0, 1, []), (2, .aload_n 0, 1, []), (3, .iload_n 1, 1, []), (4, .invokevirtual 43, 3, [0, 145, 2, 18]), (7, .i2l, 1, []), (8, .lastore, 1, []), (9, .goto 6, 3, []), (12, .astore_n 3, 1, []), (13, .iconst 1, 1, []), (14, .ireturn, 1, []), (15, .iconst 0, 1, []), (16, .ireturn, 1, [])]
/-- TingDecksLaw.most.(LTingDecks;I[J)I -/
abbrev xm_167 : xe_M := (xc_167, 4, 1, 2, 10246, [(0, 9, 12, 1)])
def xc_168 : List xe_I := [(0, .aload_n 2, 1, []), (1, .iconst 0, 1, []), (2, .aload_n 0, 1, []), (3, .iload_n 1, 1, []), (4, .invokevirtual 82, 3, [0, 147, 2, 18]), (7, .i2l, 1, []), (8, .lastore, 1, []), (9, .goto 6, 3, []), (12, .astore_n 3, 1, []), (13, .iconst 1, 1, []), (14, .ireturn, 1, []), (15, .iconst 0, 1, []), (16, .ireturn, 1, [])]
/-- TingDecksLaw.soonest.(LTingDecks;I[J)I -/
abbrev xm_168 : xe_M := (xc_168, 4, 1, 2, 10246, [(0, 9, 12, 0)])
def xc_169 : List xe_I := [(0, .aload_n 3, 1, []), (1, .iconst 0, 1, []), (2, .aload_n 0, 1, []), (3, .iload_n 1, 1, []), (4, .iload_n 2, 1, []), (5, .invokevirtual 20, 3, [0, 148, 3, 18]), (8, .i2l, 1, []), (9, .lastore, 1, []), (10, .goto 7, 3, []), (13, .astore 4, 2, []), (15, .iconst 1, 1, []), (16, .ireturn, 1, []), (17, .iconst 0, 1, []), (18, .ireturn, 1, [])]
/-- TingDecksLaw.stop.(LTingDecks;II[J)I -/
abbrev xm_169 : xe_M := (xc_169, 5, 1, 2, 12, [(0, 10, 13, 1)])
def xc_170 : List xe_I := [(0, .aload_n 2, 1, []), (1, .iconst 0, 1, []), (2, .aload_n 0, 1, []), (3, .iload_n 1, 1, []), (4, .invokevirtual 79, 3, [0, 149, 2, 18]), (12, .astore_n 3, 1, []), (13, .iconst 1, 1, []), (14, .ireturn, 1, [])]
/-- TingDecksLaw.ting.(LTingDecks;I[J)I -/
abbrev xm_170 : xe_M := (xc_170, 4, 1, 1, 6, [(0, 9, 12, 1)])
def xc_171 : List xe_I := [(0, .aload_n 2, 1, []), (1, .iconst 0, 1, []), (2, .aload_n 0, 1, []), (3, .iload_n 1, 1, []), (4, .invokevirtual 55, 3, [0, 150, 2, 18]), (7, .i2l, 1, []), (8, .lastore, 1, []), (9, .goto 6, 3, []), (12, .astore_n 3, 1, []), (13, .iconst 1, 1, []), (14, .ireturn, 1, []), (15, .iconst 0, 1, []), (16, .ireturn, 1, [])]
/-- TingDecksLaw.two.(LTingDecks;I[J)I -/
abbrev xm_171 : xe_M := (xc_171, 4, 1, 1, 6, [(0, 9, 12, 1)])
def xc_172 : List xe_I := [(0, .aload_n 2, 1, []), (1, .iconst 0, 1, []), (2, .aload_n 0, 1, []), (3, .iload_n 1, 1, []), (4, .invokevirtual 76, 3, [0, 151, 2, 18]), (7, .i2l, 1, []), (8, .lastore, 1, []), (9, .goto 6, 3, []), (12, .astore_n 3, 1, []), (13, .iconst 1, 1, []), (14, .ireturn, 1, []), (15, .iconst 0, 1, []), (16, .ireturn, 1, [])]
/-- TingDecksLaw.walk.(LTingDecks;I[J)I -/
abbrev xm_172 : xe_M := (xc_172, 4, 1, 1, 6, [(0, 9, 12, 1)])
def xc_173 : List xe_I := [(0, .aload_n 2, 1, []), (1, .iconst 0, 1, []), (2, .aload_n 0, 1, []), (3, .iload_n 1, 1, []), (4, .invokevirtual 33, 3, [0, 152, 2, 18]), (7, .i2l, 1, []), (8, .lastore, 1, []), (9, .goto 6, 3, []), (12, .astore_n 3, 1, []), (13, .iconst 1, 1, []), (14, .ireturn, 1, []), (15, .iconst 0, 1, []), (16, .ireturn, 1, [])]
/-- TingDecksLaw.where.(LTingDecks;I[J)I -/
abbrev xm_173 : xe_M := (xc_173, 4, 1, 1, 6, [(0, 9, 12, 0)])
def xc_174 : List xe_I := [(0, .aload_n 0, 1, []), (1, .aload_n 0, 1, []), (2, .invokevirtual 396, 3, [0, 50, 1, 19]), (5, .invokevirtual 399, 3, [0, 155, 2, 19]), (8, .ireturn, 1, [])]
/-- TingDecksModel.taken.()I -/
abbrev xm_174 : xe_M := (xc_174, 1, 1, 0, 0, [])
def xc_175 : List xe_I := [(0, .aload_n 0, 1, []), (1, .iconst 0, 1, []), (2, .putfield 150, 3, [11, 9, 0, 0, 0]), (5, .aload_n 0, 1, []), (6, .iload_n 3, 1, []), (7, .iconst 2, 1, []), (8, .invokevirtual 418, 3, [0, 95, 3, 19]), (11, .ifCond .eq 18, 3, []), (14, .aload_n 0, 1, []), (15, .iload_n 2, 1, []), (16, .iconst 0, 1, []), (17, .bipush 60, 2, []), (19, .invokestatic 408, 3, [0, 69, 3, 2]), (22, .iconst 2, 1, []), (23, .invokevirtual 308, 3, [0, 65, 3, 19]), (26, .ifCond .ne 5, 3, []), (29, .iconst 0, 1, []), (30, .ireturn, 1, []), (31, .aload_n 0, 1, []), (32, .iload_n 1, 1, []), (33, .putfield 474, 3, [11, 9, 76, 0, 0]), (36, .iconst 0, 1, []), (37, .istore 4, 2, []), (39, .iconst 0, 1, []), (40, .istore 5, 2, []), (42, .iconst 0, 1, []), (43, .istore 6, 2, []), (45, .iconst 0, 1, []), (46, .istore 7, 2, []), (48, .iload 7, 2, []), (50, .iload_n 2, 1, []), (51, .if_icmp .ge 119, 3, []), (54, .iconst 0, 1, []), (55, .istore 8, 2, []), (57, .iconst 0, 1, []), (58, .istore 9, 2, []), (60, .iload 9, 2, []), (62, .aload_n 0, 1, []), (63, .getfield 315, 3, [10, 9, 2]), (66, .if_icmp .ge 46, 3, []), (112, .aload_n 0, 1, []), (113, .iload 8, 2, []), (115, .invokevirtual 399, 3, [0, 155, 2, 19]), (118, .istore 9, 2, []), (120, .iload 4, 2, []), (122, .iload 9, 2, []), (124, .iadd, 1, []), (125, .istore 4, 2, []), (127, .iload 9, 2, []), (129, .iload 5, 2, []), (131, .if_icmp .le 8, 3, []), (139, .iload 5, 2, []), (141, .istore 5, 2, []), (143, .iload 7, 2, []), (145, .ifCond .eq 10, 3, []), (148, .iload 9, 2, []), (150, .iload 6, 2, []), (152, .if_icmp .ge 8, 3, []), (155, .iload 9, 2, []), (157, .goto 5, 3, []), (160, .iload 6, 2, []), (162, .istore 6, 2, []), (164, .iinc 7 1, 3, []), (167, .goto (-119), 3, []), (170, .iload_n 3, 1, []), (171, .ifCond .ne 8, 3, []), (174, .iload 4, 2, []), (176, .goto 15, 3, []), (179, .iload_n 3, 1, []), (180, .iconst 1, 1, []), (181, .if_icmp .ne 8, 3, []), (184, .iload 5, 2, []), (186, .goto 5, 3, []), (189, .iload 6, 2, []), (191, .ireturn, 1, [])]
/-- TingDecksModel.week.(III)I -/
abbrev xm_175 : xe_M := (xc_175, 10, 1, 0, 0, [])
def xc_176 : List xe_I := [(0, .lconst 0, 1, []), (1, .lstore_n 2, 1, []), (2, .iconst 0, 1, []), (3, .istore 4, 2, []), (5, .iload 4, 2, []), (7, .iconst 1, 1, []), (8, .aload_n 0, 1, []), (9, .getfield 449, 3, [10, 9, 72]), (12, .ishl, 1, []), (13, .if_icmp .ge 167, 3, []), (16, .lconst 1, 1, []), (17, .lstore 5, 2, []), (19, .aload_n 0, 1, []), (20, .invokevirtual 396, 3, [0, 50, 1, 19]), (23, .aload_n 0, 1, []), (24, .getfield 452, 3, [10, 9, 73]), (27, .iconst (-1), 1, []), (28, .ixor, 1, []), (29, .iand, 1, []), (30, .istore 7, 2, []), (32, .iconst 0, 1, []), (33, .istore 8, 2, []), (35, .iload 8, 2, []), (37, .aload_n 0, 1, []), (38, .getfield 449, 3, [10, 9, 72]), (41, .if_icmp .ge 90, 3, []), (131, .aload_n 0, 1, []), (132, .iload 7, 2, []), (134, .invokevirtual 399, 3, [0, 155, 2, 19]), (137, .istore 8, 2, []), (139, .lload_n 2, 1, []), (140, .iload_n 1, 1, []), (141, .iconst (-1), 1, []), (142, .if_icmp .ne 12, 3, []), (145, .lload 5, 2, []), (147, .iload 8, 2, []), (149, .i2l, 1, []), (150, .lmul, 1, []), (151, .goto 21, 3, []), (172, .ladd, 1, []), (173, .lstore_n 2, 1, []), (174, .iinc 4 1, 3, []), (177, .goto (-172), 3, []), (180, .lload_n 2, 1, []), (181, .lreturn, 1, [])]
/-- TingDecksModel.weighs.(I)J -/
abbrev xm_176 : xe_M := (xc_176, 10, 2, 0, 0, [])
def xc_177 : List xe_I := [(0, .aload_n 0, 1, []), (1, .iconst 0, 1, []), (2, .putfield 150, 3, [11, 9, 0, 0, 0]), (5, .aload_n 0, 1, []), (6, .iload_n 1, 1, []), (7, .iconst 2, 1, []), (8, .invokevirtual 418, 3, [0, 95, 3, 19]), (11, .ifCond .ne 5, 3, []), (14, .iconst 0, 1, []), (15, .ireturn, 1, []), (16, .iconst 0, 1, []), (17, .istore_n 2, 1, []), (18, .iconst 0, 1, []), (19, .istore_n 3, 1, []), (20, .iload_n 3, 1, []), (21, .aload_n 0, 1, []), (22, .getfield 315, 3, [10, 9, 2]), (25, .if_icmp .ge 17, 3, []), (42, .aload_n 0, 1, []), (43, .aload_n 0, 1, []), (44, .invokevirtual 396, 3, [0, 50, 1, 19]), (47, .invokevirtual 393, 3, [0, 51, 2, 19]), (50, .istore_n 3, 1, []), (51, .iload_n 1, 1, []), (52, .iconst 2, 1, []), (53, .if_icmp .ge 28, 3, []), (56, .iload_n 1, 1, []), (57, .ifCond .ne 22, 3, []), (60, .iload_n 3, 1, []), (61, .aload_n 0, 1, []), (62, .getfield 22, 3, [10, 9, 7]), (65, .iload_n 2, 1, []), (66, .aload_n 0, 1, []), (67, .invokevirtual 405, 3, [0, 54, 1, 19]), (70, .iadd, 1, []), (71, .imul, 1, []), (72, .bipush 60, 2, []), (74, .idiv, 1, []), (75, .isub, 1, []), (76, .goto 4, 3, []), (79, .iload_n 2, 1, []), (80, .ireturn, 1, []), (81, .aload_n 0, 1, []), (82, .invokevirtual 402, 3, [0, 174, 1, 19]), (85, .istore 4, 2, []), (87, .bipush 99, 2, []), (89, .istore 5, 2, []), (91, .iload 5, 2, []), (93, .ifCond .lt 42, 3, []), (96, .iload_n 3, 1, []), (97, .iload 5, 2, []), (99, .iload_n 2, 1, []), (100, .aload_n 0, 1, []), (101, .invokevirtual 405, 3, [0, 54, 1, 19]), (104, .iadd, 1, []), (105, .imul, 1, []), (106, .bipush 60, 2, []), (108, .idiv, 1, []), (109, .isub, 1, []), (110, .iload 4, 2, []), (112, .iload 5, 2, []), (114, .aload_n 0, 1, []), (115, .invokevirtual 405, 3, [0, 54, 1, 19]), (118, .imul, 1, []), (119, .bipush 60, 2, []), (121, .idiv, 1, []), (122, .isub, 1, []), (123, .if_icmp .lt 6, 3, []), (126, .iload 5, 2, []), (128, .ireturn, 1, [])]
/-- TingDecksModel.door.(I)I -/
abbrev xm_177 : xe_M := (xc_177, 6, 1, 0, 0, [])
def xc_178 : List xe_I := [(0, .aload_n 0, 1, []), (1, .iconst 0, 1, []), (2, .putfield 150, 3, [11, 9, 0, 0, 0]), (5, .aload_n 0, 1, []), (6, .invokevirtual 402, 3, [0, 174, 1, 19]), (9, .istore_n 1, 1, []), (10, .iconst 0, 1, []), (11, .istore_n 2, 1, []), (12, .iload_n 2, 1, []), (13, .bipush 99, 2, []), (15, .if_icmp .gt 31, 3, []), (18, .aload_n 0, 1, []), (19, .iload_n 2, 1, []), (20, .putfield 108, 3, [11, 9, 55, 0, 0]), (23, .aload_n 0, 1, []), (24, .invokevirtual 402, 3, [0, 174, 1, 19]), (27, .istore_n 3, 1, []), (28, .aload_n 0, 1, []), (29, .iconst (-1), 1, []), (30, .putfield 108, 3, [11, 9, 55, 0, 0]), (33, .iload_n 3, 1, []), (34, .iload_n 1, 1, []), (35, .if_icmp .lt 5, 3, []), (38, .iload_n 2, 1, []), (39, .ireturn, 1, [])]
/-- TingDecksModel.flat.()I -/
abbrev xm_178 : xe_M := (xc_178, 4, 1, 0, 0, [])
def xc_179 : List xe_I := [(0, .aload_n 0, 1, []), (1, .iconst 0, 1, []), (2, .putfield 150, 3, [11, 9, 0, 0, 0]), (5, .aload_n 0, 1, []), (6, .iload_n 1, 1, []), (7, .iconst 1, 1, []), (8, .invokevirtual 418, 3, [0, 95, 3, 19]), (11, .ifCond .ne 5, 3, []), (14, .lconst 0, 1, []), (15, .lreturn, 1, []), (16, .aload_n 0, 1, []), (17, .invokevirtual 457, 3, [0, 45, 1, 19]), (20, .aload_n 0, 1, []), (21, .iconst (-1), 1, []), (22, .invokevirtual 460, 3, [0, 176, 2, 19]), (25, .aload_n 0, 1, []), (26, .invokevirtual 463, 3, [0, 66, 1, 19]), (29, .iload_n 1, 1, []), (30, .invokestatic 467, 3, [0, 62, 3, 2]), (33, .lreturn, 1, [])]
/-- TingDecksModel.mean.(I)J -/
abbrev xm_179 : xe_M := (xc_179, 2, 2, 0, 0, [])
def xc_180 : List xe_I := [(0, .aload_n 0, 1, []), (1, .invokevirtual 402, 3, [0, 174, 1, 19]), (4, .aload_n 0, 1, []), (5, .getfield 22, 3, [10, 9, 7]), (8, .aload_n 0, 1, []), (9, .invokevirtual 405, 3, [0, 54, 1, 19]), (12, .imul, 1, []), (13, .bipush 60, 2, []), (15, .idiv, 1, []), (16, .isub, 1, []), (17, .ireturn, 1, [])]
/-- TingDecksModel.net.()I -/
abbrev xm_180 : xe_M := (xc_180, 1, 1, 0, 0, [])
def xc_181 : List xe_I := [(0, .aload_n 0, 1, []), (1, .iconst 0, 1, []), (2, .putfield 150, 3, [11, 9, 0, 0, 0]), (5, .aload_n 0, 1, []), (6, .getfield 19, 3, [10, 9, 6]), (9, .istore_n 1, 1, []), (10, .aload_n 0, 1, []), (11, .invokevirtual 402, 3, [0, 174, 1, 19]), (14, .istore_n 2, 1, []), (15, .iload_n 1, 1, []), (16, .istore_n 3, 1, []), (17, .bipush 60, 2, []), (19, .istore 4, 2, []), (21, .iload 4, 2, []), (23, .ifCond .le 32, 3, []), (26, .aload_n 0, 1, []), (27, .iload 4, 2, []), (29, .putfield 19, 3, [11, 9, 6, 0, 0]), (32, .aload_n 0, 1, []), (33, .invokevirtual 402, 3, [0, 174, 1, 19]), (36, .iload_n 2, 1, []), (37, .if_icmp .ge 6, 3, []), (43, .iload 4, 2, []), (45, .istore_n 3, 1, []), (46, .iconst 0, 1, []), (47, .istore 4, 2, []), (49, .iinc 4 (-1), 3, []), (52, .goto (-31), 3, []), (55, .aload_n 0, 1, []), (56, .iload_n 1, 1, []), (57, .putfield 19, 3, [11, 9, 6, 0, 0]), (60, .iload_n 3, 1, []), (61, .ireturn, 1, [])]
/-- TingDecksModel.pace.()I -/
abbrev xm_181 : xe_M := (xc_181, 5, 1, 0, 0, [])
def xc_182 : List xe_I := [(0, .aload_n 0, 1, []), (1, .iconst 0, 1, []), (2, .putfield 150, 3, [11, 9, 0, 0, 0]), (5, .aload_n 0, 1, []), (6, .iload_n 1, 1, []), (7, .iconst 1, 1, []), (8, .invokevirtual 418, 3, [0, 95, 3, 19]), (11, .ifCond .ne 5, 3, []), (14, .iconst 0, 1, []), (15, .ireturn, 1, []), (16, .aload_n 0, 1, []), (17, .aload_n 0, 1, []), (18, .invokevirtual 396, 3, [0, 50, 1, 19]), (21, .iconst 0, 1, []), (22, .invokevirtual 389, 3, [0, 128, 3, 19]), (25, .aload_n 0, 1, []), (26, .aload_n 0, 1, []), (27, .getfield 368, 3, [10, 9, 65]), (30, .invokevirtual 393, 3, [0, 51, 2, 19]), (33, .istore_n 2, 1, []), (34, .aload_n 0, 1, []), (35, .aload_n 0, 1, []), (36, .invokevirtual 396, 3, [0, 50, 1, 19]), (39, .iconst 1, 1, []), (40, .invokevirtual 389, 3, [0, 128, 3, 19]), (43, .iload_n 2, 1, []), (44, .aload_n 0, 1, []), (45, .aload_n 0, 1, []), (46, .getfield 368, 3, [10, 9, 65]), (49, .invokevirtual 393, 3, [0, 51, 2, 19]), (52, .iadd, 1, []), (53, .istore_n 2, 1, []), (54, .iload_n 1, 1, []), (55, .ifCond .ne 7, 3, []), (58, .iload_n 2, 1, []), (59, .goto 9, 3, []), (62, .iload_n 2, 1, []), (63, .aload_n 0, 1, []), (64, .invokevirtual 402, 3, [0, 174, 1, 19]), (67, .isub, 1, []), (68, .ireturn, 1, [])]
/-- TingDecksModel.two.(I)I -/
abbrev xm_182 : xe_M := (xc_182, 3, 1, 0, 0, [])
def xc_183 : List xe_I := [(0, .aload_n 0, 1, []), (1, .iconst 0, 1, []), (2, .putfield 150, 3, [11, 9, 0, 0, 0]), (5, .aload_n 0, 1, []), (6, .iload_n 1, 1, []), (7, .invokevirtual 415, 3, [0, 94, 2, 19]), (10, .ifCond .eq 12, 3, []), (13, .aload_n 0, 1, []), (14, .iload_n 2, 1, []), (15, .iconst 1, 1, []), (16, .invokevirtual 418, 3, [0, 95, 3, 19]), (19, .ifCond .ne 5, 3, []), (22, .iconst 0, 1, []), (23, .ireturn, 1, []), (24, .aload_n 0, 1, []), (25, .getfield 96, 3, [10, 9, 50]), (28, .iconst 0, 1, []), (29, .iload_n 1, 1, []), (30, .iadd, 1, []), (31, .iaload, 1, []), (32, .istore_n 3, 1, []), (33, .iconst (-1), 1, []), (34, .istore 4, 2, []), (36, .iconst 0, 1, []), (37, .istore 5, 2, []), (39, .iconst 0, 1, []), (40, .istore 6, 2, []), (42, .iload 6, 2, []), (44, .bipush 60, 2, []), (46, .if_icmp .gt 49, 3, []), (49, .aload_n 0, 1, []), (50, .getfield 96, 3, [10, 9, 50]), (53, .iconst 0, 1, []), (54, .iload_n 1, 1, []), (55, .iadd, 1, []), (56, .iload 6, 2, []), (58, .iastore, 1, []), (59, .aload_n 0, 1, []), (60, .invokevirtual 412, 3, [0, 180, 1, 19]), (63, .istore 7, 2, []), (65, .iload 4, 2, []), (67, .iconst (-1), 1, []), (68, .if_icmp .eq 13, 3, []), (71, .iload 7, 2, []), (73, .iload 5, 2, []), (75, .if_icmp .gt 6, 3, []), (78, .goto 11, 3, []), (81, .iload 6, 2, []), (83, .istore 4, 2, []), (85, .iload 7, 2, []), (87, .istore 5, 2, []), (89, .iinc 6 1, 3, []), (92, .goto (-50), 3, []), (95, .aload_n 0, 1, []), (96, .getfield 96, 3, [10, 9, 50]), (99, .iconst 0, 1, []), (100, .iload_n 1, 1, []), (101, .iadd, 1, []), (102, .iload_n 3, 1, []), (103, .iastore, 1, []), (104, .iload_n 2, 1, []), (105, .ifCond .ne 8, 3, []), (108, .iload 4, 2, []), (110, .goto 5, 3, []), (113, .iload 5, 2, []), (115, .ireturn, 1, [])]
/-- TingDecksModel.bell.(II)I -/
abbrev xm_183 : xe_M := (xc_183, 8, 1, 0, 0, [])
def xc_184 : List xe_I := [(0, .aload_n 0, 1, []), (1, .iconst 0, 1, []), (2, .putfield 150, 3, [11, 9, 0, 0, 0]), (5, .aload_n 0, 1, []), (6, .iload_n 1, 1, []), (7, .iconst 0, 1, []), (8, .bipush 17, 2, []), (10, .invokestatic 408, 3, [0, 69, 3, 2]), (13, .iconst 1, 1, []), (14, .invokevirtual 308, 3, [0, 65, 3, 19]), (17, .ifCond .ne 5, 3, []), (20, .iconst 0, 1, []), (21, .ireturn, 1, []), (22, .iload_n 1, 1, []), (23, .tableswitch 160 0 14 #[73, 78, 83, 88, 96, 101, 106, 111, 116, 121, 126, 131, 145, 150, 155], 73, []), (96, .aload_n 0, 1, []), (97, .getfield 7, 3, [10, 9, 1]), (100, .ireturn, 1, []), (101, .aload_n 0, 1, []), (102, .getfield 315, 3, [10, 9, 2]), (105, .ireturn, 1, []), (106, .aload_n 0, 1, []), (107, .getfield 318, 3, [10, 9, 3]), (110, .ireturn, 1, []), (111, .aload_n 0, 1, []), (112, .getfield 96, 3, [10, 9, 50]), (115, .bipush 24, 2, []), (117, .iaload, 1, []), (118, .ireturn, 1, []), (119, .aload_n 0, 1, []), (120, .getfield 13, 3, [10, 9, 4]), (123, .ireturn, 1, []), (124, .aload_n 0, 1, []), (125, .getfield 16, 3, [10, 9, 5]), (128, .ireturn, 1, []), (129, .aload_n 0, 1, []), (130, .getfield 19, 3, [10, 9, 6]), (133, .ireturn, 1, []), (134, .aload_n 0, 1, []), (135, .getfield 22, 3, [10, 9, 7]), (138, .ireturn, 1, []), (139, .aload_n 0, 1, []), (140, .getfield 25, 3, [10, 9, 8]), (143, .ireturn, 1, []), (144, .aload_n 0, 1, []), (145, .invokevirtual 402, 3, [0, 174, 1, 19]), (148, .ireturn, 1, []), (149, .aload_n 0, 1, []), (150, .invokevirtual 412, 3, [0, 180, 1, 19]), (153, .ireturn, 1, []), (154, .aload_n 0, 1, []), (155, .aload_n 0, 1, []), (156, .invokevirtual 396, 3, [0, 50, 1, 19]), (159, .iconst (-1), 1, []), (160, .invokevirtual 389, 3, [0, 128, 3, 19]), (163, .aload_n 0, 1, []), (164, .getfield 368, 3, [10, 9, 65]), (167, .ireturn, 1, []), (168, .aload_n 0, 1, []), (169, .getfield 325, 3, [10, 9, 51]), (172, .ireturn, 1, []), (173, .aload_n 0, 1, []), (174, .getfield 328, 3, [10, 9, 74]), (177, .ireturn, 1, []), (178, .aload_n 0, 1, []), (179, .getfield 153, 3, [10, 9, 18]), (182, .ireturn, 1, []), (183, .aload_n 0, 1, []), (184, .getfield 59, 3, [10, 9, 21]), (187, .iload_n 1, 1, []), (188, .bipush 15, 2, []), (190, .isub, 1, []), (191, .iaload, 1, []), (192, .ireturn, 1, [])]
/-- TingDecksModel.count.(I)I -/
abbrev xm_184 : xe_M := (xc_184, 2, 1, 0, 0, [])
def xc_185 : List xe_I := [(0, .aload_n 0, 1, []), (1, .getfield 96, 3, [10, 9, 50]), (4, .bipush 24, 2, []), (6, .iaload, 1, []), (7, .istore_n 2, 1, []), (8, .aload_n 0, 1, []), (9, .getfield 96, 3, [10, 9, 50]), (12, .bipush 24, 2, []), (14, .iload_n 1, 1, []), (15, .iastore, 1, []), (16, .aload_n 0, 1, []), (17, .invokevirtual 412, 3, [0, 180, 1, 19]), (20, .istore_n 3, 1, []), (21, .aload_n 0, 1, []), (22, .getfield 96, 3, [10, 9, 50]), (25, .bipush 24, 2, []), (27, .iload_n 2, 1, []), (28, .iastore, 1, []), (29, .iload_n 3, 1, []), (30, .ireturn, 1, [])]
/-- TingDecksModel.netBy.(I)I -/
abbrev xm_185 : xe_M := (xc_185, 4, 1, 0, 0, [])
def xc_186 : List xe_I := [(0, .aload_n 0, 1, []), (1, .iconst 0, 1, []), (2, .putfield 150, 3, [11, 9, 0, 0, 0]), (5, .aload_n 0, 1, []), (6, .iload_n 1, 1, []), (7, .iconst (-1), 1, []), (8, .if_icmp .lt 15, 3, []), (11, .iload_n 1, 1, []), (12, .aload_n 0, 1, []), (13, .getfield 318, 3, [10, 9, 3]), (16, .if_icmp .ge 7, 3, []), (19, .iconst 1, 1, []), (20, .goto 4, 3, []), (23, .iconst 0, 1, []), (24, .iconst 1, 1, []), (25, .invokevirtual 308, 3, [0, 65, 3, 19]), (28, .ifCond .eq 11, 3, []), (31, .aload_n 0, 1, []), (32, .iload_n 1, 1, []), (33, .invokevirtual 446, 3, [0, 185, 2, 19]), (36, .goto 4, 3, []), (39, .iconst 0, 1, []), (40, .ireturn, 1, [])]
/-- TingDecksModel.compare.(I)I -/
abbrev xm_186 : xe_M := (xc_186, 2, 1, 0, 0, [])
def xc_187 : List xe_I := [(0, .new 8, 3, [12, 8, 17]), (3, .dup, 1, []), (4, .invokespecial 99, 3, [0, 112, 1, 1]), (7, .astore_n 1, 1, []), (8, .new 100, 3, [12, 9, 83]), (11, .dup, 1, []), (12, .invokespecial 102, 3, [0, 55, 1, 1]), (15, .astore_n 2, 1, []), (16, .iconst 1, 1, []), (17, .newarray .long, 2, []), (19, .astore_n 3, 1, []), (20, .iconst 0, 1, []), (21, .istore 4, 2, []), (23, .iload 4, 2, []), (25, .aload_n 0, 1, []), (26, .arraylength, 1, []), (27, .bipush 6, 2, []), (29, .isub, 1, []), (30, .if_icmp .gt 2080, 3, []), (33, .aload_n 0, 1, []), (34, .iload 4, 2, []), (36, .iaload, 1, []), (37, .bipush 63, 2, []), (39, .iand, 1, []), (40, .tableswitch 2064 0 36 #[164, 237, 293, 306, 362, 430, 498, 566, 634, 690, 758, 838, 863, 876, 932, 988, 1001, 1069, 1125, 1181, 1194, 1250, 1306, 1386, 1397, 1453, 1533, 1613, 1669, 1725, 1781, 1849, 1905, 1918, 1985, 2040, 2051], 164, []), (204, .aload_n 1, 1, []), (205, .aload_n 0, 1, []), (206, .iload 4, 2, []), (208, .iconst 1, 1, []), (209, .iadd, 1, []), (210, .iaload, 1, []), (211, .aload_n 0, 1, []), (212, .iload 4, 2, []), (214, .iconst 2, 1, []), (215, .iadd, 1, []), (216, .iaload, 1, []), (217, .aload_n 0, 1, []), (218, .iload 4, 2, []), (220, .iconst 3, 1, []), (221, .iadd, 1, []), (222, .iaload, 1, []), (223, .aload_n 0, 1, []), (224, .iload 4, 2, []), (226, .iconst 4, 1, []), (227, .iadd, 1, []), (228, .iaload, 1, []), (229, .aload_n 0, 1, []), (230, .iload 4, 2, []), (232, .iconst 5, 1, []), (233, .iadd, 1, []), (234, .iaload, 1, []), (235, .invokevirtual 103, 3, [0, 78, 6, 18]), (238, .aload_n 2, 1, []), (239, .aload_n 0, 1, []), (240, .iload 4, 2, []), (242, .iconst 1, 1, []), (243, .iadd, 1, []), (244, .iaload, 1, []), (245, .aload_n 0, 1, []), (246, .iload 4, 2, []), (248, .iconst 2, 1, []), (249, .iadd, 1, []), (250, .iaload, 1, []), (251, .aload_n 0, 1, []), (252, .iload 4, 2, []), (254, .iconst 3, 1, []), (255, .iadd, 1, []), (256, .iaload, 1, []), (257, .aload_n 0, 1, []), (258, .iload 4, 2, []), (260, .iconst 4, 1, []), (261, .iadd, 1, []), (262, .iaload, 1, []), (263, .aload_n 0, 1, []), (264, .iload 4, 2, []), (266, .iconst 5, 1, []), (267, .iadd, 1, []), (268, .iaload, 1, []), (269, .invokevirtual 107, 3, [0, 90, 6, 19]), (272, .if_icmp .eq 1832, 3, []), (277, .aload_n 1, 1, []), (278, .aload_n 0, 1, []), (279, .iload 4, 2, []), (281, .iconst 1, 1, []), (282, .iadd, 1, []), (283, .iaload, 1, []), (284, .aload_n 3, 1, []), (285, .invokestatic 108, 3, [0, 160, 3, 4]), (288, .istore 5, 2, []), (290, .aload_n 2, 1, []), (291, .aload_n 0, 1, []), (292, .iload 4, 2, []), (294, .iconst 1, 1, []), (295, .iadd, 1, []), (296, .iaload, 1, []), (297, .invokevirtual 113, 3, [0, 118, 2, 19]), (300, .istore 6, 2, []), (302, .aload_n 2, 1, []), (303, .invokevirtual 114, 3, [0, 67, 1, 19]), (306, .iload 5, 2, []), (308, .if_icmp .eq 5, 3, []), (313, .iload 5, 2, []), (315, .ifCond .ne 15, 3, []), (318, .aload_n 3, 1, []), (319, .iconst 0, 1, []), (320, .laload, 1, []), (321, .iload 6, 2, []), (323, .i2l, 1, []), (324, .lcmp, 1, []), (325, .ifCond .eq 5, 3, []), (330, .goto 1774, 3, []), (333, .aload_n 1, 1, []), (334, .invokevirtual 118, 3, [0, 36, 1, 18]), (337, .aload_n 2, 1, []), (338, .invokevirtual 121, 3, [0, 52, 1, 19]), (341, .if_icmp .eq 1763, 3, []), (346, .aload_n 1, 1, []), (347, .aload_n 0, 1, []), (348, .iload 4, 2, []), (350, .iconst 1, 1, []), (351, .iadd, 1, []), (352, .iaload, 1, []), (353, .aload_n 3, 1, []), (354, .invokestatic 122, 3, [0, 162, 3, 4]), (357, .istore 5, 2, []), (359, .aload_n 2, 1, []), (360, .aload_n 0, 1, []), (361, .iload 4, 2, []), (363, .iconst 1, 1, []), (364, .iadd, 1, []), (365, .iaload, 1, []), (366, .invokevirtual 124, 3, [0, 184, 2, 19]), (369, .istore 6, 2, []), (371, .aload_n 2, 1, []), (372, .invokevirtual 114, 3, [0, 67, 1, 19]), (375, .iload 5, 2, []), (377, .if_icmp .eq 5, 3, []), (382, .iload 5, 2, []), (384, .ifCond .ne 15, 3, []), (387, .aload_n 3, 1, []), (388, .iconst 0, 1, []), (389, .laload, 1, []), (390, .iload 6, 2, []), (392, .i2l, 1, []), (393, .lcmp, 1, []), (394, .ifCond .eq 5, 3, []), (399, .goto 1705, 3, []), (402, .aload_n 1, 1, []), (403, .aload_n 0, 1, []), (404, .iload 4, 2, []), (406, .iconst 1, 1, []), (407, .iadd, 1, []), (408, .iaload, 1, []), (409, .aload_n 0, 1, []), (410, .iload 4, 2, []), (412, .iconst 2, 1, []), (413, .iadd, 1, []), (414, .iaload, 1, []), (415, .aload_n 3, 1, []), (416, .invokestatic 125, 3, [0, 169, 4, 4]), (419, .istore 5, 2, []), (421, .aload_n 2, 1, []), (422, .aload_n 0, 1, []), (423, .iload 4, 2, []), (425, .iconst 1, 1, []), (426, .iadd, 1, []), (427, .iaload, 1, []), (428, .aload_n 0, 1, []), (429, .iload 4, 2, []), (431, .iconst 2, 1, []), (432, .iadd, 1, []), (433, .iaload, 1, []), (434, .invokevirtual 128, 3, [0, 130, 3, 19]), (437, .istore 6, 2, []), (439, .aload_n 2, 1, []), (440, .invokevirtual 114, 3, [0, 67, 1, 19]), (443, .iload 5, 2, []), (445, .if_icmp .eq 5, 3, []), (450, .iload 5, 2, []), (452, .ifCond .ne 15, 3, []), (455, .aload_n 3, 1, []), (456, .iconst 0, 1, []), (457, .laload, 1, []), (458, .iload 6, 2, []), (460, .i2l, 1, []), (461, .lcmp, 1, []), (462, .ifCond .eq 5, 3, []), (467, .goto 1637, 3, []), (470, .aload_n 1, 1, []), (471, .aload_n 0, 1, []), (472, .iload 4, 2, []), (474, .iconst 1, 1, []), (475, .iadd, 1, []), (476, .iaload, 1, []), (477, .aload_n 0, 1, []), (478, .iload 4, 2, []), (480, .iconst 2, 1, []), (481, .iadd, 1, []), (482, .iaload, 1, []), (483, .aload_n 3, 1, []), (484, .invokestatic 129, 3, [0, 106, 4, 4]), (487, .istore 5, 2, []), (489, .aload_n 2, 1, []), (490, .aload_n 0, 1, []), (491, .iload 4, 2, []), (493, .iconst 1, 1, []), (494, .iadd, 1, []), (495, .iaload, 1, []), (496, .aload_n 0, 1, []), (497, .iload 4, 2, []), (499, .iconst 2, 1, []), (500, .iadd, 1, []), (501, .iaload, 1, []), (502, .invokevirtual 131, 3, [0, 127, 3, 19]), (505, .istore 6, 2, []), (507, .aload_n 2, 1, []), (508, .invokevirtual 114, 3, [0, 67, 1, 19]), (511, .iload 5, 2, []), (513, .if_icmp .eq 5, 3, []), (518, .iload 5, 2, []), (520, .ifCond .ne 15, 3, []), (535, .goto 1569, 3, []), (538, .aload_n 1, 1, []), (539, .aload_n 0, 1, []), (540, .iload 4, 2, []), (542, .iconst 1, 1, []), (543, .iadd, 1, []), (544, .iaload, 1, []), (545, .aload_n 0, 1, []), (546, .iload 4, 2, []), (548, .iconst 2, 1, []), (549, .iadd, 1, []), (550, .iaload, 1, []), (551, .aload_n 3, 1, []), (552, .invokestatic 132, 3, [0, 105, 4, 4]), (555, .istore 5, 2, []), (557, .aload_n 2, 1, []), (558, .aload_n 0, 1, []), (559, .iload 4, 2, []), (561, .iconst 1, 1, []), (562, .iadd, 1, []), (563, .iaload, 1, []), (564, .aload_n 0, 1, []), (565, .iload 4, 2, []), (567, .iconst 2, 1, []), (568, .iadd, 1, []), (569, .iaload, 1, []), (570, .invokevirtual 134, 3, [0, 126, 3, 19]), (573, .istore 6, 2, []), (575, .aload_n 2, 1, []), (576, .invokevirtual 114, 3, [0, 67, 1, 19]), (579, .iload 5, 2, []), (581, .if_icmp .eq 5, 3, []), (586, .iload 5, 2, []), (588, .ifCond .ne 15, 3, []), (603, .goto 1501, 3, []), (606, .aload_n 1, 1, []), (607, .aload_n 0, 1, []), (608, .iload 4, 2, []), (610, .iconst 1, 1, []), (611, .iadd, 1, []), (612, .iaload, 1, []), (613, .aload_n 0, 1, []), (614, .iload 4, 2, []), (616, .iconst 2, 1, []), (617, .iadd, 1, []), (618, .iaload, 1, []), (619, .aload_n 3, 1, []), (620, .invokestatic 135, 3, [0, 108, 4, 4]), (623, .istore 5, 2, []), (625, .aload_n 2, 1, []), (626, .aload_n 0, 1, []), (627, .iload 4, 2, []), (629, .iconst 1, 1, []), (630, .iadd, 1, []), (631, .iaload, 1, []), (632, .aload_n 0, 1, []), (633, .iload 4, 2, []), (635, .iconst 2, 1, []), (636, .iadd, 1, []), (637, .iaload, 1, []), (638, .invokevirtual 137, 3, [0, 131, 3, 19]), (641, .istore 6, 2, []), (643, .aload_n 2, 1, []), (644, .invokevirtual 114, 3, [0, 67, 1, 19]), (647, .iload 5, 2, []), (649, .if_icmp .eq 5, 3, []), (654, .iload 5, 2, []), (656, .ifCond .ne 15, 3, []), (671, .goto 1433, 3, []), (674, .aload_n 1, 1, []), (675, .aload_n 0, 1, []), (676, .iload 4, 2, []), (678, .iconst 1, 1, []), (679, .iadd, 1, []), (680, .iaload, 1, []), (681, .aload_n 3, 1, []), (682, .invokestatic 138, 3, [0, 173, 3, 4]), (685, .istore 5, 2, []), (687, .aload_n 2, 1, []), (688, .aload_n 0, 1, []), (689, .iload 4, 2, []), (691, .iconst 1, 1, []), (692, .iadd, 1, []), (693, .iaload, 1, []), (694, .invokevirtual 140, 3, [0, 158, 2, 19]), (697, .istore 6, 2, []), (699, .aload_n 2, 1, []), (700, .invokevirtual 114, 3, [0, 67, 1, 19]), (703, .iload 5, 2, []), (705, .if_icmp .eq 5, 3, []), (710, .iload 5, 2, []), (712, .ifCond .ne 15, 3, []), (715, .aload_n 3, 1, []), (716, .iconst 0, 1, []), (717, .laload, 1, []), (718, .iload 6, 2, []), (720, .i2l, 1, []), (721, .lcmp, 1, []), (722, .ifCond .eq 5, 3, []), (727, .goto 1377, 3, []), (730, .aload_n 1, 1, []), (731, .aload_n 0, 1, []), (732, .iload 4, 2, []), (734, .iconst 1, 1, []), (735, .iadd, 1, []), (736, .iaload, 1, []), (737, .aload_n 0, 1, []), (738, .iload 4, 2, []), (740, .iconst 2, 1, []), (741, .iadd, 1, []), (742, .iaload, 1, []), (743, .aload_n 3, 1, []), (744, .invokestatic 141, 3, [0, 103, 4, 4]), (747, .istore 5, 2, []), (749, .aload_n 2, 1, []), (750, .aload_n 0, 1, []), (751, .iload 4, 2, []), (753, .iconst 1, 1, []), (754, .iadd, 1, []), (755, .iaload, 1, []), (756, .aload_n 0, 1, []), (757, .iload 4, 2, []), (759, .iconst 2, 1, []), (760, .iadd, 1, []), (761, .iaload, 1, []), (762, .invokevirtual 143, 3, [0, 123, 3, 19]), (765, .istore 6, 2, []), (767, .aload_n 2, 1, []), (768, .invokevirtual 114, 3, [0, 67, 1, 19]), (771, .iload 5, 2, []), (773, .if_icmp .eq 5, 3, []), (778, .iload 5, 2, []), (780, .ifCond .ne 15, 3, []), (783, .aload_n 3, 1, []), (784, .iconst 0, 1, []), (785, .laload, 1, []), (786, .iload 6, 2, []), (788, .i2l, 1, []), (789, .lcmp, 1, []), (790, .ifCond .eq 5, 3, []), (795, .goto 1309, 3, []), (798, .aload_n 1, 1, []), (799, .aload_n 0, 1, []), (800, .iload 4, 2, []), (802, .iconst 1, 1, []), (803, .iadd, 1, []), (804, .iaload, 1, []), (805, .aload_n 0, 1, []), (806, .iload 4, 2, []), (808, .iconst 2, 1, []), (809, .iadd, 1, []), (810, .iaload, 1, []), (811, .aload_n 0, 1, []), (812, .iload 4, 2, []), (814, .iconst 3, 1, []), (815, .iadd, 1, []), (816, .iaload, 1, []), (817, .aload_n 3, 1, []), (818, .invokestatic 144, 3, [0, 107, 5, 4]), (821, .istore 5, 2, []), (823, .aload_n 2, 1, []), (824, .aload_n 0, 1, []), (825, .iload 4, 2, []), (827, .iconst 1, 1, []), (828, .iadd, 1, []), (829, .iaload, 1, []), (830, .aload_n 0, 1, []), (831, .iload 4, 2, []), (833, .iconst 2, 1, []), (834, .iadd, 1, []), (835, .iaload, 1, []), (836, .aload_n 0, 1, []), (837, .iload 4, 2, []), (839, .iconst 3, 1, []), (840, .iadd, 1, []), (841, .iaload, 1, []), (842, .invokevirtual 147, 3, [0, 129, 4, 19]), (845, .istore 6, 2, []), (847, .aload_n 2, 1, []), (848, .invokevirtual 114, 3, [0, 67, 1, 19]), (851, .iload 5, 2, []), (853, .if_icmp .eq 5, 3, []), (858, .iload 5, 2, []), (860, .ifCond .ne 15, 3, []), (875, .goto 1229, 3, []), (878, .aload_n 1, 1, []), (879, .aload_n 0, 1, []), (880, .iload 4, 2, []), (882, .iconst 1, 1, []), (883, .iadd, 1, []), (884, .iaload, 1, []), (885, .invokevirtual 148, 3, [0, 84, 2, 18]), (888, .aload_n 2, 1, []), (889, .aload_n 0, 1, []), (890, .iload 4, 2, []), (892, .iconst 1, 1, []), (893, .iadd, 1, []), (894, .iaload, 1, []), (895, .invokevirtual 152, 3, [0, 97, 2, 19]), (898, .if_icmp .eq 1206, 3, []), (903, .aload_n 1, 1, []), (904, .invokevirtual 153, 3, [0, 44, 1, 18]), (907, .aload_n 2, 1, []), (908, .invokevirtual 156, 3, [0, 68, 1, 19]), (911, .if_icmp .eq 1193, 3, []), (916, .aload_n 1, 1, []), (917, .aload_n 0, 1, []), (918, .iload 4, 2, []), (920, .iconst 1, 1, []), (921, .iadd, 1, []), (922, .iaload, 1, []), (923, .aload_n 3, 1, []), (924, .invokestatic 157, 3, [0, 167, 3, 4]), (927, .istore 5, 2, []), (929, .aload_n 2, 1, []), (930, .aload_n 0, 1, []), (931, .iload 4, 2, []), (933, .iconst 1, 1, []), (934, .iadd, 1, []), (935, .iaload, 1, []), (936, .invokevirtual 159, 3, [0, 125, 2, 19]), (939, .istore 6, 2, []), (941, .aload_n 2, 1, []), (942, .invokevirtual 114, 3, [0, 67, 1, 19]), (945, .iload 5, 2, []), (947, .if_icmp .eq 5, 3, []), (952, .iload 5, 2, []), (954, .ifCond .ne 15, 3, []), (957, .aload_n 3, 1, []), (958, .iconst 0, 1, []), (959, .laload, 1, []), (960, .iload 6, 2, []), (962, .i2l, 1, []), (963, .lcmp, 1, []), (964, .ifCond .eq 5, 3, []), (969, .goto 1135, 3, []), (972, .aload_n 1, 1, []), (973, .aload_n 0, 1, []), (974, .iload 4, 2, []), (976, .iconst 1, 1, []), (977, .iadd, 1, []), (978, .iaload, 1, []), (979, .aload_n 3, 1, []), (980, .invokestatic 160, 3, [0, 161, 3, 4]), (983, .istore 5, 2, []), (985, .aload_n 2, 1, []), (986, .aload_n 0, 1, []), (987, .iload 4, 2, []), (989, .iconst 1, 1, []), (990, .iadd, 1, []), (991, .iaload, 1, []), (992, .invokevirtual 162, 3, [0, 186, 2, 19]), (995, .istore 6, 2, []), (997, .aload_n 2, 1, []), (998, .invokevirtual 114, 3, [0, 67, 1, 19]), (1001, .iload 5, 2, []), (1003, .if_icmp .eq 5, 3, []), (1008, .iload 5, 2, []), (1010, .ifCond .ne 15, 3, []), (1013, .aload_n 3, 1, []), (1014, .iconst 0, 1, []), (1015, .laload, 1, []), (1016, .iload 6, 2, []), (1018, .i2l, 1, []), (1019, .lcmp, 1, []), (1020, .ifCond .eq 5, 3, []), (1025, .goto 1079, 3, []), (1028, .aload_n 1, 1, []), (1029, .invokevirtual 163, 3, [0, 136, 1, 18]), (1032, .aload_n 2, 1, []), (1033, .invokevirtual 166, 3, [0, 47, 1, 19]), (1036, .if_icmp .eq 1068, 3, []), (1041, .aload_n 1, 1, []), (1042, .aload_n 0, 1, []), (1043, .iload 4, 2, []), (1045, .iconst 1, 1, []), (1046, .iadd, 1, []), (1047, .iaload, 1, []), (1048, .aload_n 0, 1, []), (1049, .iload 4, 2, []), (1051, .iconst 2, 1, []), (1052, .iadd, 1, []), (1053, .iaload, 1, []), (1054, .aload_n 3, 1, []), (1055, .invokestatic 167, 3, [0, 133, 4, 4]), (1058, .istore 5, 2, []), (1060, .aload_n 2, 1, []), (1061, .aload_n 0, 1, []), (1062, .iload 4, 2, []), (1064, .iconst 1, 1, []), (1065, .iadd, 1, []), (1066, .iaload, 1, []), (1067, .aload_n 0, 1, []), (1068, .iload 4, 2, []), (1070, .iconst 2, 1, []), (1071, .iadd, 1, []), (1072, .iaload, 1, []), (1073, .invokevirtual 169, 3, [0, 183, 3, 19]), (1076, .istore 6, 2, []), (1078, .aload_n 2, 1, []), (1079, .invokevirtual 114, 3, [0, 67, 1, 19]), (1082, .iload 5, 2, []), (1084, .if_icmp .eq 5, 3, []), (1089, .iload 5, 2, []), (1091, .ifCond .ne 15, 3, []), (1094, .aload_n 3, 1, []), (1095, .iconst 0, 1, []), (1096, .laload, 1, []), (1097, .iload 6, 2, []), (1099, .i2l, 1, []), (1100, .lcmp, 1, []), (1101, .ifCond .eq 5, 3, []), (1106, .goto 998, 3, []), (1109, .aload_n 1, 1, []), (1110, .aload_n 0, 1, []), (1111, .iload 4, 2, []), (1113, .iconst 1, 1, []), (1114, .iadd, 1, []), (1115, .iaload, 1, []), (1116, .aload_n 3, 1, []), (1117, .invokestatic 170, 3, [0, 163, 3, 4]), (1120, .istore 5, 2, []), (1122, .aload_n 2, 1, []), (1123, .aload_n 0, 1, []), (1124, .iload 4, 2, []), (1126, .iconst 1, 1, []), (1127, .iadd, 1, []), (1128, .iaload, 1, []), (1129, .invokevirtual 172, 3, [0, 177, 2, 19]), (1132, .istore 6, 2, []), (1134, .aload_n 2, 1, []), (1135, .invokevirtual 114, 3, [0, 67, 1, 19]), (1138, .iload 5, 2, []), (1140, .if_icmp .eq 5, 3, []), (1145, .iload 5, 2, []), (1147, .ifCond .ne 15, 3, []), (1150, .aload_n 3, 1, []), (1151, .iconst 0, 1, []), (1152, .laload, 1, []), (1153, .iload 6, 2, []), (1155, .i2l, 1, []), (1156, .lcmp, 1, []), (1157, .ifCond .eq 5, 3, []), (1162, .goto 942, 3, []), (1165, .aload_n 1, 1, []), (1166, .aload_n 0, 1, []), (1167, .iload 4, 2, []), (1169, .iconst 1, 1, []), (1170, .iadd, 1, []), (1171, .iaload, 1, []), (1172, .aload_n 3, 1, []), (1173, .invokestatic 173, 3, [0, 171, 3, 4]), (1176, .istore 5, 2, []), (1178, .aload_n 2, 1, []), (1179, .aload_n 0, 1, []), (1180, .iload 4, 2, []), (1182, .iconst 1, 1, []), (1183, .iadd, 1, []), (1184, .iaload, 1, []), (1185, .invokevirtual 175, 3, [0, 182, 2, 19]), (1188, .istore 6, 2, []), (1190, .aload_n 2, 1, []), (1191, .invokevirtual 114, 3, [0, 67, 1, 19]), (1194, .iload 5, 2, []), (1196, .if_icmp .eq 5, 3, []), (1201, .iload 5, 2, []), (1203, .ifCond .ne 15, 3, []), (1206, .aload_n 3, 1, []), (1207, .iconst 0, 1, []), (1208, .laload, 1, []), (1209, .iload 6, 2, []), (1211, .i2l, 1, []), (1212, .lcmp, 1, []), (1213, .ifCond .eq 5, 3, []), (1218, .goto 886, 3, []), (1221, .aload_n 1, 1, []), (1222, .invokevirtual 176, 3, [0, 142, 1, 18]), (1225, .aload_n 2, 1, []), (1226, .invokevirtual 179, 3, [0, 178, 1, 19]), (1229, .if_icmp .eq 875, 3, []), (1234, .aload_n 1, 1, []), (1235, .aload_n 0, 1, []), (1236, .iload 4, 2, []), (1238, .iconst 1, 1, []), (1239, .iadd, 1, []), (1240, .iaload, 1, []), (1241, .aload_n 3, 1, []), (1242, .invokestatic 180, 3, [0, 165, 3, 4]), (1245, .istore 5, 2, []), (1247, .aload_n 2, 1, []), (1248, .aload_n 0, 1, []), (1249, .iload 4, 2, []), (1251, .iconst 1, 1, []), (1252, .iadd, 1, []), (1253, .iaload, 1, []), (1254, .invokevirtual 182, 3, [0, 154, 2, 19]), (1257, .istore 6, 2, []), (1259, .aload_n 2, 1, []), (1260, .invokevirtual 114, 3, [0, 67, 1, 19]), (1263, .iload 5, 2, []), (1265, .if_icmp .eq 5, 3, []), (1270, .iload 5, 2, []), (1272, .ifCond .ne 15, 3, []), (1275, .aload_n 3, 1, []), (1276, .iconst 0, 1, []), (1277, .laload, 1, []), (1278, .iload 6, 2, []), (1280, .i2l, 1, []), (1281, .lcmp, 1, []), (1282, .ifCond .eq 5, 3, []), (1287, .goto 817, 3, []), (1290, .aload_n 1, 1, []), (1291, .aload_n 0, 1, []), (1292, .iload 4, 2, []), (1294, .iconst 1, 1, []), (1295, .iadd, 1, []), (1296, .iaload, 1, []), (1297, .aload_n 3, 1, []), (1298, .invokestatic 183, 3, [0, 159, 3, 4]), (1301, .istore 5, 2, []), (1303, .aload_n 2, 1, []), (1304, .aload_n 0, 1, []), (1305, .iload 4, 2, []), (1307, .iconst 1, 1, []), (1308, .iadd, 1, []), (1309, .iaload, 1, []), (1310, .invokevirtual 185, 3, [0, 153, 2, 19]), (1313, .istore 6, 2, []), (1315, .aload_n 2, 1, []), (1316, .invokevirtual 114, 3, [0, 67, 1, 19]), (1319, .iload 5, 2, []), (1321, .if_icmp .eq 5, 3, []), (1326, .iload 5, 2, []), (1328, .ifCond .ne 15, 3, []), (1331, .aload_n 3, 1, []), (1332, .iconst 0, 1, []), (1333, .laload, 1, []), (1334, .iload 6, 2, []), (1336, .i2l, 1, []), (1337, .lcmp, 1, []), (1338, .ifCond .eq 5, 3, []), (1343, .goto 761, 3, []), (1346, .aload_n 1, 1, []), (1347, .aload_n 0, 1, []), (1348, .iload 4, 2, []), (1350, .iconst 1, 1, []), (1351, .iadd, 1, []), (1352, .iaload, 1, []), (1353, .aload_n 0, 1, []), (1354, .iload 4, 2, []), (1356, .iconst 2, 1, []), (1357, .iadd, 1, []), (1358, .iaload, 1, []), (1359, .aload_n 0, 1, []), (1360, .iload 4, 2, []), (1362, .iconst 3, 1, []), (1363, .iadd, 1, []), (1364, .iaload, 1, []), (1365, .aload_n 3, 1, []), (1366, .invokestatic 186, 3, [0, 102, 5, 4]), (1369, .istore 5, 2, []), (1371, .aload_n 2, 1, []), (1372, .aload_n 0, 1, []), (1373, .iload 4, 2, []), (1375, .iconst 1, 1, []), (1376, .iadd, 1, []), (1377, .iaload, 1, []), (1378, .aload_n 0, 1, []), (1379, .iload 4, 2, []), (1381, .iconst 2, 1, []), (1382, .iadd, 1, []), (1383, .iaload, 1, []), (1384, .aload_n 0, 1, []), (1385, .iload 4, 2, []), (1387, .iconst 3, 1, []), (1388, .iadd, 1, []), (1389, .iaload, 1, []), (1390, .invokevirtual 188, 3, [0, 122, 4, 19]), (1393, .istore 6, 2, []), (1395, .aload_n 2, 1, []), (1396, .invokevirtual 114, 3, [0, 67, 1, 19]), (1399, .iload 5, 2, []), (1401, .if_icmp .eq 5, 3, []), (1406, .iload 5, 2, []), (1408, .ifCond .ne 15, 3, []), (1411, .aload_n 3, 1, []), (1412, .iconst 0, 1, []), (1413, .laload, 1, []), (1414, .iload 6, 2, []), (1416, .i2l, 1, []), (1417, .lcmp, 1, []), (1418, .ifCond .eq 5, 3, []), (1423, .goto 681, 3, []), (1426, .aload_n 1, 1, []), (1427, .invokevirtual 189, 3, [0, 37, 1, 18]), (1430, .aload_n 2, 1, []), (1431, .invokevirtual 192, 3, [0, 53, 1, 19]), (1434, .goto 670, 3, []), (1437, .aload_n 1, 1, []), (1438, .aload_n 0, 1, []), (1439, .iload 4, 2, []), (1441, .iconst 1, 1, []), (1442, .iadd, 1, []), (1443, .iaload, 1, []), (1444, .aload_n 3, 1, []), (1445, .invokestatic 193, 3, [0, 164, 3, 4]), (1448, .istore 5, 2, []), (1450, .aload_n 2, 1, []), (1451, .aload_n 0, 1, []), (1452, .iload 4, 2, []), (1454, .iconst 1, 1, []), (1455, .iadd, 1, []), (1456, .iaload, 1, []), (1457, .invokevirtual 195, 3, [0, 120, 2, 19]), (1460, .istore 6, 2, []), (1462, .aload_n 2, 1, []), (1463, .invokevirtual 114, 3, [0, 67, 1, 19]), (1466, .iload 5, 2, []), (1468, .if_icmp .eq 5, 3, []), (1473, .iload 5, 2, []), (1475, .ifCond .ne 15, 3, []), (1478, .aload_n 3, 1, []), (1479, .iconst 0, 1, []), (1480, .laload, 1, []), (1481, .iload 6, 2, []), (1483, .i2l, 1, []), (1484, .lcmp, 1, []), (1485, .ifCond .eq 5, 3, []), (1490, .goto 614, 3, []), (1493, .aload_n 1, 1, []), (1494, .aload_n 0, 1, []), (1495, .iload 4, 2, []), (1497, .iconst 1, 1, []), (1498, .iadd, 1, []), (1499, .iaload, 1, []), (1500, .aload_n 0, 1, []), (1501, .iload 4, 2, []), (1503, .iconst 2, 1, []), (1504, .iadd, 1, []), (1505, .iaload, 1, []), (1506, .aload_n 0, 1, []), (1507, .iload 4, 2, []), (1509, .iconst 3, 1, []), (1510, .iadd, 1, []), (1511, .iaload, 1, []), (1512, .aload_n 3, 1, []), (1513, .invokestatic 196, 3, [0, 101, 5, 4]), (1516, .istore 5, 2, []), (1518, .aload_n 2, 1, []), (1519, .aload_n 0, 1, []), (1520, .iload 4, 2, []), (1522, .iconst 1, 1, []), (1523, .iadd, 1, []), (1524, .iaload, 1, []), (1525, .aload_n 0, 1, []), (1526, .iload 4, 2, []), (1528, .iconst 2, 1, []), (1529, .iadd, 1, []), (1530, .iaload, 1, []), (1531, .aload_n 0, 1, []), (1532, .iload 4, 2, []), (1534, .iconst 3, 1, []), (1535, .iadd, 1, []), (1536, .iaload, 1, []), (1537, .invokevirtual 198, 3, [0, 121, 4, 19]), (1540, .istore 6, 2, []), (1542, .aload_n 2, 1, []), (1543, .invokevirtual 114, 3, [0, 67, 1, 19]), (1546, .iload 5, 2, []), (1548, .if_icmp .eq 5, 3, []), (1553, .iload 5, 2, []), (1555, .ifCond .ne 15, 3, []), (1570, .goto 534, 3, []), (1573, .aload_n 1, 1, []), (1574, .aload_n 0, 1, []), (1575, .iload 4, 2, []), (1577, .iconst 1, 1, []), (1578, .iadd, 1, []), (1579, .iaload, 1, []), (1580, .aload_n 0, 1, []), (1581, .iload 4, 2, []), (1583, .iconst 2, 1, []), (1584, .iadd, 1, []), (1585, .iaload, 1, []), (1586, .aload_n 0, 1, []), (1587, .iload 4, 2, []), (1589, .iconst 3, 1, []), (1590, .iadd, 1, []), (1591, .iaload, 1, []), (1592, .aload_n 3, 1, []), (1593, .invokestatic 199, 3, [0, 134, 5, 4]), (1596, .istore 5, 2, []), (1598, .aload_n 2, 1, []), (1599, .aload_n 0, 1, []), (1600, .iload 4, 2, []), (1602, .iconst 1, 1, []), (1603, .iadd, 1, []), (1604, .iaload, 1, []), (1605, .aload_n 0, 1, []), (1606, .iload 4, 2, []), (1608, .iconst 2, 1, []), (1609, .iadd, 1, []), (1610, .iaload, 1, []), (1611, .aload_n 0, 1, []), (1612, .iload 4, 2, []), (1614, .iconst 3, 1, []), (1615, .iadd, 1, []), (1616, .iaload, 1, []), (1617, .invokevirtual 201, 3, [0, 175, 4, 19]), (1620, .istore 6, 2, []), (1622, .aload_n 2, 1, []), (1623, .invokevirtual 114, 3, [0, 67, 1, 19]), (1626, .iload 5, 2, []), (1628, .if_icmp .eq 5, 3, []), (1633, .iload 5, 2, []), (1635, .ifCond .ne 15, 3, []), (1638, .aload_n 3, 1, []), (1639, .iconst 0, 1, []), (1640, .laload, 1, []), (1641, .iload 6, 2, []), (1643, .i2l, 1, []), (1644, .lcmp, 1, []), (1645, .ifCond .eq 5, 3, []), (1650, .goto 454, 3, []), (1653, .aload_n 1, 1, []), (1654, .aload_n 0, 1, []), (1655, .iload 4, 2, []), (1657, .iconst 1, 1, []), (1658, .iadd, 1, []), (1659, .iaload, 1, []), (1660, .aload_n 3, 1, []), (1661, .invokestatic 202, 3, [0, 172, 3, 4]), (1664, .istore 5, 2, []), (1666, .aload_n 2, 1, []), (1667, .aload_n 0, 1, []), (1668, .iload 4, 2, []), (1670, .iconst 1, 1, []), (1671, .iadd, 1, []), (1672, .iaload, 1, []), (1673, .invokevirtual 204, 3, [0, 157, 2, 19]), (1676, .istore 6, 2, []), (1678, .aload_n 2, 1, []), (1679, .invokevirtual 114, 3, [0, 67, 1, 19]), (1682, .iload 5, 2, []), (1684, .if_icmp .eq 5, 3, []), (1689, .iload 5, 2, []), (1691, .ifCond .ne 15, 3, []), (1694, .aload_n 3, 1, []), (1695, .iconst 0, 1, []), (1696, .laload, 1, []), (1697, .iload 6, 2, []), (1699, .i2l, 1, []), (1700, .lcmp, 1, []), (1701, .ifCond .eq 5, 3, []), (1706, .goto 398, 3, []), (1709, .aload_n 1, 1, []), (1710, .aload_n 0, 1, []), (1711, .iload 4, 2, []), (1713, .iconst 1, 1, []), (1714, .iadd, 1, []), (1715, .iaload, 1, []), (1716, .aload_n 3, 1, []), (1717, .invokestatic 205, 3, [0, 170, 3, 4]), (1720, .istore 5, 2, []), (1722, .aload_n 2, 1, []), (1723, .aload_n 0, 1, []), (1724, .iload 4, 2, []), (1726, .iconst 1, 1, []), (1727, .iadd, 1, []), (1728, .iaload, 1, []), (1729, .invokevirtual 207, 3, [0, 156, 2, 19]), (1732, .istore 6, 2, []), (1734, .aload_n 2, 1, []), (1735, .invokevirtual 114, 3, [0, 67, 1, 19]), (1738, .iload 5, 2, []), (1740, .if_icmp .eq 5, 3, []), (1745, .iload 5, 2, []), (1747, .ifCond .ne 15, 3, []), (1762, .goto 342, 3, []), (1765, .aload_n 1, 1, []), (1766, .aload_n 0, 1, []), (1767, .iload 4, 2, []), (1769, .iconst 1, 1, []), (1770, .iadd, 1, []), (1771, .iaload, 1, []), (1772, .aload_n 3, 1, []), (1773, .invokestatic 208, 3, [0, 168, 3, 4]), (1776, .istore 5, 2, []), (1778, .aload_n 2, 1, []), (1779, .aload_n 0, 1, []), (1780, .iload 4, 2, []), (1782, .iconst 1, 1, []), (1783, .iadd, 1, []), (1784, .iaload, 1, []), (1785, .invokevirtual 210, 3, [0, 98, 2, 19]), (1788, .istore 6, 2, []), (1790, .aload_n 2, 1, []), (1791, .invokevirtual 114, 3, [0, 67, 1, 19]), (1794, .iload 5, 2, []), (1796, .if_icmp .eq 5, 3, []), (1801, .iload 5, 2, []), (1803, .ifCond .ne 15, 3, []), (1806, .aload_n 3, 1, []), (1807, .iconst 0, 1, []), (1808, .laload, 1, []), (1809, .iload 6, 2, []), (1811, .i2l, 1, []), (1812, .lcmp, 1, []), (1813, .ifCond .eq 5, 3, []), (1818, .goto 286, 3, []), (1821, .aload_n 1, 1, []), (1822, .aload_n 0, 1, []), (1823, .iload 4, 2, []), (1825, .iconst 1, 1, []), (1826, .iadd, 1, []), (1827, .iaload, 1, []), (1828, .aload_n 0, 1, []), (1829, .iload 4, 2, []), (1831, .iconst 2, 1, []), (1832, .iadd, 1, []), (1833, .iaload, 1, []), (1834, .aload_n 3, 1, []), (1835, .invokestatic 211, 3, [0, 100, 4, 4]), (1838, .istore 5, 2, []), (1840, .aload_n 2, 1, []), (1841, .aload_n 0, 1, []), (1842, .iload 4, 2, []), (1844, .iconst 1, 1, []), (1845, .iadd, 1, []), (1846, .iaload, 1, []), (1847, .aload_n 0, 1, []), (1848, .iload 4, 2, []), (1850, .iconst 2, 1, []), (1851, .iadd, 1, []), (1852, .iaload, 1, []), (1853, .invokevirtual 213, 3, [0, 119, 3, 19]), (1856, .istore 6, 2, []), (1858, .aload_n 2, 1, []), (1859, .invokevirtual 114, 3, [0, 67, 1, 19]), (1862, .iload 5, 2, []), (1864, .if_icmp .eq 5, 3, []), (1869, .iload 5, 2, []), (1871, .ifCond .ne 15, 3, []), (1886, .goto 218, 3, []), (1889, .aload_n 1, 1, []), (1890, .aload_n 0, 1, []), (1891, .iload 4, 2, []), (1893, .iconst 1, 1, []), (1894, .iadd, 1, []), (1895, .iaload, 1, []), (1896, .aload_n 3, 1, []), (1897, .invokestatic 214, 3, [0, 109, 3, 4]), (1900, .istore 5, 2, []), (1902, .aload_n 2, 1, []), (1903, .aload_n 0, 1, []), (1904, .iload 4, 2, []), (1906, .iconst 1, 1, []), (1907, .iadd, 1, []), (1908, .iaload, 1, []), (1909, .invokevirtual 216, 3, [0, 132, 2, 19]), (1912, .istore 6, 2, []), (1914, .aload_n 2, 1, []), (1915, .invokevirtual 114, 3, [0, 67, 1, 19]), (1918, .iload 5, 2, []), (1920, .if_icmp .eq 5, 3, []), (1925, .iload 5, 2, []), (1927, .ifCond .ne 15, 3, []), (1942, .goto 162, 3, []), (1945, .aload_n 1, 1, []), (1946, .invokevirtual 217, 3, [0, 146, 1, 18]), (1949, .aload_n 2, 1, []), (1950, .invokevirtual 220, 3, [0, 181, 1, 19]), (1953, .if_icmp .eq 151, 3, []), (1958, .aload_n 1, 1, []), (1959, .aload_n 0, 1, []), (1960, .iload 4, 2, []), (1962, .iconst 1, 1, []), (1963, .iadd, 1, []), (1964, .iaload, 1, []), (1965, .aload_n 0, 1, []), (1966, .iload 4, 2, []), (1968, .iconst 2, 1, []), (1969, .iadd, 1, []), (1970, .iaload, 1, []), (1971, .aload_n 3, 1, []), (1972, .invokestatic 221, 3, [0, 104, 4, 4]), (1975, .istore 5, 2, []), (1977, .aload_n 2, 1, []), (1978, .aload_n 0, 1, []), (1979, .iload 4, 2, []), (1981, .iconst 1, 1, []), (1982, .iadd, 1, []), (1983, .iaload, 1, []), (1984, .aload_n 0, 1, []), (1985, .iload 4, 2, []), (1987, .iconst 2, 1, []), (1988, .iadd, 1, []), (1989, .iaload, 1, []), (1990, .invokevirtual 223, 3, [0, 124, 3, 19]), (1993, .lstore 6, 2, []), (1995, .aload_n 2, 1, []), (1996, .invokevirtual 114, 3, [0, 67, 1, 19]), (1999, .iload 5, 2, []), (2001, .if_icmp .eq 5, 3, []), (2006, .iload 5, 2, []), (2008, .ifCond .ne 14, 3, []), (2022, .goto 82, 3, []), (2025, .aload_n 1, 1, []), (2026, .aload_n 0, 1, []), (2027, .iload 4, 2, []), (2029, .iconst 1, 1, []), (2030, .iadd, 1, []), (2031, .iaload, 1, []), (2032, .aload_n 3, 1, []), (2033, .invokestatic 224, 3, [0, 166, 3, 4]), (2036, .istore 5, 2, []), (2038, .aload_n 2, 1, []), (2039, .aload_n 0, 1, []), (2040, .iload 4, 2, []), (2042, .iconst 1, 1, []), (2043, .iadd, 1, []), (2044, .iaload, 1, []), (2045, .invokevirtual 226, 3, [0, 179, 2, 19]), (2048, .lstore 6, 2, []), (2050, .aload_n 2, 1, []), (2051, .invokevirtual 114, 3, [0, 67, 1, 19]), (2054, .iload 5, 2, []), (2056, .if_icmp .eq 5, 3, []), (2061, .iload 5, 2, []), (2063, .ifCond .ne 14, 3, []), (2066, .aload_n 3, 1, []), (2067, .iconst 0, 1, []), (2068, .laload, 1, []), (2069, .lload 6, 2, []), (2071, .lcmp, 1, []), (2072, .ifCond .eq 5, 3, []), (2077, .goto 27, 3, []), (2080, .aload_n 1, 1, []), (2081, .invokevirtual 227, 3, [0, 82, 1, 18]), (2084, .aload_n 2, 1, []), (2085, .invokevirtual 230, 3, [0, 92, 1, 19]), (2088, .goto 16, 3, []), (2091, .aload_n 1, 1, []), (2092, .invokevirtual 231, 3, [0, 42, 1, 18]), (2095, .aload_n 2, 1, []), (2096, .invokevirtual 235, 3, [0, 64, 1, 19]), (2099, .if_icmp .eq 5, 3, []), (2104, .iinc 4 6, 3, []), (2107, .goto (-2084), 3, []), (2110, .iconst 1, 1, []), (2111, .ireturn, 1, [])]
/-- TingDecksLaw.law.([I)Z -/
abbrev xm_187 : xe_M := (xc_187, 8, 4, 142, 43109, [])
abbrev xd_0 : xd_D := (RJ6, yJ6_bitCount_0f7a4, cJ6_bitCount_0f7a4, 1, (some .int), false, 1, [])
abbrev xd_1 : xd_D := (RX0, yX0_everybody, cX0_everybody, 1, (some .int), false, 1, [])
abbrev xd_2 : xd_D := (RX0, yX0_init, cX0_init, 1, none, true, 1, [])
abbrev xd_3 : xd_D := (RX0, yX0_makeEmpty, cX0_makeEmpty, 1, none, false, 1, [])
abbrev xd_4 : xd_D := (RX0, yX0_ridersFrom, cX0_ridersFrom, 4, (some .int), false, 1, [])
abbrev xd_5 : xd_D := (RX0, yX0_ridersThere, cX0_ridersThere, 4, (some .int), false, 1, [])
abbrev xd_6 : xd_D := (RX1, yX1_addTrip, cX1_addTrip, 5, none, false, 1, [])
abbrev xd_7 : xd_D := (RX1, yX1_begin, cX1_begin, 4, none, false, 1, [])
abbrev xd_8 : xd_D := (RX1, yX1_init, cX1_init, 1, none, true, 1, [])
abbrev xd_9 : xd_D := (RX1, yX1_letCome, cX1_letCome, 8, (some .long), false, 1, [])
abbrev xd_10 : xd_D := (RX1, yX1_partOf, cX1_partOf, 11, (some .long), false, 1, [])
abbrev xd_11 : xd_D := (RX2, yX2_findMost, cX2_findMost, 5, none, false, 1, [])
abbrev xd_12 : xd_D := (RX2, yX2_goOnFrom, cX2_goOnFrom, 10, none, false, 1, [])
abbrev xd_13 : xd_D := (RX2, yX2_init, cX2_init, 1, none, true, 1, [])
abbrev xd_14 : xd_D := (RX2, yX2_soonestOf, cX2_soonestOf, 4, (some .int), false, 1, [])
abbrev xd_15 : xd_D := (RX4, yX4_init, cX4_init, 1, none, true, 1, [])
abbrev xd_16 : xd_D := (RX5, yX5_allHolds, cX5_allHolds, 3, (some .int), false, 1, [])
abbrev xd_17 : xd_D := (RX5, yX5_copyFrom, cX5_copyFrom, 2, none, false, 1, [])
abbrev xd_18 : xd_D := (RX5, yX5_init, cX5_init, 1, none, true, 1, [])
abbrev xd_19 : xd_D := (RX5, yX5_keepAct, cX5_keepAct, 4, none, false, 1, [])
abbrev xd_20 : xd_D := (RX5, yX5_keepCounted, cX5_keepCounted, 4, none, false, 1, [])
abbrev xd_21 : xd_D := (RX5, yX5_startOn, cX5_startOn, 3, none, false, 1, [])
abbrev xd_22 : xd_D := (RX6, yX6_goOn, cX6_goOn, 2, none, false, 1, [])
abbrev xd_23 : xd_D := (RX6, yX6_init, cX6_init, 2, none, true, 1, [])
abbrev xd_24 : xd_D := (RX7, yX7_drawComers, cX7_drawComers, 5, (some .int), false, 1, [])
abbrev xd_25 : xd_D := (RX7, yX7_fareOfAll, cX7_fareOfAll, 3, none, false, 1, [])
abbrev xd_26 : xd_D := (RX7, yX7_faresOf, cX7_faresOf, 4, (some .int), false, 1, [])
abbrev xd_27 : xd_D := (RX7, yX7_forgetAll, cX7_forgetAll, 2, none, false, 1, [])
abbrev xd_28 : xd_D := (RX7, yX7_lastPaidAt, cX7_lastPaidAt, 3, (some .int), false, 1, [])
abbrev xd_29 : xd_D := (RX7, yX7_moveBehind, cX7_moveBehind, 4, none, false, 1, [])
abbrev xd_30 : xd_D := (RX7, yX7_pickRider, cX7_pickRider, 8, (some .int), false, 1, [])
abbrev xd_31 : xd_D := (RX7, yX7_placeIn, cX7_placeIn, 3, (some .int), false, 1, [])
abbrev xd_32 : xd_D := (RX7, yX7_ridersAbove, cX7_ridersAbove, 3, (some .int), false, 1, [])
abbrev xd_33 : xd_D := (RX8, yX8_checkRider, cX8_checkRider, 2, none, false, 1, [])
abbrev xd_34 : xd_D := (RX8, yX8_checkStop, cX8_checkStop, 2, none, false, 1, [])
abbrev xd_35 : xd_D := (RX8, yX8_checkWhat, cX8_checkWhat, 3, none, false, 1, [])
abbrev xd_36 : xd_D := (RX8, yX8_fault, cX8_fault, 1, (some .int), false, 1, [])
abbrev xd_37 : xd_D := (RX8, yX8_forget, cX8_forget, 1, none, false, 1, [])
abbrev xd_38 : xd_D := (RX8, yX8_isAsCounted, cX8_isAsCounted, 5, (some .boolean), false, 1, [])
abbrev xd_39 : xd_D := (RX8, yX8_isRuleOrNone, cX8_isRuleOrNone, 2, (some .boolean), false, 1, [])
abbrev xd_40 : xd_D := (RX8, yX8_netOf, cX8_netOf, 3, (some .int), false, 1, [])
abbrev xd_41 : xd_D := (RX8, yX8_putNumber, cX8_putNumber, 3, none, false, 1, [])
abbrev xd_42 : xd_D := (RX8, yX8_restore, cX8_restore, 1, (some .boolean), false, 1, [])
abbrev xd_43 : xd_D := (RX8, yX8_stateChanged, cX8_stateChanged, 1, none, false, 1, [])
abbrev xd_44 : xd_D := (RX8, yX8_undo, cX8_undo, 1, (some .int), false, 1, [])
abbrev xd_45 : xd_D := (RX9, yX9_asks, cX9_asks, 2, none, false, 1, [])
abbrev xd_46 : xd_D := (RX9, yX9_atSecond, cX9_atSecond, 4, (some .int), false, 1, [])
abbrev xd_47 : xd_D := (RX9, yX9_best, cX9_best, 3, (some .int), false, 1, [])
abbrev xd_48 : xd_D := (RX9, yX9_byteAt, cX9_byteAt, 2, (some .int), false, 1, [])
abbrev xd_49 : xd_D := (RX9, yX9_copies, cX9_copies, 4, none, false, 1, [])
abbrev xd_50 : xd_D := (RX9, yX9_everybody, cX9_everybody, 1, (some .int), false, 1, [])
abbrev xd_51 : xd_D := (RX9, yX9_faresOf, cX9_faresOf, 4, (some .int), false, 1, [])
abbrev xd_52 : xd_D := (RX9, yX9_fault, cX9_fault, 1, (some .int), false, 1, [])
abbrev xd_53 : xd_D := (RX9, yX9_forget, cX9_forget, 1, none, false, 1, [])
abbrev xd_54 : xd_D := (RX9, yX9_holds, cX9_holds, 3, (some .int), false, 1, [])
abbrev xd_55 : xd_D := (RX9, yX9_init, cX9_init, 1, none, true, 1, [])
abbrev xd_56 : xd_D := (RX9, yX9_isCounted, cX9_isCounted, 5, (some .boolean), false, 1, [])
abbrev xd_57 : xd_D := (RX9, yX9_isGood, cX9_isGood, 1, (some .boolean), false, 1, [])
abbrev xd_58 : xd_D := (RX9, yX9_keeps, cX9_keeps, 3, none, false, 1, [])
abbrev xd_59 : xd_D := (RX9, yX9_lays, cX9_lays, 3, none, false, 1, [])
abbrev xd_60 : xd_D := (RX9, yX9_orders, cX9_orders, 8, none, false, 1, [])
abbrev xd_61 : xd_D := (RX9, yX9_picks, cX9_picks, 9, (some .int), false, 1, [])
abbrev xd_62 : xd_D := (RX9, yX9_portion, cX9_portion, 11, (some .long), false, 1, [])
abbrev xd_63 : xd_D := (RX9, yX9_refuses, cX9_refuses, 2, (some .int), false, 1, [])
abbrev xd_64 : xd_D := (RX9, yX9_restore, cX9_restore, 1, (some .boolean), false, 1, [])
abbrev xd_65 : xd_D := (RX9, yX9_right, cX9_right, 3, (some .boolean), false, 1, [])
abbrev xd_66 : xd_D := (RX9, yX9_tens, cX9_tens, 4, (some .long), false, 1, [])
abbrev xd_67 : xd_D := (RX9, yX9_thrown, cX9_thrown, 1, (some .int), false, 1, [])
abbrev xd_68 : xd_D := (RX9, yX9_undo, cX9_undo, 1, (some .int), false, 1, [])
abbrev xd_69 : xd_D := (RX9, yX9_within, cX9_within, 3, (some .boolean), false, 1, [])
abbrev xd_70 : xd_D := (RX2, yX2_reckon, cX2_reckon, 6, none, false, 2, [])
abbrev xd_71 : xd_D := (RX3, yX3_init, cX3_init, 3, none, true, 2, [])
abbrev xd_72 : xd_D := (RX6, yX6_begin, cX6_begin, 2, none, false, 2, [])
abbrev xd_73 : xd_D := (RX7, yX7_init, cX7_init, 2, none, true, 2, [])
abbrev xd_74 : xd_D := (RX7, yX7_prepare, cX7_prepare, 4, none, false, 2, [])
abbrev xd_75 : xd_D := (RX7, yX7_travel, cX7_travel, 7, none, false, 2, [])
abbrev xd_76 : xd_D := (RX8, yX8_dodge, cX8_dodge, 6, (some .int), false, 2, [])
abbrev xd_77 : xd_D := (RX8, yX8_doorLine, cX8_doorLine, 8, (some .int), false, 2, [])
abbrev xd_78 : xd_D := (RX8, yX8_feed, cX8_feed, 6, (some .int), false, 2, [])
abbrev xd_79 : xd_D := (RX8, yX8_game, cX8_game, 12, (some .int), false, 2, [])
abbrev xd_80 : xd_D := (RX8, yX8_head, cX8_head, 4, (some .int), false, 2, [])
abbrev xd_81 : xd_D := (RX8, yX8_hold, cX8_hold, 4, (some .int), false, 2, [])
abbrev xd_82 : xd_D := (RX8, yX8_image, cX8_image, 1, none, false, 2, [])
abbrev xd_83 : xd_D := (RX8, yX8_likely, cX8_likely, 4, (some .long), false, 2, [])
abbrev xd_84 : xd_D := (RX8, yX8_obey, cX8_obey, 2, (some .boolean), false, 2, [])
abbrev xd_85 : xd_D := (RX8, yX8_paid, cX8_paid, 4, (some .int), false, 2, [])
abbrev xd_86 : xd_D := (RX8, yX8_rider, cX8_rider, 3, (some .int), false, 2, [])
abbrev xd_87 : xd_D := (RX8, yX8_sit, cX8_sit, 5, (some .int), false, 2, [])
abbrev xd_88 : xd_D := (RX8, yX8_way, cX8_way, 3, (some .int), false, 2, [])
abbrev xd_89 : xd_D := (RX8, yX8_worth, cX8_worth, 2, (some .int), false, 2, [])
abbrev xd_90 : xd_D := (RX9, yX9_feed, cX9_feed, 6, (some .int), false, 2, [])
abbrev xd_91 : xd_D := (RX9, yX9_goes, cX9_goes, 2, none, false, 2, [])
abbrev xd_92 : xd_D := (RX9, yX9_image, cX9_image, 1, none, false, 2, [])
abbrev xd_93 : xd_D := (RX9, yX9_isRider, cX9_isRider, 2, (some .boolean), false, 2, [])
abbrev xd_94 : xd_D := (RX9, yX9_isStop, cX9_isStop, 2, (some .boolean), false, 2, [])
abbrev xd_95 : xd_D := (RX9, yX9_isWhat, cX9_isWhat, 3, (some .boolean), false, 2, [])
abbrev xd_96 : xd_D := (RX9, yX9_lastSecond, cX9_lastSecond, 1, (some .int), false, 2, [])
abbrev xd_97 : xd_D := (RX9, yX9_obey, cX9_obey, 2, (some .boolean), false, 2, [])
abbrev xd_98 : xd_D := (RX9, yX9_soonest, cX9_soonest, 3, (some .int), false, 2, [])
abbrev xd_99 : xd_D := (RX9, yX9_stopBy, cX9_stopBy, 3, (some .int), false, 2, [])
abbrev xd_100 : xd_D := (RL, yL_dodge, cL_dodge, 5, (some .int), false, 3, [(0, 10, 13, 18)])
abbrev xd_101 : xd_D := (RL, yL_game, cL_game, 6, (some .int), false, 3, [(0, 12, 15, 18), (0, 12, 19, 13)])
abbrev xd_102 : xd_D := (RL, yL_head, cL_head, 6, (some .int), false, 3, [(0, 12, 15, 18)])
abbrev xd_103 : xd_D := (RL, yL_hold, cL_hold, 5, (some .int), false, 3, [(0, 10, 13, 18)])
abbrev xd_104 : xd_D := (RL, yL_likely, cL_likely, 5, (some .int), false, 3, [(0, 9, 12, 18)])
abbrev xd_105 : xd_D := (RL, yL_paid, cL_paid, 5, (some .int), false, 3, [(0, 10, 13, 18)])
abbrev xd_106 : xd_D := (RL, yL_rider, cL_rider, 5, (some .int), false, 3, [(0, 10, 13, 18)])
abbrev xd_107 : xd_D := (RL, yL_sit, cL_sit, 6, (some .int), false, 3, [(0, 12, 15, 18)])
abbrev xd_108 : xd_D := (RL, yL_way, cL_way, 5, (some .int), false, 3, [(0, 10, 13, 18)])
abbrev xd_109 : xd_D := (RL, yL_worth, cL_worth, 4, (some .int), false, 3, [(0, 9, 12, 18)])
abbrev xd_110 : xd_D := (RX3, yX3_readBus, cX3_readBus, 4, (some .int), false, 3, [])
abbrev xd_111 : xd_D := (RX8, yX8_bell, cX8_bell, 8, (some .int), false, 3, [])
abbrev xd_112 : xd_D := (RX8, yX8_init, cX8_init, 1, none, true, 3, [])
abbrev xd_113 : xd_D := (RX8, yX8_netByRule, cX8_netByRule, 2, (some .int), false, 3, [])
abbrev xd_114 : xd_D := (RX8, yX8_ordered, cX8_ordered, 2, (some (.object "TingDecks$Orders")), false, 3, [])
abbrev xd_115 : xd_D := (RX8, yX8_reckonedChances, cX8_reckonedChances, 4, (some (.object "TingDecks$Chances")), false, 3, [])
abbrev xd_116 : xd_D := (RX8, yX8_walked, cX8_walked, 1, (some (.object "TingDecks$Trip")), false, 3, [])
abbrev xd_117 : xd_D := (RX8, yX8_week, cX8_week, 9, (some .int), false, 3, [])
abbrev xd_118 : xd_D := (RX9, yX9_bus, cX9_bus, 3, (some .int), false, 3, [])
abbrev xd_119 : xd_D := (RX9, yX9_dodge, cX9_dodge, 7, (some .int), false, 3, [])
abbrev xd_120 : xd_D := (RX9, yX9_fits, cX9_fits, 6, (some .int), false, 3, [])
abbrev xd_121 : xd_D := (RX9, yX9_game, cX9_game, 14, (some .int), false, 3, [])
abbrev xd_122 : xd_D := (RX9, yX9_head, cX9_head, 4, (some .int), false, 3, [])
abbrev xd_123 : xd_D := (RX9, yX9_hold, cX9_hold, 4, (some .int), false, 3, [])
abbrev xd_124 : xd_D := (RX9, yX9_likely, cX9_likely, 3, (some .long), false, 3, [])
abbrev xd_125 : xd_D := (RX9, yX9_most, cX9_most, 5, (some .int), false, 3, [])
abbrev xd_126 : xd_D := (RX9, yX9_paid, cX9_paid, 3, (some .int), false, 3, [])
abbrev xd_127 : xd_D := (RX9, yX9_rider, cX9_rider, 3, (some .int), false, 3, [])
abbrev xd_128 : xd_D := (RX9, yX9_runs, cX9_runs, 7, none, false, 3, [])
abbrev xd_129 : xd_D := (RX9, yX9_sit, cX9_sit, 5, (some .int), false, 3, [])
abbrev xd_130 : xd_D := (RX9, yX9_stop, cX9_stop, 5, (some .int), false, 3, [])
abbrev xd_131 : xd_D := (RX9, yX9_way, cX9_way, 3, (some .int), false, 3, [])
abbrev xd_132 : xd_D := (RX9, yX9_worth, cX9_worth, 2, (some .int), false, 3, [])
abbrev xd_133 : xd_D := (RL, yL_bell, cL_bell, 5, (some .int), false, 4, [(0, 10, 13, 18)])
abbrev xd_134 : xd_D := (RL, yL_week, cL_week, 6, (some .int), false, 4, [(0, 12, 15, 18), (0, 12, 19, 13)])
abbrev xd_135 : xd_D := (RX8, yX8_again, cX8_again, 7, (some .int), false, 4, [])
abbrev xd_136 : xd_D := (RX8, yX8_best, cX8_best, 5, (some .int), false, 4, [])
abbrev xd_137 : xd_D := (RX8, yX8_bus, cX8_bus, 4, (some .int), false, 4, [])
abbrev xd_138 : xd_D := (RX8, yX8_compare, cX8_compare, 2, (some .int), false, 4, [])
abbrev xd_139 : xd_D := (RX8, yX8_count, cX8_count, 2, (some .int), false, 4, [])
abbrev xd_140 : xd_D := (RX8, yX8_door, cX8_door, 4, (some .int), false, 4, [])
abbrev xd_141 : xd_D := (RX8, yX8_fits, cX8_fits, 8, (some .int), false, 4, [])
abbrev xd_142 : xd_D := (RX8, yX8_flat, cX8_flat, 3, (some .int), false, 4, [])
abbrev xd_143 : xd_D := (RX8, yX8_hops, cX8_hops, 5, (some .int), false, 4, [])
abbrev xd_144 : xd_D := (RX8, yX8_mean, cX8_mean, 3, (some .long), false, 4, [])
abbrev xd_145 : xd_D := (RX8, yX8_most, cX8_most, 3, (some .int), false, 4, [])
abbrev xd_146 : xd_D := (RX8, yX8_pace, cX8_pace, 3, (some .int), false, 4, [])
abbrev xd_147 : xd_D := (RX8, yX8_soonest, cX8_soonest, 2, (some .int), false, 4, [])
abbrev xd_148 : xd_D := (RX8, yX8_stop, cX8_stop, 3, (some .int), false, 4, [])
abbrev xd_149 : xd_D := (RX8, yX8_ting, cX8_ting, 3, (some .int), false, 4, [])
abbrev xd_150 : xd_D := (RX8, yX8_two, cX8_two, 4, (some .int), false, 4, [])
abbrev xd_151 : xd_D := (RX8, yX8_walk, cX8_walk, 3, (some .int), false, 4, [])
abbrev xd_152 : xd_D := (RX8, yX8_where, cX8_where, 3, (some .int), false, 4, [])
abbrev xd_153 : xd_D := (RX9, yX9_again, cX9_again, 5, (some .int), false, 4, [])
abbrev xd_154 : xd_D := (RX9, yX9_hops, cX9_hops, 4, (some .int), false, 4, [])
abbrev xd_155 : xd_D := (RX9, yX9_takenOf, cX9_takenOf, 2, (some .int), false, 4, [])
abbrev xd_156 : xd_D := (RX9, yX9_ting, cX9_ting, 2, (some .int), false, 4, [])
abbrev xd_157 : xd_D := (RX9, yX9_walk, cX9_walk, 4, (some .int), false, 4, [])
abbrev xd_158 : xd_D := (RX9, yX9_where, cX9_where, 4, (some .int), false, 4, [])
abbrev xd_159 : xd_D := (RL, yL_again, cL_again, 4, (some .int), false, 5, [(0, 9, 12, 18)])
abbrev xd_160 : xd_D := (RL, yL_bus, cL_bus, 4, (some .int), false, 5, [(0, 9, 12, 13)])
abbrev xd_161 : xd_D := (RL, yL_compare, cL_compare, 4, (some .int), false, 5, [(0, 9, 12, 18)])
abbrev xd_162 : xd_D := (RL, yL_count, cL_count, 4, (some .int), false, 5, [(0, 9, 12, 18)])
abbrev xd_163 : xd_D := (RL, yL_door, cL_door, 4, (some .int), false, 5, [(0, 9, 12, 18)])
abbrev xd_164 : xd_D := (RL, yL_fits, cL_fits, 4, (some .int), false, 5, [(0, 9, 12, 18)])
abbrev xd_165 : xd_D := (RL, yL_hops, cL_hops, 4, (some .int), false, 5, [(0, 9, 12, 13)])
abbrev xd_166 : xd_D := (RL, yL_mean, cL_mean, 4, (some .int), false, 5, [(0, 8, 11, 18)])
abbrev xd_167 : xd_D := (RL, yL_most, cL_most, 4, (some .int), false, 5, [(0, 9, 12, 18)])
abbrev xd_168 : xd_D := (RL, yL_soonest, cL_soonest, 4, (some .int), false, 5, [(0, 9, 12, 13)])
abbrev xd_169 : xd_D := (RL, yL_stop, cL_stop, 5, (some .int), false, 5, [(0, 10, 13, 18)])
abbrev xd_170 : xd_D := (RL, yL_ting, cL_ting, 4, (some .int), false, 5, [(0, 9, 12, 18)])
abbrev xd_171 : xd_D := (RL, yL_two, cL_two, 4, (some .int), false, 5, [(0, 9, 12, 18)])
abbrev xd_172 : xd_D := (RL, yL_walk, cL_walk, 4, (some .int), false, 5, [(0, 9, 12, 18)])
abbrev xd_173 : xd_D := (RL, yL_where, cL_where, 4, (some .int), false, 5, [(0, 9, 12, 13)])
abbrev xd_174 : xd_D := (RX9, yX9_taken, cX9_taken, 1, (some .int), false, 5, [])
abbrev xd_175 : xd_D := (RX9, yX9_week, cX9_week, 10, (some .int), false, 5, [])
abbrev xd_176 : xd_D := (RX9, yX9_weighs, cX9_weighs, 10, (some .long), false, 5, [])
abbrev xd_177 : xd_D := (RX9, yX9_door, cX9_door, 6, (some .int), false, 6, [])
abbrev xd_178 : xd_D := (RX9, yX9_flat, cX9_flat, 4, (some .int), false, 6, [])
abbrev xd_179 : xd_D := (RX9, yX9_mean, cX9_mean, 2, (some .long), false, 6, [])
abbrev xd_180 : xd_D := (RX9, yX9_net, cX9_net, 1, (some .int), false, 6, [])
abbrev xd_181 : xd_D := (RX9, yX9_pace, cX9_pace, 5, (some .int), false, 6, [])
abbrev xd_182 : xd_D := (RX9, yX9_two, cX9_two, 3, (some .int), false, 6, [])
abbrev xd_183 : xd_D := (RX9, yX9_bell, cX9_bell, 8, (some .int), false, 7, [])
abbrev xd_184 : xd_D := (RX9, yX9_count, cX9_count, 2, (some .int), false, 7, [])
abbrev xd_185 : xd_D := (RX9, yX9_netBy, cX9_netBy, 4, (some .int), false, 7, [])
abbrev xd_186 : xd_D := (RX9, yX9_compare, cX9_compare, 2, (some .int), false, 8, [])
abbrev xd_187 : xd_D := (RL, yL_law, cL_law, 8, (some .boolean), false, 9, [])
def xd_P : List xd_D := [xd_0, xd_1, xd_2, xd_3, xd_4, xd_5, xd_6, xd_7, xd_8, xd_9, xd_10, xd_11, xd_12, xd_13, xd_14, xd_15, xd_16, xd_17, xd_18, xd_19, xd_20, xd_21, xd_22, xd_23, xd_24, xd_25, xd_26, xd_27, xd_28, xd_29, xd_30, xd_31, xd_32, xd_33, xd_34, xd_35, xd_36, xd_37, xd_38, xd_39, xd_40, xd_41, xd_42, xd_43, xd_44, xd_45, xd_46, xd_47, xd_48, xd_49, xd_50, xd_51, xd_52, xd_53, xd_54, xd_55, xd_56, xd_57, xd_58, xd_59, xd_60, xd_61, xd_62, xd_63, xd_64, xd_65, xd_66, xd_67, xd_68, xd_69, xd_70, xd_71, xd_72, xd_73, xd_74, xd_75, xd_76, xd_77, xd_78, xd_79, xd_80, xd_81, xd_82, xd_83, xd_84, xd_85, xd_86, xd_87, xd_88, xd_89, xd_90, xd_91, xd_92, xd_93, xd_94, xd_95, xd_96, xd_97, xd_98, xd_99, xd_100, xd_101, xd_102, xd_103, xd_104, xd_105, xd_106, xd_107, xd_108, xd_109, xd_110, xd_111, xd_112, xd_113, xd_114, xd_115, xd_116, xd_117, xd_118, xd_119, xd_120, xd_121, xd_122, xd_123, xd_124, xd_125, xd_126, xd_127, xd_128, xd_129, xd_130, xd_131, xd_132, xd_133, xd_134, xd_135, xd_136, xd_137, xd_138, xd_139, xd_140, xd_141, xd_142, xd_143, xd_144, xd_145, xd_146, xd_147, xd_148, xd_149, xd_150, xd_151, xd_152, xd_153, xd_154, xd_155, xd_156, xd_157, xd_158, xd_159, xd_160, xd_161, xd_162, xd_163, xd_164, xd_165, xd_166, xd_167, xd_168, xd_169, xd_170, xd_171, xd_172, xd_173, xd_174, xd_175, xd_176, xd_177, xd_178, xd_179, xd_180, xd_181, xd_182, xd_183, xd_184, xd_185, xd_186, xd_187]
def xe_P : List xe_M := [xm_0, xm_1, xm_2, xm_3, xm_4, xm_5, xm_6, xm_7, xm_8, xm_9, xm_10, xm_11, xm_12, xm_13, xm_14, xm_15, xm_16, xm_17, xm_18, xm_19, xm_20, xm_21, xm_22, xm_23, xm_24, xm_25, xm_26, xm_27, xm_28, xm_29, xm_30, xm_31, xm_32, xm_33, xm_34, xm_35, xm_36, xm_37, xm_38, xm_39, xm_40, xm_41, xm_42, xm_43, xm_44, xm_45, xm_46, xm_47, xm_48, xm_49, xm_50, xm_51, xm_52, xm_53, xm_54, xm_55, xm_56, xm_57, xm_58, xm_59, xm_60, xm_61, xm_62, xm_63, xm_64, xm_65, xm_66, xm_67, xm_68, xm_69, xm_70, xm_71, xm_72, xm_73, xm_74, xm_75, xm_76, xm_77, xm_78, xm_79, xm_80, xm_81, xm_82, xm_83, xm_84, xm_85, xm_86, xm_87, xm_88, xm_89, xm_90, xm_91, xm_92, xm_93, xm_94, xm_95, xm_96, xm_97, xm_98, xm_99, xm_100, xm_101, xm_102, xm_103, xm_104, xm_105, xm_106, xm_107, xm_108, xm_109, xm_110, xm_111, xm_112, xm_113, xm_114, xm_115, xm_116, xm_117, xm_118, xm_119, xm_120, xm_121, xm_122, xm_123, xm_124, xm_125, xm_126, xm_127, xm_128, xm_129, xm_130, xm_131, xm_132, xm_133, xm_134, xm_135, xm_136, xm_137, xm_138, xm_139, xm_140, xm_141, xm_142, xm_143, xm_144, xm_145, xm_146, xm_147, xm_148, xm_149, xm_150, xm_151, xm_152, xm_153, xm_154, xm_155, xm_156, xm_157, xm_158, xm_159, xm_160, xm_161, xm_162, xm_163, xm_164, xm_165, xm_166, xm_167, xm_168, xm_169, xm_170, xm_171, xm_172, xm_173, xm_174, xm_175, xm_176, xm_177, xm_178, xm_179, xm_180, xm_181, xm_182, xm_183, xm_184, xm_185, xm_186, xm_187]
def xe_Z : List (List Value) := [[.null, .null, .null, .null, .null, .null, .null, .null, .null, .int 0, .int 0, .int 0, .int 0, .int 0], [.null, .null, .int 0, .int 0, .long 0, .long 0], [.null, .int 0, .int 0, .int 0], [.null, .null, .int 0, .int 0, .int 0, .int 0], [.null, .null], [.null, .null, .null, .null, .null, .null, .null, .null, .int 0, .int 0, .int 0], [.null, .int 0, .int 0, .int 0, .int 0, .int 0], [.null, .null, .null, .null, .null, .int 0, .int 0, .int 0, .int 0, .null, .null, .null, .null, .int 0, .int 0, .int 0, .int 0, .int 0, .int 0, .int 0, .int 0], [.null, .null, .null, .null, .null, .null, .null, .null, .null, .null, .null, .int 0, .int 0, .int 0, .int 0, .int 0, .int 0], [.int 0, .int 0, .int 0, .int 0, .int 0, .int 0, .int 0, .int 0, .int 0, .int 0, .null, .null, .null, .null, .null, .null, .null, .null, .int 0, .int 0, .int 0, .null, .int 0, .int 0, .int 0, .int 0, .int 0, .int 0, .int 0, .long 0, .int 0, .int 0, .int 0, .int 0, .int 0, .int 0, .int 0, .int 0, .int 0, .null, .null, .null, .null, .null, .null, .null, .null, .null, .null, .null, .null, .int 0, .null, .null, .null, .int 0, .null, .null, .null, .null, .null, .null, .null, .int 0, .int 0, .int 0, .int 0, .int 0, .int 0, .int 0, .null, .null, .int 0, .int 0, .int 0, .null, .int 0, .int 0, .int 0, .int 0, .null, .null, .null]]
end
section
/-! what the abstract values and cells stand for -/
def xs_v (ad : Nat → Nat) (sa : UInt32 → Nat) (ρ : Nat → Int32) (v : Value) : Value := match v with
  | .ref k => .ref (ad k)
  | .retAddr u => .int (ρ u)
  | .float u => .ref (sa u)
  | .int x => .int x
  | .long x => .long x
  | .double x => .double x
  | .null => .null
def xs_i (ρ : Nat → Int32) (v : Value) : Int32 := match v with
  | .int x => x
  | .retAddr u => ρ u
  | _ => 0
def xs_l (v : Value) : Int64 := match v with
  | .long x => x
  | _ => 0
noncomputable def xs_c (ad : Nat → Nat) (sa : UInt32 → Nat) (ρ : Nat → Int32) (dA : Nat → ClassId) (c : xe_C) : va_E := match c with
  | .inl q => .inl (dA q.1, q.2.1, bif Nat.beq q.1 2 then .inr (.inl (fun j => xs_l (xe_get 2 q.2.2 j))) else .inl (fun j => xs_i ρ (xe_get q.1 q.2.2 j)))
  | .inr o => .inr (o.1, o.2.map (xs_v ad sa ρ))
noncomputable def xs_w (ad : Nat → Nat) (sa : UInt32 → Nat) (ρ : Nat → Int32) (dA : Nat → ClassId) (w : xe_W) : va_W := w.mapIdx (fun k c => (ad k, xs_c ad sa ρ dA c))
theorem xs_nbeq {a b : Nat} (h : a ≠ b) : Nat.beq a b = false := by
  cases hb : Nat.beq a b with
  | true => exact absurd (Nat.eq_of_beq_eq_true hb) h
  | false => rfl
theorem xe_nth_eq {α : Type} (l : List α) : ∀ k, xe_nth l k = l[k]? := by
  induction l with
  | nil => intro k; rfl
  | cons a t ih =>
    intro k
    cases k with
    | zero => rfl
    | succ k => exact (ih k).trans (by simp)
theorem xe_set_eq {α : Type} (l : List α) (v : α) : ∀ k, xe_set l v k = l.set k v := by
  induction l with
  | nil => intro k; rfl
  | cons a t ih =>
    intro k
    cases k with
    | zero => rfl
    | succ k => exact congrArg (a :: ·) (ih k)
theorem xe_flt_eq (p : Nat × Value → Bool) (l : List (Nat × Value)) : xe_flt p l = l.filter p := by
  induction l with
  | nil => rfl
  | cons a t ih =>
    show (bif p a then a :: xe_flt p t else xe_flt p t) = _
    rw [ih, List.filter_cons]
    cases p a <;> rfl
theorem xe_look_cons (a : Nat × Value) (t : List (Nat × Value)) (i : Nat) : xe_look (a :: t) i = bif Nat.beq a.1 i then some a.2 else xe_look t i := rfl
theorem xe_look_mem {l : List (Nat × Value)} {i : Nat} {v : Value} (h : xe_look l i = some v) : (i, v) ∈ l := by
  induction l with
  | nil => cases h
  | cons a t ih =>
    rw [xe_look_cons] at h
    cases hb : Nat.beq a.1 i with
    | true =>
      rw [hb] at h
      have e1 : a.1 = i := Nat.eq_of_beq_eq_true hb
      have e2 : a.2 = v := Option.some.inj h
      rw [← e1, ← e2]
      exact List.mem_cons_self
    | false =>
      rw [hb] at h
      exact List.mem_cons_of_mem _ (ih h)
theorem xe_look_del (l : List (Nat × Value)) (k j : Nat) : xe_look (xe_flt (fun q => !(Nat.beq q.1 k)) l) j = if j = k then none else xe_look l j := by
  induction l with
  | nil => show none = _; split <;> rfl
  | cons a t ih =>
    show xe_look (bif !(Nat.beq a.1 k) then a :: xe_flt _ t else xe_flt _ t) j = _
    cases hb : Nat.beq a.1 k with
    | true =>
      have e1 : a.1 = k := Nat.eq_of_beq_eq_true hb
      show xe_look (xe_flt _ t) j = _
      rw [ih, xe_look_cons]
      by_cases hj : j = k
      · rw [if_pos hj, if_pos hj]
      · rw [if_neg hj, if_neg hj, show Nat.beq a.1 j = false from by rw [e1]; exact xs_nbeq (Ne.symm hj)]
        rfl
    | false =>
      show xe_look (a :: xe_flt _ t) j = _
      rw [xe_look_cons, ih, xe_look_cons]
      by_cases hj : j = k
      · rw [if_pos hj, if_pos hj, hj, hb]; rfl
      · rw [if_neg hj, if_neg hj]
theorem xe_get_put (ty : Nat) (sp : List (Nat × Value)) (k : Nat) (v : Value) (j : Nat) : xe_get ty (xe_put ty sp k v) j = if j = k then v else xe_get ty sp j := by
  unfold xe_put
  by_cases h : xe_get ty sp k = v
  · rw [if_pos h]
    by_cases hj : j = k
    · rw [if_pos hj, hj, h]
    · rw [if_neg hj]
  · rw [if_neg h]
    unfold xe_get
    rw [xe_look_cons]
    by_cases hj : j = k
    · rw [if_pos hj, show Nat.beq (k, v).1 j = true from by rw [hj]; exact Nat.beq_refl k]
      rfl
    · rw [if_neg hj, show Nat.beq (k, v).1 j = false from xs_nbeq (Ne.symm hj), xe_look_del, if_neg hj]
      rfl
theorem xe_mk_eq (x : Int32) : xe_mk x = .int x := by
  unfold xe_mk
  have h : ∀ n : Nat, x.toBitVec.toNat = n → Nat.rec (motive := fun _ => Value) (.int 0) (fun n _ => .int (Int32.ofNat (n + 1))) n = Value.int x := by
    intro n hn
    have e : Int32.ofNat n = x := by
      rw [← hn]
      apply Int32.toBitVec_inj.mp
      simp
    cases n with
    | zero => exact congrArg Value.int e
    | succ n => exact congrArg Value.int e
  exact h _ rfl
theorem xe_mkL_eq (x : Int64) : xe_mkL x = .long x := by
  unfold xe_mkL
  have h : ∀ n : Nat, x.toBitVec.toNat = n → Nat.rec (motive := fun _ => Value) (.long 0) (fun n _ => .long (Int64.ofNat (n + 1))) n = Value.long x := by
    intro n hn
    have e : Int64.ofNat n = x := by
      rw [← hn]
      apply Int64.toBitVec_inj.mp
      simp
    cases n with
    | zero => exact congrArg Value.long e
    | succ n => exact congrArg Value.long e
  exact h _ rfl
theorem xs_cat (ad : Nat → Nat) (sa : UInt32 → Nat) (ρ : Nat → Int32) (v : Value) : (xs_v ad sa ρ v).category = v.category := by cases v <;> rfl
theorem xs_num {ad : Nat → Nat} {sa : UInt32 → Nat} {ρ : Nat → Int32} {v : Value} (h : xe_kd 0 v = true) : xs_v ad sa ρ v = .int (xs_i ρ v) := by
  cases v <;> first | rfl | cases h
theorem xs_ref {ad : Nat → Nat} {sa : UInt32 → Nat} {ρ : Nat → Int32} {v : Value} (h : xe_kd 1 v = true) : ∃ a, xs_v ad sa ρ v = .ref a := by
  cases v <;> first | exact ⟨_, rfl⟩ | cases h
theorem xs_lng {ad : Nat → Nat} {sa : UInt32 → Nat} {ρ : Nat → Int32} {v : Value} (h : xe_kd 2 v = true) : xs_v ad sa ρ v = .long (xs_l v) := by
  cases v <;> first | rfl | cases h
theorem xs_c1 {ad : Nat → Nat} {sa : UInt32 → Nat} {ρ : Nat → Int32} {v : Value} (h : xe_c1 v = true) : (xs_v ad sa ρ v).category = 1 := by
  cases v <;> first | rfl | cases h
theorem xs_w_get (ad : Nat → Nat) (sa : UInt32 → Nat) (ρ : Nat → Int32) (dA : Nat → ClassId) {w : xe_W} {k : Nat} {c : xe_C} (h : w[k]? = some c) : (xs_w ad sa ρ dA w)[k]? = some (ad k, xs_c ad sa ρ dA c) := by
  unfold xs_w
  rw [List.getElem?_mapIdx, h]
  rfl
theorem xs_w_set (ad : Nat → Nat) (sa : UInt32 → Nat) (ρ : Nat → Int32) (dA : Nat → ClassId) (w : xe_W) (k : Nat) (c : xe_C) : (xs_w ad sa ρ dA w).set k (ad k, xs_c ad sa ρ dA c) = xs_w ad sa ρ dA (w.set k c) := by
  unfold xs_w
  apply List.ext_getElem?
  intro j
  rw [List.getElem?_set, List.getElem?_mapIdx, List.getElem?_mapIdx, List.getElem?_set, List.length_mapIdx]
  by_cases h : k = j
  · subst h
    by_cases h2 : k < w.length
    · simp [h2]
    · simp [h2]
  · simp [h]
/-- addresses: nothing known of old cells changes -/
def xs_ag (mc n : Nat) (ad ad' : Nat → Nat) : Prop := (mc = 0 → ad' = ad) ∧ ∀ k, k < n → ad' k = ad k
theorem xs_ag_rf (mc n : Nat) (ad : Nat → Nat) : xs_ag mc n ad ad := ⟨fun _ => rfl, fun _ _ => rfl⟩
theorem xs_okv {n : Nat} {ad ad' : Nat → Nat} {sa : UInt32 → Nat} {ρ : Nat → Int32} (h : ∀ k, k < n → ad' k = ad k) {v : Value} (hv : xe_okv n v = true) : xs_v ad' sa ρ v = xs_v ad sa ρ v := by
  cases v <;> first | rfl | (show Value.ref (ad' _) = .ref (ad _); rw [h _ (Nat.ble_eq.mp hv)])
theorem xs_okS {n : Nat} {ad ad' : Nat → Nat} {sa : UInt32 → Nat} {ρ : Nat → Int32} (h : ∀ k, k < n → ad' k = ad k) {l : List Value} (hv : xe_okS n l = true) : l.map (xs_v ad' sa ρ) = l.map (xs_v ad sa ρ) := by
  induction l with
  | nil => rfl
  | cons a t ih =>
    have hv : (xe_okv n a && xe_okS n t) = true := hv
    rw [Bool.and_eq_true] at hv
    rw [List.map_cons, List.map_cons, xs_okv h hv.1, ih hv.2]
theorem xs_okA {n : Nat} {ad ad' : Nat → Nat} {sa : UInt32 → Nat} {ρ : Nat → Int32} (h : ∀ k, k < n → ad' k = ad k) {l : List (Nat × Value)} (hv : xe_okA n l = true) : l.map (fun q => (q.1, xs_v ad' sa ρ q.2)) = l.map (fun q => (q.1, xs_v ad sa ρ q.2)) := by
  induction l with
  | nil => rfl
  | cons a t ih =>
    have hv : (xe_okv n a.2 && xe_okA n t) = true := hv
    rw [Bool.and_eq_true] at hv
    rw [List.map_cons, List.map_cons, xs_okv h hv.1, ih hv.2]
theorem xs_okC {n : Nat} {ad ad' : Nat → Nat} {sa : UInt32 → Nat} {ρ : Nat → Int32} {dA : Nat → ClassId} (h : ∀ k, k < n → ad' k = ad k) {c : xe_C} (hv : xe_okC n c = true) : xs_c ad' sa ρ dA c = xs_c ad sa ρ dA c := by
  cases c with
  | inl q => rfl
  | inr o =>
    show Sum.inr (o.1, o.2.map _) = Sum.inr (o.1, o.2.map _)
    rw [xs_okS h hv]
theorem xs_okW_at {n : Nat} {w : xe_W} (hv : xe_okW n w = true) {k : Nat} {c : xe_C} (hk : w[k]? = some c) : xe_okC n c = true := by
  induction w generalizing k with
  | nil => simp at hk
  | cons a t ih =>
    have hv : (xe_okC n a && xe_okW n t) = true := hv
    rw [Bool.and_eq_true] at hv
    cases k with
    | zero =>
      have e : a = c := by simpa using hk
      rw [← e]; exact hv.1
    | succ k => exact ih hv.2 (by simpa using hk)
theorem xs_w_push (ad : Nat → Nat) (sa : UInt32 → Nat) (ρ : Nat → Int32) (dA : Nat → ClassId) {w : xe_W} (c : xe_C) (q : Nat) (hv : xe_okW w.length w = true) :
    xs_w (fun k => if k = w.length then q else ad k) sa ρ dA (w ++ [c]) = xs_w ad sa ρ dA w ++ [(q, xs_c (fun k => if k = w.length then q else ad k) sa ρ dA c)] := by
  unfold xs_w
  apply List.ext_getElem?
  intro j
  rw [List.getElem?_mapIdx]
  rcases Nat.lt_trichotomy j w.length with h | h | h
  · rw [List.getElem?_append_left h, List.getElem?_append_left (by rw [List.length_mapIdx]; exact h), List.getElem?_mapIdx]
    cases hj : w[j]? with
    | none => rfl
    | some c2 =>
      show some ((if j = w.length then q else ad j), xs_c (fun k => if k = w.length then q else ad k) sa ρ dA c2) = some (ad j, xs_c ad sa ρ dA c2)
      rw [if_neg (Nat.ne_of_lt h), xs_okC (n := w.length) (fun k hk => if_neg (Nat.ne_of_lt hk)) (xs_okW_at hv hj)]
  · subst h
    rw [List.getElem?_append_right (Nat.le_refl _), List.getElem?_append_right (by rw [List.length_mapIdx]; exact Nat.le_refl _), List.length_mapIdx]
    simp
  · rw [List.getElem?_eq_none (by rw [List.length_append]; show w.length + 1 ≤ j; omega), List.getElem?_eq_none (by rw [List.length_append, List.length_mapIdx]; show w.length + 1 ≤ j; omega)]
    rfl
theorem xs_w_len (ad : Nat → Nat) (sa : UInt32 → Nat) (ρ : Nat → Int32) (dA : Nat → ClassId) (w : xe_W) : (xs_w ad sa ρ dA w).length = w.length := by
  unfold xs_w
  rw [List.length_mapIdx]
/-- locals, as the rows of the kit keep them -/
def xs_al (ad : Nat → Nat) (sa : UInt32 → Nat) (ρ : Nat → Int32) (al : List (Nat × Value)) : List (Nat × Value) := al.map (fun q => (q.1, xs_v ad sa ρ q.2))
theorem xs_beq (a b : Nat) : (a == b) = Nat.beq a b := by
  cases h : Nat.beq a b with
  | true => rw [Nat.eq_of_beq_eq_true h]; exact beq_self_eq_true b
  | false => exact beq_eq_false_iff_ne.mpr (Nat.ne_of_beq_eq_false h)
theorem xs_al_s1 (ad : Nat → Nat) (sa : UInt32 → Nat) (ρ : Nat → Int32) (al : List (Nat × Value)) (i : Nat) (v : Value) : (i, xs_v ad sa ρ v) :: (xs_al ad sa ρ al).filter (fun q => !(q.1 == i) && !(q.1 + 1 == i && q.2.category == 2)) = xs_al ad sa ρ (xe_s1 al i v) := by
  unfold xe_s1 xs_al
  rw [xe_flt_eq, List.map_cons, List.filter_map]
  congr 2
  apply List.filter_congr
  intro q hq
  show (!(q.1 == i) && !(q.1 + 1 == i && (xs_v ad sa ρ q.2).category == 2)) = _
  rw [xs_cat]
  simp only [xs_beq]
theorem xs_al_s2 (ad : Nat → Nat) (sa : UInt32 → Nat) (ρ : Nat → Int32) (al : List (Nat × Value)) (i : Nat) (v : Value) : (i, xs_v ad sa ρ v) :: (xs_al ad sa ρ al).filter (fun q => !(q.1 == i) && (!(q.1 == i + 1) && !(q.1 + 1 == i && q.2.category == 2))) = xs_al ad sa ρ (xe_s2 al i v) := by
  unfold xe_s2 xs_al
  rw [xe_flt_eq, List.map_cons, List.filter_map]
  congr 2
  apply List.filter_congr
  intro q hq
  show (!(q.1 == i) && (!(q.1 == i + 1) && !(q.1 + 1 == i && (xs_v ad sa ρ q.2).category == 2))) = _
  rw [xs_cat]
  simp only [xs_beq]
theorem xs_al_mem {ad : Nat → Nat} {sa : UInt32 → Nat} {ρ : Nat → Int32} {al : List (Nat × Value)} {i : Nat} {v : Value} (h : xe_look al i = some v) : (i, xs_v ad sa ρ v) ∈ xs_al ad sa ρ al := List.mem_map.mpr ⟨(i, v), xe_look_mem h, rfl⟩
/-- comparisons -/
theorem xe_bi_lt (x y : Int32) : xe_bi x < xe_bi y ↔ x < y := by
  rw [Int32.lt_iff_toInt_lt]
  unfold xe_bi
  have e : ∀ z : Int32, z.toInt = if 2 * z.toBitVec.toNat < 2 ^ 32 then (z.toBitVec.toNat : Int) else (z.toBitVec.toNat : Int) - ((2 ^ 32 : Nat) : Int) := fun z => BitVec.toInt_eq_toNat_cond z.toBitVec
  have hx := x.toBitVec.isLt
  have hy := y.toBitVec.isLt
  rw [e x, e y]
  split <;> split <;> omega
theorem xe_bi_inj (x y : Int32) : xe_bi x = xe_bi y ↔ x = y := by
  constructor
  · intro h
    have h1 : ¬ x < y := fun q => by have := (xe_bi_lt x y).mpr q; omega
    have h2 : ¬ y < x := fun q => by have := (xe_bi_lt y x).mpr q; omega
    rw [Int32.lt_iff_toInt_lt] at h1 h2
    exact Int32.toInt_inj.mp (by omega)
  · intro h; rw [h]
end
section
theorem xk_z0 : ∀ j, j < 14 → defaultValue (tyX0 j) = vp_V (xe_Z.getD 0 []) j := by decide +kernel
theorem xk_z1 : ∀ j, j < 6 → defaultValue (tyX1 j) = vp_V (xe_Z.getD 1 []) j := by decide +kernel
theorem xk_z2 : ∀ j, j < 4 → defaultValue (tyX2 j) = vp_V (xe_Z.getD 2 []) j := by decide +kernel
theorem xk_z3 : ∀ j, j < 6 → defaultValue (tyX3 j) = vp_V (xe_Z.getD 3 []) j := by decide +kernel
theorem xk_z4 : ∀ j, j < 2 → defaultValue (tyX4 j) = vp_V (xe_Z.getD 4 []) j := by decide +kernel
theorem xk_z5 : ∀ j, j < 11 → defaultValue (tyX5 j) = vp_V (xe_Z.getD 5 []) j := by decide +kernel
theorem xk_z6 : ∀ j, j < 6 → defaultValue (tyX6 j) = vp_V (xe_Z.getD 6 []) j := by decide +kernel
theorem xk_z7 : ∀ j, j < 21 → defaultValue (tyX7 j) = vp_V (xe_Z.getD 7 []) j := by decide +kernel
theorem xk_z8 : ∀ j, j < 17 → defaultValue (tyX8 j) = vp_V (xe_Z.getD 8 []) j := by decide +kernel
theorem xk_z9 : ∀ j, j < 83 → defaultValue (tyX9 j) = vp_V (xe_Z.getD 9 []) j := by decide +kernel
/-- what is known of a class of the list -/
def xk_C (ci : Nat) (C : String) (T : u_T) (N : Nat) (ty : Nat → FieldType) : Prop := vwCl[ci]? = some (C, T, N) ∧ (∀ w ∈ u_ws C T N, w ∈ xw_T) ∧ (∀ k, k < N → parseFieldDescriptor (T k).2.2.1 = some (ty k)) ∧ (∀ a, a < N → ∀ b, b < N → a ≠ b → (T a).2.1 ≠ (T b).2.1) ∧ (∀ j, j < N → defaultValue (ty j) = vp_V (xe_Z.getD ci []) j)
theorem xk_cls (ci : Nat) (q : vw_C) (h : vwCl[ci]? = some q) : ∃ ty : Nat → FieldType, xk_C ci q.1 q.2.1 q.2.2 ty := by
  match ci, h with
  | 0, h => cases h; exact ⟨tyX0, rfl, xk_u0, tyX0_ok, nmX0, xk_z0⟩
  | 1, h => cases h; exact ⟨tyX1, rfl, xk_u1, tyX1_ok, nmX1, xk_z1⟩
  | 2, h => cases h; exact ⟨tyX2, rfl, xk_u2, tyX2_ok, nmX2, xk_z2⟩
  | 3, h => cases h; exact ⟨tyX3, rfl, xk_u3, tyX3_ok, nmX3, xk_z3⟩
  | 4, h => cases h; exact ⟨tyX4, rfl, xk_u4, tyX4_ok, nmX4, xk_z4⟩
  | 5, h => cases h; exact ⟨tyX5, rfl, xk_u5, tyX5_ok, nmX5, xk_z5⟩
  | 6, h => cases h; exact ⟨tyX6, rfl, xk_u6, tyX6_ok, nmX6, xk_z6⟩
  | 7, h => cases h; exact ⟨tyX7, rfl, xk_u7, tyX7_ok, nmX7, xk_z7⟩
  | 8, h => cases h; exact ⟨tyX8, rfl, xk_u8, tyX8_ok, nmX8, xk_z8⟩
  | 9, h => cases h; exact ⟨tyX9, rfl, xk_u9, tyX9_ok, nmX9, xk_z9⟩
  | k + 10, h => simp [vwCl] at h
end
section
/-! one instruction: what the evaluator does, the machine does -/
def xs_tys (dA : Nat → ClassId) : List (ClassId × FieldType) := [(dA 0, .byte), (dA 1, .int), (dA 2, .long), (dA 3, .boolean)]
/-- the static row's numbers -/
noncomputable def xs_sf (j : Nat) : Int32 := xs_i (fun _ => 0) (xe_get 1 xe_SF j)
/-- the static row of settings, in a heap -/
def xs_SA (sa : Nat) (A : Nat → Prop) (U : State) (H : Heap) : Prop := va_X sa 5 xs_sf U H ∧ ¬ A sa ∧ ∃ cell : Cell, H[sa]? = some cell ∧ U.vm.findClass "[I" = some cell.cls
theorem xs_SA.kept {sa : Nat} {A : Nat → Prop} {U : State} {H H1 : Heap} (h : xs_SA sa A U H) (hq : ∀ a : Nat, a < H.size → ¬ A a → H1[a]? = H[a]?) : xs_SA sa A U H1 := by
  obtain ⟨h1, h2, cell, h3, h4⟩ := h
  have e := hq sa (Array.getElem?_eq_some_iff.mp h3).1 h2
  exact ⟨h1.kept e, h2, cell, by rw [e]; exact h3, h4⟩
theorem xs_SA.moved {sa : Nat} {A : Nat → Prop} {u U : State} {H : Heap} (hvm : u.vm.Alike U.vm) (h : xs_SA sa A u H) : xs_SA sa A U H := by
  obtain ⟨h1, h2, cell, h3, h4⟩ := h
  exact ⟨h1.moved hvm, h2, cell, h3, by rw [hvm.findClass]; exact h4⟩
theorem xs_SA.narrow {sa : Nat} {A B : Nat → Prop} {U : State} {H : Heap} (h : xs_SA sa A U H) (hAB : ∀ q, B q → A q) : xs_SA sa B U H := ⟨h.1, fun z => h.2.1 (hAB _ z), h.2.2⟩
/-- the script: its length, its numbers by their unknowns -/
def xs_Ls (G : xe_G) (ρ : Nat → Int32) : Nat × (Nat → Int32) := (G.2.2.1.length, fun j => ρ (100 + j))
def xs_X (Ls : Nat × (Nat → Int32)) (sa : UInt32 → Nat) (A : Nat → Prop) (U : State) (H : Heap) : Prop := va_Z "TingDecks" "SETTING_FIRST" "[I" (.ref (sa 0)) A U H ∧ xs_SA (sa 0) A U H ∧ vx_Zq Bundle.tN "UNASSIGNED_STACK" Bundle.steD A U H ∧ vx_Zq Bundle.tN "SUPPRESSED_SENTINEL" Bundle.listD A U H ∧ va_X (sa 1) Ls.1 Ls.2 U H ∧ ¬ A (sa 1)
def xs_Nw (U : State) : Prop := va_Nw (.fieldLinkNest "TingDecks$Bus" 27 "TingDecks" "SETTING_FIRST" "[I" "TingDecks") U ∧ va_Nw (.castable "[I" "java/lang/Cloneable") U ∧ va_Nw (.methodLinkNest "TingDecks" 29 yX5_init "TingDecks") U ∧ va_Nw (.methodLinkNest "TingDecks$Trip" 11 yX4_init "TingDecks") U ∧ va_Nw (.methodLinkNest "TingDecks" 60 yX2_init "TingDecks") U ∧ va_Nw (.methodLinkNest "TingDecks" 67 yX1_init "TingDecks") U ∧ (∀ w ∈ xw_N, va_Nw w U) ∧ (∀ q ∈ xw_Str, ∃ a, vk_R "TingDecks" q.1 q.2 a U) ∧ va_Nc "java/lang/IllegalArgumentException" "java/util/NoSuchElementException" U ∧ va_Nc "java/util/NoSuchElementException" "java/lang/IllegalArgumentException" U
def xs_Rel (D : va_G) (dA : Nat → ClassId) (sa : UInt32 → Nat) (ρ : Nat → Int32) (A : Nat → Prop) (s : State) (nL : Nat) (ad : Nat → Nat) (al : List (Nat × Value)) (w : xe_W) (ls : Array Slot) (H : Heap) (locs : List Loc) : Prop :=
  lv_has ls nL (xs_al ad sa ρ al) ∧ va_P D vwCl (xs_w ad sa ρ dA w) H ∧ va_D A (xs_w ad sa ρ dA w) ∧ va_S A s.heap H locs
def xs_En (Ls : Nat × (Nat → Int32)) (p : Program) (s : State) (m : MethodId) (args : Array Value) (meth : Method) (c : Code) (own : String) (cc : ByteArray) (nL : Nat) (A : Nat → Prop) (D : va_G) (dA : Nat → ClassId) (sa : UInt32 → Nat) (ini : Bool) : Prop :=
  p.tables.exec = Jvm.exec ∧ c.code = cc ∧ c.maxLocals = nL ∧ s.vm.findClass own = some m.cls ∧ (∀ w ∈ xw_T, w.before args s = true) ∧ va_K D vwCl (xs_tys dA) s ∧ (∀ q, s.heap.size ≤ q → A q) ∧ xs_X Ls sa A s s.heap ∧ xs_Nw s ∧ (ini = true → meth.name = "<init>") ∧ meth.locks = false
/-- the unknowns are in their ranges, and their operations give what is said -/
def xs_G (G : xe_G) (ρ : Nat → Int32) : Prop := (∀ u r, xe_rl G.1 u = some r → r.1 ≤ (ρ u).toInt ∧ (ρ u).toInt ≤ r.2) ∧ (∀ op a b v, xe_sd G.2.1 op a b = some v → xe_kd 0 v = true ∧ xs_i ρ v = xe_op op (xs_i ρ a) (xs_i ρ b)) ∧ (∀ u ∈ G.2.2.2, vp_nar .byte (ρ u) = ρ u) ∧ ∀ j v, G.2.2.1[j]? = some v → xe_kd 0 v = true ∧ xs_i ρ v = ρ (100 + j)
/-- of which kind a field's type is -/
def xk_tc (tc : Nat) (ty : FieldType) : Prop := (tc = 0 ∧ ty = .int) ∨ (tc = 1 ∧ ty = .boolean) ∨ (tc = 2 ∧ ty = .long) ∨ (tc = 3 ∧ ((∃ n, ty = .object n) ∨ ∃ t, ty = .array t))
/-- an instruction's length -/
def xk_ln (i : Instr) (n : Nat) : Nat := match i with
  | .aload _ => 2
  | .iload _ => 2
  | .lload _ => 2
  | .istore _ => 2
  | .astore _ => 2
  | .lstore _ => 2
  | .bipush _ => 2
  | .sipush _ => 3
  | .ldc _ => 2
  | .ldc_w _ => 3
  | .iinc _ _ => 3
  | .goto _ => 3
  | .ifCond _ _ => 3
  | .if_icmp _ _ => 3
  | .getfield _ => 3
  | .putfield _ => 3
  | .getstatic _ => 3
  | .newarray _ => 2
  | .new _ => 3
  | .tableswitch _ _ _ _ => n
  | _ => 1
def xk_L (own : String) (nL : Nat) (ini : Bool) (i : Instr) (res : List Nat) : Prop := match i, res with
  | .getfield idx, [10, ci, k] => ∃ (C : String) (T : u_T) (N : Nat) (ty : Nat → FieldType), xk_C ci C T N ty ∧ k < N ∧ Cond.fieldLink own idx (T k).1 (T k).2.1 (T k).2.2.1 ∈ xw_T
  | .putfield idx, [11, ci, k, tc, _] => ∃ (C : String) (T : u_T) (N : Nat) (ty : Nat → FieldType), xk_C ci C T N ty ∧ k < N ∧ Cond.fieldLink own idx (T k).1 (T k).2.1 (T k).2.2.1 ∈ xw_T ∧ xk_tc tc (ty k) ∧ ((T k).2.2.2 = false ∨ ((T k).2.2.2 = true ∧ (T k).1 = own ∧ ini = true))
  | .new idx, [12, ci, n] => ∃ (C : String) (T : u_T) (ty : Nat → FieldType), xk_C ci C T n ty ∧ Cond.classLink own idx C ∈ xw_T ∧ Cond.instantiable C n ∈ xw_T ∧ Cond.initialized C ∈ xw_T
  | .ldc idx, [13, n] => Cond.constant own idx (Int32.ofNat n) ∈ xw_T
  | .ldc_w idx, [13, n] => Cond.constant own idx (Int32.ofNat n) ∈ xw_T
  | .getstatic idx, _ => own = "TingDecks$Bus" ∧ idx = 27
  | .newarray t, _ => Cond.arrayClass (newarray.typeOf t) ∈ xw_T
  | .istore_n k, _ => (k : Nat) < nL
  | .istore k, _ => k < nL
  | .astore_n k, _ => (k : Nat) < nL
  | .astore k, _ => k < nL
  | .lstore_n k, _ => (k : Nat) + 1 < nL
  | .lstore k, _ => k + 1 < nL
  | .iinc k _, _ => k < nL
  | _, _ => True
theorem xs_get_rng {G : xe_G} {ρ : Nat → Int32} (hG : xs_G G ρ) {v : Value} {r : Int × Int} (h : xe_rng G v = some r) : xe_kd 0 v = true ∧ r.1 ≤ (xs_i ρ v).toInt ∧ (xs_i ρ v).toInt ≤ r.2 := by
  cases v with
  | int x =>
    have h : some (x.toInt, x.toInt) = some r := h
    cases h
    exact ⟨rfl, Int.le_refl _, Int.le_refl _⟩
  | retAddr u => exact ⟨rfl, hG.1 u r h⟩
  | _ => cases (show (none : Option (Int × Int)) = some r from h)
/-- what a comparison says -/
def xs_cd (c : ClassFile.Cond) (x y : Int32) : Prop := match c with
  | .lt => x < y
  | .ge => x ≥ y
  | .gt => x > y
  | .le => x ≤ y
  | .eq => x = y
  | .ne => x ≠ y
theorem xs_lt_ok {a b : Int × Int} {x y : Int32} {r : Bool} (ha : a.1 ≤ x.toInt ∧ x.toInt ≤ a.2) (hb : b.1 ≤ y.toInt ∧ y.toInt ≤ b.2) (h : xe_lt a b = some r) : r = true ↔ x < y := by
  unfold xe_lt at h
  rw [Int32.lt_iff_toInt_lt]
  split at h
  · cases h; simp; omega
  · split at h
    · cases h; simp; omega
    · cases h
theorem xs_eq_ok {a b : Int × Int} {x y : Int32} {r : Bool} (ha : a.1 ≤ x.toInt ∧ x.toInt ≤ a.2) (hb : b.1 ≤ y.toInt ∧ y.toInt ≤ b.2) (h : xe_eq a b = some r) : r = true ↔ x = y := by
  unfold xe_eq at h
  rw [← Int32.toInt_inj]
  split at h
  · cases h; simp; omega
  · split at h
    · cases h; simp; omega
    · cases h
theorem xs_neg_some {o : Option Bool} {r : Bool} (h : xe_neg o = some r) : o = some (!r) := by
  cases o with
  | none => cases h
  | some b =>
    have h : some (!b) = some r := h
    cases h
    simp
theorem xs_cmp_ok {G : xe_G} {ρ : Nat → Int32} (hG : xs_G G ρ) {c : ClassFile.Cond} {a b : Value} {r : Bool} (h : xe_cmp G c a b = some r) : xe_kd 0 a = true ∧ xe_kd 0 b = true ∧ (r = true ↔ xs_cd c (xs_i ρ a) (xs_i ρ b)) := by
  have gen : xe_cmpR G c a b = some r → xe_kd 0 a = true ∧ xe_kd 0 b = true ∧ (r = true ↔ xs_cd c (xs_i ρ a) (xs_i ρ b)) := by
    intro h
    unfold xe_cmpR at h
    split at h
    · next ra rb ea eb =>
      obtain ⟨k1, h1⟩ := xs_get_rng hG ea
      obtain ⟨k2, h2⟩ := xs_get_rng hG eb
      refine ⟨k1, k2, ?_⟩
      cases c with
      | lt => exact xs_lt_ok h1 h2 h
      | gt => exact xs_lt_ok h2 h1 h
      | eq => exact xs_eq_ok h1 h2 h
      | ge =>
        have q := xs_lt_ok h1 h2 (xs_neg_some h)
        show r = true ↔ xs_i ρ b ≤ xs_i ρ a
        rw [← Int32.not_lt, ← q]
        cases r <;> simp
      | le =>
        have q := xs_lt_ok h2 h1 (xs_neg_some h)
        show r = true ↔ xs_i ρ a ≤ xs_i ρ b
        rw [← Int32.not_lt, ← q]
        cases r <;> simp
      | ne =>
        have q := xs_eq_ok h1 h2 (xs_neg_some h)
        show r = true ↔ ¬ (xs_i ρ a = xs_i ρ b)
        rw [← q]
        cases r <;> simp
    · cases h
  unfold xe_cmp at h
  split at h
  · next x y =>
    refine ⟨rfl, rfl, ?_⟩
    have h : some (xe_cmpI c (xe_bi x) (xe_bi y)) = some r := h
    cases h
    show xe_cmpI c (xe_bi x) (xe_bi y) = true ↔ xs_cd c x y
    cases c with
    | lt =>
      show Nat.ble (xe_bi x + 1) (xe_bi y) = true ↔ x < y
      rw [Nat.ble_eq, ← xe_bi_lt]
      exact Iff.rfl
    | gt =>
      show Nat.ble (xe_bi y + 1) (xe_bi x) = true ↔ y < x
      rw [Nat.ble_eq, ← xe_bi_lt]
      exact Iff.rfl
    | ge =>
      show Nat.ble (xe_bi y) (xe_bi x) = true ↔ y ≤ x
      rw [Nat.ble_eq, ← Int32.not_lt, ← xe_bi_lt, Nat.not_lt]
    | le =>
      show Nat.ble (xe_bi x) (xe_bi y) = true ↔ x ≤ y
      rw [Nat.ble_eq, ← Int32.not_lt, ← xe_bi_lt, Nat.not_lt]
    | eq =>
      show Nat.beq (xe_bi x) (xe_bi y) = true ↔ x = y
      rw [← xe_bi_inj, Nat.beq_eq]
    | ne =>
      show (!Nat.beq (xe_bi x) (xe_bi y)) = true ↔ ¬ x = y
      rw [← xe_bi_inj, ← Nat.beq_eq]
      cases Nat.beq (xe_bi x) (xe_bi y) <;> simp
  · exact gen h
theorem xs_bin_ok {G : xe_G} {ρ : Nat → Int32} (hG : xs_G G ρ) {op : Nat} {a b v : Value} (h : xe_bin G op a b = some v) : xe_kd 0 v = true ∧ xs_i ρ v = xe_op op (xs_i ρ a) (xs_i ρ b) := by
  unfold xe_bin at h
  split at h
  · next x y =>
    cases h
    rw [xe_mk_eq]
    exact ⟨rfl, rfl⟩
  · exact hG.2.1 _ _ _ _ h
theorem xs_tgt_ok {pc t : Nat} {off : Int} (h : xe_tgt pc off = some t) : (pc : Int) + off = (t : Int) := by
  unfold xe_tgt at h
  split at h
  · next k e => cases h; exact e
  · cases h
theorem xs_nn_ok {x : Int32} {k : Nat} (h : xe_nn x = some k) : ¬ x < 0 ∧ x.toNatClampNeg = k ∧ x.toInt = (k : Int) := by
  unfold xe_nn at h
  split at h
  · next j e =>
    cases h
    have e : x.toInt = (k : Int) := e
    refine ⟨?_, ?_, e⟩
    · rw [Int32.lt_iff_toInt_lt, e]
      show ¬ (k : Int) < 0
      omega
    · show x.toInt.toNat = k
      rw [e]
      rfl
  · cases h
theorem xs_fit_ok {ad : Nat → Nat} {sa : UInt32 → Nat} {ρ : Nat → Int32} {tc : Nat} {v : Value} {ty : FieldType} (h : xe_fit tc v = true) (ht : xk_tc tc ty) : narrow ty (xs_v ad sa ρ v) = xs_v ad sa ρ v ∧ fits ty (xs_v ad sa ρ v) = true := by
  rcases ht with ⟨rfl, rfl⟩ | ⟨rfl, rfl⟩ | ⟨rfl, rfl⟩ | ⟨rfl, hr⟩
  · rw [xs_num h]; exact ⟨rfl, rfl⟩
  · have h : (decide (v = .int 0) || decide (v = .int 1)) = true := h
    simp only [Bool.or_eq_true, decide_eq_true_eq] at h
    rcases h with rfl | rfl
    · exact ⟨rfl, rfl⟩
    · exact ⟨rfl, rfl⟩
  · rw [xs_lng h]; exact ⟨rfl, rfl⟩
  · obtain ⟨a, e⟩ := xs_ref (ad := ad) (sa := sa) (ρ := ρ) (show xe_kd 1 v = true from h)
    rw [e]
    rcases hr with ⟨n, rfl⟩ | ⟨t, rfl⟩
    · exact ⟨rfl, rfl⟩
    · exact ⟨rfl, rfl⟩
end
section
section
variable {p : Program} {l : Launch} {e : Env} {R : Room} {s : State} {m : MethodId} {args : Array Value} {below : List Frame} {meth : Method} {c : Code} {H : Heap} {locs : List Loc} {Q : State → Prop} {cc : ByteArray} {own : String} {nL : Nat} {A : Nat → Prop} {D : va_G} {dA : Nat → ClassId} {sa : UInt32 → Nat} {ρ : Nat → Int32} {ini : Bool} {G : xe_G} {mc ms pc len nc ns : Nat} {res : List Nat} {al : List (Nat × Value)} {st : List Value} {w : xe_W} {ls : Array Slot} {ad : Nat → Nat} {i : Instr}
/-- what is owed behind an instruction -/
def xs_On (p : Program) (l : Launch) (e : Env) (R : Room) (s : State) (m : MethodId) (args : Array Value) (below : List Frame) (meth : Method) (c : Code) (Q : State → Prop) (nL : Nat) (A : Nat → Prop) (D : va_G) (dA : Nat → ClassId) (sa : UInt32 → Nat) (ρ : Nat → Int32) (mc : Nat) (ad : Nat → Nat) (w : xe_W) (N : xe_N) : Prop :=
  ∀ (ad2 : Nat → Nat) (ls2 : Array Slot) (H2 : Heap) (locs2 : List Loc), xs_ag mc w.length ad ad2 → w.length ≤ N.2.2.2.1.length → xs_Rel D dA sa ρ A s nL ad2 N.2.1 N.2.2.2.1 ls2 H2 locs2 → W p l e R s m args below meth c H2 locs2 N.2.2.2.2.1 N.2.2.2.2.2 Q (F0 m N.1 ls2 (N.2.2.1.map (xs_v ad2 sa ρ)))
theorem xs_on0 {N : xe_N} (kk : xs_On p l e R s m args below meth c Q nL A D dA sa ρ mc ad w N) (hw : N.2.2.2.1 = w) (hR : xs_Rel D dA sa ρ A s nL ad N.2.1 w ls H locs) : W p l e R s m args below meth c H locs N.2.2.2.2.1 N.2.2.2.2.2 Q (F0 m N.1 ls (N.2.2.1.map (xs_v ad sa ρ))) := kk ad ls H locs (xs_ag_rf _ _ _) (by rw [hw]; exact Nat.le_refl _) (by rw [hw]; exact hR)
theorem xk_zp : ∀ fs ∈ xe_Z, ∀ v ∈ fs, v = .int 0 ∨ v = .long 0 ∨ v = .null := by decide +kernel
theorem xk_zmap {ci : Nat} {fs : List Value} (h : xe_Z[ci]? = some fs) (ad : Nat → Nat) (sa : UInt32 → Nat) (ρ : Nat → Int32) : fs.map (xs_v ad sa ρ) = fs := by
  have h1 := xk_zp fs (List.mem_of_getElem? h)
  rw [List.map_congr_left (g := id)]
  · simp
  · intro v hv
    rcases h1 v hv with rfl | rfl | rfl <;> rfl
theorem xs_upd (ρ : Nat → Int32) (sp : List (Nat × Value)) (k : Nat) (v : Value) : upd (fun j => xs_i ρ (xe_get 1 sp j)) k (xs_i ρ v) = fun j => xs_i ρ (xe_get 1 (xe_put 1 sp k v) j) := by
  funext j
  rw [xe_get_put]
  unfold upd
  split <;> rfl
theorem xs_upd0 (ρ : Nat → Int32) (sp : List (Nat × Value)) (k : Nat) (u : Nat) : upd (fun j => xs_i ρ (xe_get 0 sp j)) k (ρ u) = fun j => xs_i ρ (xe_get 0 (xe_put 0 sp k (.retAddr u)) j) := by
  funext j
  rw [xe_get_put]
  unfold upd
  split <;> rfl
theorem xs_updL (sp : List (Nat × Value)) (k : Nat) (v : Value) : vp_updL (fun j => xs_l (xe_get 2 sp j)) k (xs_l v) = fun j => xs_l (xe_get 2 (xe_put 2 sp k v) j) := by
  funext j
  rw [xe_get_put]
  unfold vp_updL
  split <;> rfl
/-- a new cell: the addresses behind it -/
def xs_ad (ad : Nat → Nat) (n q : Nat) : Nat → Nat := fun k => if k = n then q else ad k
theorem xs_ad_ag {mc nc n q : Nat} {ad : Nat → Nat} (h : nc + 1 ≤ mc) : xs_ag mc n ad (xs_ad ad n q) := ⟨fun h0 => by omega, fun k hk => if_neg (Nat.ne_of_lt hk)⟩
theorem xs_ad_at (ad : Nat → Nat) (n q : Nat) : xs_ad ad n q n = q := if_pos rfl
theorem xs_pushed {q : Nat} {c2 : xe_C} {H1 : Heap} (hl : lv_has ls nL (xs_al ad sa ρ al)) (hok : xe_ok w.length al st w = true) (hP : va_P D vwCl (xs_w ad sa ρ dA w ++ [(q, xs_c (xs_ad ad w.length q) sa ρ dA c2)]) H1) (hD : va_D A (xs_w ad sa ρ dA w ++ [(q, xs_c (xs_ad ad w.length q) sa ρ dA c2)])) (hS : va_S A s.heap H1 locs) :
    xs_Rel D dA sa ρ A s nL (xs_ad ad w.length q) al (w ++ [c2]) ls H1 locs ∧ (Value.ref w.length :: st).map (xs_v (xs_ad ad w.length q) sa ρ) = .ref q :: st.map (xs_v ad sa ρ) := by
  have hok : (xe_okA w.length al && (xe_okS w.length st && xe_okW w.length w)) = true := hok
  rw [Bool.and_eq_true, Bool.and_eq_true] at hok
  have hk : ∀ k, k < w.length → xs_ad ad w.length q k = ad k := fun k h => if_neg (Nat.ne_of_lt h)
  have e := xs_w_push ad sa ρ dA c2 q hok.2.2
  refine ⟨⟨?_, ?_, ?_, hS⟩, ?_⟩
  · unfold xs_al
    rw [xs_okA hk hok.1]
    exact hl
  · show va_P D vwCl (xs_w (fun k => if k = w.length then q else ad k) sa ρ dA (w ++ [c2])) H1
    rw [e]; exact hP
  · show va_D A (xs_w (fun k => if k = w.length then q else ad k) sa ρ dA (w ++ [c2]))
    rw [e]; exact hD
  · rw [List.map_cons, xs_okS hk hok.2.1]
    show Value.ref (xs_ad ad w.length q w.length) :: _ = _
    rw [xs_ad_at]
theorem xs_len_set (w : xe_W) (c2 : xe_C) (a : Nat) : w.length ≤ (xe_set w c2 a).length := by rw [xe_set_eq, List.length_set]; exact Nat.le_refl _
theorem xs_tys_at (dA : Nat → ClassId) {t : Nat} (h : Nat.blt t 4 = true) : ∃ ty, (xs_tys dA)[t]? = some (dA t, ty) := by
  match t, h with
  | 0, _ => exact ⟨_, rfl⟩
  | 1, _ => exact ⟨_, rfl⟩
  | 2, _ => exact ⟨_, rfl⟩
  | 3, _ => exact ⟨_, rfl⟩
  | k + 4, h => exact absurd (Nat.ble_eq.mp h) (by omega)
set_option maxHeartbeats 8000000 in
theorem xs_stp (hE : xs_En (xs_Ls G ρ) p s m args meth c own cc nL A D dA sa ini) (hG : xs_G G ρ) (hR : xs_Rel D dA sa ρ A s nL ad al w ls H locs) (hRm : mc ≤ R.cells ∧ ms ≤ R.slots) (hd : decode cc pc = .ok (i, len)) (hn : len = xk_ln i len) (hL : xk_L own nL ini i res) {N : xe_N} (h : xe_step i G xe_Z mc ms pc len res al st w nc ns = some N)
    (kk : xs_On p l e R s m args below meth c Q nL A D dA sa ρ mc ad w N) : W p l e R s m args below meth c H locs nc ns Q (F0 m pc ls (st.map (xs_v ad sa ρ))) := by
  obtain ⟨hx, hb, hml, hown, hts, hK, hA, hX, hNw, hini, hlk⟩ := hE
  obtain ⟨hl, hP, hD, hS⟩ := id hR
  cases i with
  | aload_n k =>
    have hn : len = 1 := hn
    subst hn
    change xe_iL 1 k G xe_Z mc ms pc 1 res al st w nc ns = some N at h
    unfold xe_iL at h
    split at h
    · next v hv =>
      cases hk : xe_kd 1 v with
      | false => rw [hk] at h; cases h
      | true =>
        rw [hk] at h; cases h
        obtain ⟨a, ea⟩ := xs_ref (ad := ad) (sa := sa) (ρ := ρ) hk
        have q := xs_on0 kk rfl hR
        have hm := hl.2.2 _ (xs_al_mem (ad := ad) (sa := sa) (ρ := ρ) hv)
        simp only [List.map_cons, ea] at q hm
        exact lv_aload_n hx hb hd rfl hm q
    · cases h
  | aload k =>
    have hn : len = 2 := hn
    subst hn
    change xe_iL 1 k G xe_Z mc ms pc 2 res al st w nc ns = some N at h
    unfold xe_iL at h
    split at h
    · next v hv =>
      cases hk : xe_kd 1 v with
      | false => rw [hk] at h; cases h
      | true =>
        rw [hk] at h; cases h
        obtain ⟨a, ea⟩ := xs_ref (ad := ad) (sa := sa) (ρ := ρ) hk
        have q := xs_on0 kk rfl hR
        have hm := hl.2.2 _ (xs_al_mem (ad := ad) (sa := sa) (ρ := ρ) hv)
        simp only [List.map_cons, ea] at q hm
        exact lv_aload hx hb hd hm q
    · cases h
  | iload_n k =>
    have hn : len = 1 := hn
    subst hn
    change xe_iL 0 k G xe_Z mc ms pc 1 res al st w nc ns = some N at h
    unfold xe_iL at h
    split at h
    · next v hv =>
      cases hk : xe_kd 0 v with
      | false => rw [hk] at h; cases h
      | true =>
        rw [hk] at h; cases h
        have ea := xs_num (ad := ad) (sa := sa) (ρ := ρ) hk
        have q := xs_on0 kk rfl hR
        have hm := hl.2.2 _ (xs_al_mem (ad := ad) (sa := sa) (ρ := ρ) hv)
        simp only [List.map_cons, ea] at q hm
        exact lv_iload_n hx hb hd rfl hm q
    · cases h
  | iload k =>
    have hn : len = 2 := hn
    subst hn
    change xe_iL 0 k G xe_Z mc ms pc 2 res al st w nc ns = some N at h
    unfold xe_iL at h
    split at h
    · next v hv =>
      cases hk : xe_kd 0 v with
      | false => rw [hk] at h; cases h
      | true =>
        rw [hk] at h; cases h
        have ea := xs_num (ad := ad) (sa := sa) (ρ := ρ) hk
        have q := xs_on0 kk rfl hR
        have hm := hl.2.2 _ (xs_al_mem (ad := ad) (sa := sa) (ρ := ρ) hv)
        simp only [List.map_cons, ea] at q hm
        exact lv_iload hx hb hd hm q
    · cases h
  | lload_n k =>
    have hn : len = 1 := hn
    subst hn
    change xe_iL 2 k G xe_Z mc ms pc 1 res al st w nc ns = some N at h
    unfold xe_iL at h
    split at h
    · next v hv =>
      cases hk : xe_kd 2 v with
      | false => rw [hk] at h; cases h
      | true =>
        rw [hk] at h; cases h
        have ea := xs_lng (ad := ad) (sa := sa) (ρ := ρ) hk
        have q := xs_on0 kk rfl hR
        have hm := hl.2.2 _ (xs_al_mem (ad := ad) (sa := sa) (ρ := ρ) hv)
        simp only [List.map_cons, ea] at q hm
        exact lv_lload_n hx hb hd rfl hm q
    · cases h
  | lload k =>
    have hn : len = 2 := hn
    subst hn
    change xe_iL 2 k G xe_Z mc ms pc 2 res al st w nc ns = some N at h
    unfold xe_iL at h
    split at h
    · next v hv =>
      cases hk : xe_kd 2 v with
      | false => rw [hk] at h; cases h
      | true =>
        rw [hk] at h; cases h
        have ea := xs_lng (ad := ad) (sa := sa) (ρ := ρ) hk
        have q := xs_on0 kk rfl hR
        have hm := hl.2.2 _ (xs_al_mem (ad := ad) (sa := sa) (ρ := ρ) hv)
        simp only [List.map_cons, ea] at q hm
        exact lv_lload hx hb hd hm q
    · cases h
  | istore_n k =>
    have hn : len = 1 := hn
    subst hn
    change xe_iS 0 k G xe_Z mc ms pc 1 res al st w nc ns = some N at h
    unfold xe_iS at h
    split at h
    · next v st =>
      cases hk : xe_kd 0 v with
      | false => rw [hk] at h; cases h
      | true =>
        rw [hk] at h; cases h
        have ea := xs_num (ad := ad) (sa := sa) (ρ := ρ) hk
        have q := xs_al_s1 ad sa ρ al k v
        simp only [ea] at q
        simp only [List.map_cons, ea]
        exact lv_istore_n hx hb hd rfl hl hL q (fun ls2 hl2 => kk ad ls2 H locs (xs_ag_rf _ _ _) (Nat.le_refl _) ⟨hl2, hP, hD, hS⟩)
    · cases h
  | istore k =>
    have hn : len = 2 := hn
    subst hn
    change xe_iS 0 k G xe_Z mc ms pc 2 res al st w nc ns = some N at h
    unfold xe_iS at h
    split at h
    · next v st =>
      cases hk : xe_kd 0 v with
      | false => rw [hk] at h; cases h
      | true =>
        rw [hk] at h; cases h
        have ea := xs_num (ad := ad) (sa := sa) (ρ := ρ) hk
        have q := xs_al_s1 ad sa ρ al k v
        simp only [ea] at q
        simp only [List.map_cons, ea]
        exact lv_istore hx hb hd hl hL q (fun ls2 hl2 => kk ad ls2 H locs (xs_ag_rf _ _ _) (Nat.le_refl _) ⟨hl2, hP, hD, hS⟩)
    · cases h
  | astore_n k =>
    have hn : len = 1 := hn
    subst hn
    change xe_iS 1 k G xe_Z mc ms pc 1 res al st w nc ns = some N at h
    unfold xe_iS at h
    split at h
    · next v st =>
      cases hk : xe_kd 1 v with
      | false => rw [hk] at h; cases h
      | true =>
        rw [hk] at h; cases h
        obtain ⟨a, ea⟩ := xs_ref (ad := ad) (sa := sa) (ρ := ρ) hk
        have q := xs_al_s1 ad sa ρ al k v
        simp only [ea] at q
        simp only [List.map_cons, ea]
        exact lv_astore_n hx hb hd rfl hl hL q (fun ls2 hl2 => kk ad ls2 H locs (xs_ag_rf _ _ _) (Nat.le_refl _) ⟨hl2, hP, hD, hS⟩)
    · cases h
  | astore k =>
    have hn : len = 2 := hn
    subst hn
    change xe_iS 1 k G xe_Z mc ms pc 2 res al st w nc ns = some N at h
    unfold xe_iS at h
    split at h
    · next v st =>
      cases hk : xe_kd 1 v with
      | false => rw [hk] at h; cases h
      | true =>
        rw [hk] at h; cases h
        obtain ⟨a, ea⟩ := xs_ref (ad := ad) (sa := sa) (ρ := ρ) hk
        have q := xs_al_s1 ad sa ρ al k v
        simp only [ea] at q
        simp only [List.map_cons, ea]
        exact lv_astore hx hb hd hl hL q (fun ls2 hl2 => kk ad ls2 H locs (xs_ag_rf _ _ _) (Nat.le_refl _) ⟨hl2, hP, hD, hS⟩)
    · cases h
  | lstore_n k =>
    have hn : len = 1 := hn
    subst hn
    change xe_iS2 k G xe_Z mc ms pc 1 res al st w nc ns = some N at h
    unfold xe_iS2 at h
    split at h
    · next v st =>
      cases hk : xe_kd 2 v with
      | false => rw [hk] at h; cases h
      | true =>
        rw [hk] at h; cases h
        have ea := xs_lng (ad := ad) (sa := sa) (ρ := ρ) hk
        have q := xs_al_s2 ad sa ρ al k v
        simp only [ea] at q
        simp only [List.map_cons, ea]
        exact lv_lstore_n hx hb hd rfl hl hL q (fun ls2 hl2 => kk ad ls2 H locs (xs_ag_rf _ _ _) (Nat.le_refl _) ⟨hl2, hP, hD, hS⟩)
    · cases h
  | lstore k =>
    have hn : len = 2 := hn
    subst hn
    change xe_iS2 k G xe_Z mc ms pc 2 res al st w nc ns = some N at h
    unfold xe_iS2 at h
    split at h
    · next v st =>
      cases hk : xe_kd 2 v with
      | false => rw [hk] at h; cases h
      | true =>
        rw [hk] at h; cases h
        have ea := xs_lng (ad := ad) (sa := sa) (ρ := ρ) hk
        have q := xs_al_s2 ad sa ρ al k v
        simp only [ea] at q
        simp only [List.map_cons, ea]
        exact lv_lstore hx hb hd hl hL q (fun ls2 hl2 => kk ad ls2 H locs (xs_ag_rf _ _ _) (Nat.le_refl _) ⟨hl2, hP, hD, hS⟩)
    · cases h
  | iconst n =>
    have hn : len = 1 := hn
    subst hn
    change some _ = some N at h
    cases h
    exact lv_iconst hx hb hd rfl (xs_on0 kk rfl hR)
  | bipush n =>
    have hn : len = 2 := hn
    subst hn
    change some _ = some N at h
    cases h
    exact lv_bipush hx hb hd rfl (xs_on0 kk rfl hR)
  | sipush n =>
    have hn : len = 3 := hn
    subst hn
    change some _ = some N at h
    cases h
    exact lv_sipush hx hb hd rfl (xs_on0 kk rfl hR)
  | lconst n =>
    have hn : len = 1 := hn
    subst hn
    change some _ = some N at h
    cases h
    exact lv_lconst hx hb hd rfl (xs_on0 kk rfl hR)
  | ldc idx =>
    have hn : len = 2 := hn
    subst hn
    change xe_iK G xe_Z mc ms pc 2 res al st w nc ns = some N at h
    unfold xe_iK at h
    split at h
    · next n =>
      cases h
      exact lv_ldc hx hb hown (hts _ hL) hd (xs_on0 kk rfl hR)
    · cases h
  | ldc_w idx =>
    have hn : len = 3 := hn
    subst hn
    change xe_iK G xe_Z mc ms pc 3 res al st w nc ns = some N at h
    unfold xe_iK at h
    split at h
    · next n =>
      cases h
      exact lv_ldcw hx hb hown (hts _ hL) hd (xs_on0 kk rfl hR)
    · cases h
  | iinc k n =>
    have hn : len = 3 := hn
    subst hn
    change xe_iInc k n G xe_Z mc ms pc 3 res al st w nc ns = some N at h
    unfold xe_iInc at h
    split at h
    · next x hv =>
      rw [xe_mk_eq] at h
      cases h
      obtain ⟨j, hj⟩ := List.getElem?_of_mem (xs_al_mem (ad := ad) (sa := sa) (ρ := ρ) hv)
      exact lv_iinc hx hb hd hl hj rfl hL (xs_al_s1 ad sa ρ al k (.int (x + Int32.ofInt n))) (fun ls2 hl2 => kk ad ls2 H locs (xs_ag_rf _ _ _) (Nat.le_refl _) ⟨hl2, hP, hD, hS⟩)
    · cases h
  | dup =>
    have hn : len = 1 := hn
    subst hn
    change xe_iDup G xe_Z mc ms pc 1 res al st w nc ns = some N at h
    unfold xe_iDup at h
    split at h
    · next v st =>
      cases hk : xe_c1 v with
      | false => rw [hk] at h; cases h
      | true =>
        rw [hk] at h; cases h
        exact lv_dup hx hb hd (xs_c1 hk) (xs_on0 kk rfl hR)
    · cases h
  | dup2 =>
    have hn : len = 1 := hn
    subst hn
    change xe_iDup2 G xe_Z mc ms pc 1 res al st w nc ns = some N at h
    unfold xe_iDup2 at h
    split at h
    · next v u st =>
      cases hk : xe_c1 v && xe_c1 u with
      | false => rw [hk] at h; cases h
      | true =>
        rw [hk] at h; cases h
        rw [Bool.and_eq_true] at hk
        exact lv_dup2_11 hx hb hd (xs_c1 hk.1) (xs_c1 hk.2) (xs_on0 kk rfl hR)
    · cases h
  | goto off =>
    have hn : len = 3 := hn
    subst hn
    change xe_iGoto off G xe_Z mc ms pc 3 res al st w nc ns = some N at h
    unfold xe_iGoto at h
    split at h
    · next t ht =>
      cases h
      exact lv_goto hx hb hd (xs_tgt_ok ht) (xs_on0 kk rfl hR)
    · cases h
  | ifCond cd off =>
    have hn : len = 3 := hn
    subst hn
    change xe_iIf cd off G xe_Z mc ms pc 3 res al st w nc ns = some N at h
    unfold xe_iIf at h
    split at h
    · next v st =>
      split at h
      · next t hc ht =>
        cases h
        obtain ⟨k1, k2, k3⟩ := xs_cmp_ok hG hc
        have k3 : xs_cd cd (xs_i ρ v) 0 := k3.mp rfl
        have q := xs_on0 kk rfl hR
        rw [List.map_cons, xs_num k1]
        cases cd with
        | lt => exact lv_if_lt hx hb hd (xs_tgt_ok ht) (fun _ => q) (fun z => absurd k3 z)
        | ge => exact lv_if_ge hx hb hd (xs_tgt_ok ht) (fun _ => q) (fun z => absurd k3 z)
        | gt => exact lv_if_gt hx hb hd (xs_tgt_ok ht) (fun _ => q) (fun z => absurd k3 z)
        | le => exact lv_if_le hx hb hd (xs_tgt_ok ht) (fun _ => q) (fun z => absurd k3 z)
        | eq => exact lv_if_eq hx hb hd (xs_tgt_ok ht) (fun _ => q) (fun z => absurd k3 z)
        | ne => exact lv_if_ne hx hb hd (xs_tgt_ok ht) (fun _ => q) (fun z => absurd z k3)
      · next t hc ht =>
        cases h
        obtain ⟨k1, k2, k3⟩ := xs_cmp_ok hG hc
        have k3 : ¬ xs_cd cd (xs_i ρ v) 0 := fun z => by cases k3.mpr z
        have q := xs_on0 kk rfl hR
        rw [List.map_cons, xs_num k1]
        cases cd with
        | lt => exact lv_if_lt hx hb hd (xs_tgt_ok ht) (fun z => absurd z k3) (fun _ => q)
        | ge => exact lv_if_ge hx hb hd (xs_tgt_ok ht) (fun z => absurd z k3) (fun _ => q)
        | gt => exact lv_if_gt hx hb hd (xs_tgt_ok ht) (fun z => absurd z k3) (fun _ => q)
        | le => exact lv_if_le hx hb hd (xs_tgt_ok ht) (fun z => absurd z k3) (fun _ => q)
        | eq => exact lv_if_eq hx hb hd (xs_tgt_ok ht) (fun z => absurd z k3) (fun _ => q)
        | ne => exact lv_if_ne hx hb hd (xs_tgt_ok ht) (fun z => absurd z k3) (fun _ => q)
      · cases h
    · cases h
  | if_icmp cd off =>
    have hn : len = 3 := hn
    subst hn
    change xe_iCmp cd off G xe_Z mc ms pc 3 res al st w nc ns = some N at h
    unfold xe_iCmp at h
    split at h
    · next u v st =>
      split at h
      · next t hc ht =>
        cases h
        obtain ⟨k1, k2, k3⟩ := xs_cmp_ok hG hc
        have k3 : xs_cd cd (xs_i ρ v) (xs_i ρ u) := k3.mp rfl
        have q := xs_on0 kk rfl hR
        rw [List.map_cons, List.map_cons, xs_num k1, xs_num k2]
        cases cd with
        | lt => exact lv_icmp_lt hx hb hd (xs_tgt_ok ht) (fun _ => q) (fun z => absurd k3 z)
        | ge => exact lv_icmp_ge hx hb hd (xs_tgt_ok ht) (fun _ => q) (fun z => absurd k3 z)
        | gt => exact lv_icmp_gt hx hb hd (xs_tgt_ok ht) (fun _ => q) (fun z => absurd k3 z)
        | le => exact lv_icmp_le hx hb hd (xs_tgt_ok ht) (fun _ => q) (fun z => absurd k3 z)
        | eq => exact lv_icmp_eq hx hb hd (xs_tgt_ok ht) (fun _ => q) (fun z => absurd k3 z)
        | ne => exact lv_icmp_ne hx hb hd (xs_tgt_ok ht) (fun _ => q) (fun z => absurd z k3)
      · next t hc ht =>
        cases h
        obtain ⟨k1, k2, k3⟩ := xs_cmp_ok hG hc
        have k3 : ¬ xs_cd cd (xs_i ρ v) (xs_i ρ u) := fun z => by cases k3.mpr z
        have q := xs_on0 kk rfl hR
        rw [List.map_cons, List.map_cons, xs_num k1, xs_num k2]
        cases cd with
        | lt => exact lv_icmp_lt hx hb hd (xs_tgt_ok ht) (fun z => absurd z k3) (fun _ => q)
        | ge => exact lv_icmp_ge hx hb hd (xs_tgt_ok ht) (fun z => absurd z k3) (fun _ => q)
        | gt => exact lv_icmp_gt hx hb hd (xs_tgt_ok ht) (fun z => absurd z k3) (fun _ => q)
        | le => exact lv_icmp_le hx hb hd (xs_tgt_ok ht) (fun z => absurd z k3) (fun _ => q)
        | eq => exact lv_icmp_eq hx hb hd (xs_tgt_ok ht) (fun z => absurd z k3) (fun _ => q)
        | ne => exact lv_icmp_ne hx hb hd (xs_tgt_ok ht) (fun z => absurd z k3) (fun _ => q)
      · cases h
    · cases h
  | iadd =>
    have hn : len = 1 := hn
    subst hn
    change xe_iB 0 G xe_Z mc ms pc 1 res al st w nc ns = some N at h
    unfold xe_iB at h
    split at h
    · next u v st =>
      split at h
      · next x hx2 =>
        cases hk : xe_kd 0 v && xe_kd 0 u with
        | false => rw [hk] at h; cases h
        | true =>
          rw [hk] at h; cases h
          rw [Bool.and_eq_true] at hk
          obtain ⟨k1, k2⟩ := xs_bin_ok hG hx2
          have q := xs_on0 kk rfl hR
          simp only [List.map_cons, xs_num k1, k2] at q
          simp only [List.map_cons, xs_num hk.1, xs_num hk.2]
          exact lv_iadd hx hb hd q
      · cases h
    · cases h
  | isub =>
    have hn : len = 1 := hn
    subst hn
    change xe_iB 1 G xe_Z mc ms pc 1 res al st w nc ns = some N at h
    unfold xe_iB at h
    split at h
    · next u v st =>
      split at h
      · next x hx2 =>
        cases hk : xe_kd 0 v && xe_kd 0 u with
        | false => rw [hk] at h; cases h
        | true =>
          rw [hk] at h; cases h
          rw [Bool.and_eq_true] at hk
          obtain ⟨k1, k2⟩ := xs_bin_ok hG hx2
          have q := xs_on0 kk rfl hR
          simp only [List.map_cons, xs_num k1, k2] at q
          simp only [List.map_cons, xs_num hk.1, xs_num hk.2]
          exact lv_isub hx hb hd q
      · cases h
    · cases h
  | imul =>
    have hn : len = 1 := hn
    subst hn
    change xe_iB 2 G xe_Z mc ms pc 1 res al st w nc ns = some N at h
    unfold xe_iB at h
    split at h
    · next u v st =>
      split at h
      · next x hx2 =>
        cases hk : xe_kd 0 v && xe_kd 0 u with
        | false => rw [hk] at h; cases h
        | true =>
          rw [hk] at h; cases h
          rw [Bool.and_eq_true] at hk
          obtain ⟨k1, k2⟩ := xs_bin_ok hG hx2
          have q := xs_on0 kk rfl hR
          simp only [List.map_cons, xs_num k1, k2] at q
          simp only [List.map_cons, xs_num hk.1, xs_num hk.2]
          exact lv_imul hx hb hd q
      · cases h
    · cases h
  | iand =>
    have hn : len = 1 := hn
    subst hn
    change xe_iB 3 G xe_Z mc ms pc 1 res al st w nc ns = some N at h
    unfold xe_iB at h
    split at h
    · next u v st =>
      split at h
      · next x hx2 =>
        cases hk : xe_kd 0 v && xe_kd 0 u with
        | false => rw [hk] at h; cases h
        | true =>
          rw [hk] at h; cases h
          rw [Bool.and_eq_true] at hk
          obtain ⟨k1, k2⟩ := xs_bin_ok hG hx2
          have q := xs_on0 kk rfl hR
          simp only [List.map_cons, xs_num k1, k2] at q
          simp only [List.map_cons, xs_num hk.1, xs_num hk.2]
          exact lv_iand hx hb hd q
      · cases h
    · cases h
  | ior =>
    have hn : len = 1 := hn
    subst hn
    change xe_iB 4 G xe_Z mc ms pc 1 res al st w nc ns = some N at h
    unfold xe_iB at h
    split at h
    · next u v st =>
      split at h
      · next x hx2 =>
        cases hk : xe_kd 0 v && xe_kd 0 u with
        | false => rw [hk] at h; cases h
        | true =>
          rw [hk] at h; cases h
          rw [Bool.and_eq_true] at hk
          obtain ⟨k1, k2⟩ := xs_bin_ok hG hx2
          have q := xs_on0 kk rfl hR
          simp only [List.map_cons, xs_num k1, k2] at q
          simp only [List.map_cons, xs_num hk.1, xs_num hk.2]
          exact lv_ior hx hb hd q
      · cases h
    · cases h
  | ixor =>
    have hn : len = 1 := hn
    subst hn
    change xe_iB 5 G xe_Z mc ms pc 1 res al st w nc ns = some N at h
    unfold xe_iB at h
    split at h
    · next u v st =>
      split at h
      · next x hx2 =>
        cases hk : xe_kd 0 v && xe_kd 0 u with
        | false => rw [hk] at h; cases h
        | true =>
          rw [hk] at h; cases h
          rw [Bool.and_eq_true] at hk
          obtain ⟨k1, k2⟩ := xs_bin_ok hG hx2
          have q := xs_on0 kk rfl hR
          simp only [List.map_cons, xs_num k1, k2] at q
          simp only [List.map_cons, xs_num hk.1, xs_num hk.2]
          exact lv_ixor hx hb hd q
      · cases h
    · cases h
  | ishl =>
    have hn : len = 1 := hn
    subst hn
    change xe_iB 6 G xe_Z mc ms pc 1 res al st w nc ns = some N at h
    unfold xe_iB at h
    split at h
    · next u v st =>
      split at h
      · next x hx2 =>
        cases hk : xe_kd 0 v && xe_kd 0 u with
        | false => rw [hk] at h; cases h
        | true =>
          rw [hk] at h; cases h
          rw [Bool.and_eq_true] at hk
          obtain ⟨k1, k2⟩ := xs_bin_ok hG hx2
          have q := xs_on0 kk rfl hR
          simp only [List.map_cons, xs_num k1, k2] at q
          simp only [List.map_cons, xs_num hk.1, xs_num hk.2]
          exact lv_ishl hx hb hd q
      · cases h
    · cases h
  | ishr =>
    have hn : len = 1 := hn
    subst hn
    change xe_iB 7 G xe_Z mc ms pc 1 res al st w nc ns = some N at h
    unfold xe_iB at h
    split at h
    · next u v st =>
      split at h
      · next x hx2 =>
        cases hk : xe_kd 0 v && xe_kd 0 u with
        | false => rw [hk] at h; cases h
        | true =>
          rw [hk] at h; cases h
          rw [Bool.and_eq_true] at hk
          obtain ⟨k1, k2⟩ := xs_bin_ok hG hx2
          have q := xs_on0 kk rfl hR
          simp only [List.map_cons, xs_num k1, k2] at q
          simp only [List.map_cons, xs_num hk.1, xs_num hk.2]
          exact lv_ishr hx hb hd q
      · cases h
    · cases h
  | iushr =>
    have hn : len = 1 := hn
    subst hn
    change xe_iB 8 G xe_Z mc ms pc 1 res al st w nc ns = some N at h
    unfold xe_iB at h
    split at h
    · next u v st =>
      split at h
      · next x hx2 =>
        cases hk : xe_kd 0 v && xe_kd 0 u with
        | false => rw [hk] at h; cases h
        | true =>
          rw [hk] at h; cases h
          rw [Bool.and_eq_true] at hk
          obtain ⟨k1, k2⟩ := xs_bin_ok hG hx2
          have q := xs_on0 kk rfl hR
          simp only [List.map_cons, xs_num k1, k2] at q
          simp only [List.map_cons, xs_num hk.1, xs_num hk.2]
          exact lv_iushr hx hb hd rfl q
      · cases h
    · cases h
  | ineg =>
    have hn : len = 1 := hn
    subst hn
    change xe_iU 9 G xe_Z mc ms pc 1 res al st w nc ns = some N at h
    unfold xe_iU at h
    split at h
    · next v st =>
      split at h
      · next x hx2 =>
        cases hk : xe_kd 0 v with
        | false => rw [hk] at h; cases h
        | true =>
          rw [hk] at h; cases h
          obtain ⟨k1, k2⟩ := xs_bin_ok hG hx2
          have q := xs_on0 kk rfl hR
          simp only [List.map_cons, xs_num k1, k2] at q
          simp only [List.map_cons, xs_num hk]
          exact lv_ineg hx hb hd q
      · cases h
    · cases h
  | i2b =>
    have hn : len = 1 := hn
    subst hn
    change xe_iU 10 G xe_Z mc ms pc 1 res al st w nc ns = some N at h
    unfold xe_iU at h
    split at h
    · next v st =>
      split at h
      · next x hx2 =>
        cases hk : xe_kd 0 v with
        | false => rw [hk] at h; cases h
        | true =>
          rw [hk] at h; cases h
          obtain ⟨k1, k2⟩ := xs_bin_ok hG hx2
          have q := xs_on0 kk rfl hR
          simp only [List.map_cons, xs_num k1, k2] at q
          simp only [List.map_cons, xs_num hk]
          exact lv_i2b hx hb hd rfl q
      · cases h
    · cases h
  | idiv =>
    have hn : len = 1 := hn
    subst hn
    change xe_iDiv G xe_Z mc ms pc 1 res al st w nc ns = some N at h
    unfold xe_iDiv at h
    split at h
    · next y x st =>
      split at h
      · cases h
      · next hy =>
        rw [xe_mk_eq] at h
        cases h
        exact lv_idiv hx hb hd hy (xs_on0 kk rfl hR)
    · cases h
  | ldiv =>
    have hn : len = 1 := hn
    subst hn
    change xe_iLdiv G xe_Z mc ms pc 1 res al st w nc ns = some N at h
    unfold xe_iLdiv at h
    split at h
    · next y x st =>
      split at h
      · cases h
      · next hy =>
        rw [xe_mkL_eq] at h
        cases h
        exact lv_ldiv hx hb hd hy (xs_on0 kk rfl hR)
    · cases h
  | i2l =>
    have hn : len = 1 := hn
    subst hn
    change xe_iI2l G xe_Z mc ms pc 1 res al st w nc ns = some N at h
    unfold xe_iI2l at h
    split at h
    · next x st =>
      rw [xe_mkL_eq] at h
      cases h
      exact lv_i2l hx hb hd rfl (xs_on0 kk rfl hR)
    · cases h
  | ladd =>
    have hn : len = 1 := hn
    subst hn
    change xe_iLadd G xe_Z mc ms pc 1 res al st w nc ns = some N at h
    unfold xe_iLadd at h
    split at h
    · next y x st =>
      rw [xe_mkL_eq] at h
      cases h
      exact lv_ladd hx hb hd (xs_on0 kk rfl hR)
    · cases h
  | lmul =>
    have hn : len = 1 := hn
    subst hn
    change xe_iLmul G xe_Z mc ms pc 1 res al st w nc ns = some N at h
    unfold xe_iLmul at h
    split at h
    · next y x st =>
      rw [xe_mkL_eq] at h
      cases h
      exact lv_lmul hx hb hd (xs_on0 kk rfl hR)
    · cases h
  | lcmp =>
    have hn : len = 1 := hn
    subst hn
    change xe_iLcmp G xe_Z mc ms pc 1 res al st w nc ns = some N at h
    unfold xe_iLcmp at h
    split at h
    · next y x st =>
      cases h
      exact W.lcmp hx hb hd (xs_on0 kk rfl hR)
    · cases h
  | tableswitch dd lo hi offs =>
    change xe_iTab dd lo hi offs G xe_Z mc ms pc len res al st w nc ns = some N at h
    unfold xe_iTab at h
    split at h
    · next v st =>
      split at h
      · next a b hr =>
        obtain ⟨k1, k2, k3⟩ := xs_get_rng hG hr
        have k2 : a ≤ (xs_i ρ v).toInt := k2
        have k3 : (xs_i ρ v).toInt ≤ b := k3
        split at h
        · next hc =>
          obtain ⟨hab, h1, h2⟩ := hc
          have ev : (xs_i ρ v).toInt = a := by omega
          split at h
          · next off hoff =>
            split at h
            · next t ht =>
              cases h
              have q := xs_on0 kk rfl hR
              rw [List.map_cons, xs_num k1]
              exact lv_tableIn hx hb hd (by rw [ev]; exact h1) (by rw [ev]; exact h2) (by rw [ev]; exact hoff) (xs_tgt_ok ht) q
            · cases h
          · cases h
        · split at h
          · next hc =>
            split at h
            · next t ht =>
              cases h
              have q := xs_on0 kk rfl hR
              rw [List.map_cons, xs_num k1]
              exact lv_tableOut hx hb hd (by omega) (xs_tgt_ok ht) q
            · cases h
          · cases h
      · cases h
    · cases h
  | getfield idx =>
    have hn : len = 3 := hn
    subst hn
    change xe_iGet G xe_Z mc ms pc 3 res al st w nc ns = some N at h
    unfold xe_iGet at h
    split at h
    · next a st ci k =>
      rw [xe_nth_eq] at h
      split at h
      · next cj fs hc =>
        cases hk : Nat.beq ci cj with
        | false => rw [hk] at h; cases h
        | true =>
          rw [hk] at h
          have ec := Nat.eq_of_beq_eq_true hk
          subst ec
          change (match xe_nth fs k with | some v => some (pc + 3, al, v :: st, w, nc, ns) | none => none) = some N at h
          rw [xe_nth_eq] at h
          split at h
          · next v hv =>
            cases h
            obtain ⟨C, T, N0, ty, hC, hk0, hlk0⟩ := hL
            exact va_get (D := D) hx hb hts hC.2.1 hown hK hP a (xs_w_get ad sa ρ dA hc) hC.1 k hk0 (hts _ hlk0) (fun _ z => z) (v := xs_v ad sa ρ v) (by rw [List.getElem?_map, hv]; rfl) hd (xs_on0 kk rfl hR)
          · cases h
      · cases h
    · cases h
  | putfield idx =>
    have hn : len = 3 := hn
    subst hn
    change xe_iPut G xe_Z mc ms pc 3 res al st w nc ns = some N at h
    unfold xe_iPut at h
    split at h
    · next v a st ci k tc fin =>
      rw [xe_nth_eq] at h
      split at h
      · next cj fs hc =>
        cases hk : Nat.beq ci cj && xe_fit tc v with
        | false => rw [hk] at h; cases h
        | true =>
          rw [hk] at h
          rw [Bool.and_eq_true] at hk
          have ec := Nat.eq_of_beq_eq_true hk.1
          subst ec
          change (match xe_nth fs k with | some _ => some (pc + 3, al, st, xe_set w (.inr (ci, xe_set fs v k)) a, nc, ns) | none => none) = some N at h
          rw [xe_nth_eq] at h
          split at h
          · next v0 hv =>
            cases h
            obtain ⟨C, T, N0, ty, hC, hk0, hlk0, htc, hfin⟩ := hL
            obtain ⟨hn1, hn2⟩ := xs_fit_ok (ad := ad) (sa := sa) (ρ := ρ) hk.2 htc
            have hlen : k < (fs.map (xs_v ad sa ρ)).length := by rw [List.length_map]; exact (List.getElem?_eq_some_iff.mp hv).1
            have e1 : (xs_w ad sa ρ dA w).set a (ad a, .inr (ci, (fs.map (xs_v ad sa ρ)).set k (xs_v ad sa ρ v))) = xs_w ad sa ρ dA (xe_set w (.inr (ci, xe_set fs v k)) a) := by
              rw [xe_set_eq, xe_set_eq, ← xs_w_set, ← List.map_set]
              rfl
            have q : ∀ (H1 : Heap) (locs1 : List Loc), va_P D vwCl ((xs_w ad sa ρ dA w).set a (ad a, .inr (ci, (fs.map (xs_v ad sa ρ)).set k (xs_v ad sa ρ v)))) H1 → va_D A ((xs_w ad sa ρ dA w).set a (ad a, .inr (ci, (fs.map (xs_v ad sa ρ)).set k (xs_v ad sa ρ v)))) → va_S A s.heap H1 locs1 → W p l e R s m args below meth c H1 locs1 nc ns Q (F0 m (pc + 3) ls (st.map (xs_v ad sa ρ))) := by
              intro H1 locs1 hP1 hD1 hS1
              rw [e1] at hP1 hD1
              exact kk ad ls H1 locs1 (xs_ag_rf _ _ _) (xs_len_set _ _ _) ⟨hl, hP1, hD1, hS1⟩
            rcases hfin with hf | ⟨hf, hf2, hf3⟩
            · exact va_put (D := D) hx hb hts hC.2.1 ty hC.2.2.1 hC.2.2.2.1 hown hK hP hD hS a (xs_w_get ad sa ρ dA hc) hC.1 k hk0 (hts _ hlk0) (fun _ z => z) hf (hC.2.2.1 k hk0) hn1 hn2 hlen hd q
            · exact va_putF (D := D) hx hb hts hC.2.1 ty hC.2.2.1 hC.2.2.2.1 hown hK hP hD hS a (xs_w_get ad sa ρ dA hc) hC.1 k hk0 (hts _ hlk0) (fun _ z => z) hf (hini hf3) hf2 (hC.2.2.1 k hk0) hn1 hn2 hlen hd q
          · cases h
      · cases h
    · cases h
  | new idx =>
    have hn : len = 3 := hn
    subst hn
    change xe_iNew G xe_Z mc ms pc 3 res al st w nc ns = some N at h
    unfold xe_iNew at h
    split at h
    · next ci n =>
      rw [xe_nth_eq] at h
      split at h
      · next fs hf =>
        cases hk : Nat.ble (nc + 1) mc && Nat.ble (ns + n) ms && Nat.beq fs.length n && xe_ok w.length al st w with
        | false => rw [hk] at h; cases h
        | true =>
          rw [hk] at h
          cases h
          simp only [Bool.and_eq_true, Nat.ble_eq] at hk
          obtain ⟨⟨⟨h1, h2⟩, h3⟩, hok⟩ := hk
          obtain ⟨C, T, ty, hC, hl1, hl2, hl3⟩ := hL
          have ez : xe_Z.getD ci [] = fs := by rw [List.getD_eq_getElem?_getD, hf]; rfl
          refine va_new (ci := ci) (fs := fs) hx hb hts hC.2.1 ty hC.2.2.1 hown (hts _ hl1) (hts _ hl2) (hts _ hl3) hK hP hD hS hA hC.1 (fun j hj => by rw [← ez]; exact hC.2.2.2.2 j hj) (Nat.le_trans h1 hRm.1) (Nat.le_trans h2 hRm.2) hd (fun q H1 hP1 hD1 hS1 => ?_)
          have ec : (Sum.inr (ci, fs) : va_E) = xs_c (xs_ad ad w.length q) sa ρ dA (.inr (ci, fs)) := by
            show _ = Sum.inr (ci, fs.map _)
            rw [xk_zmap hf]
          rw [ec] at hP1 hD1
          obtain ⟨r1, r2⟩ := xs_pushed (st := st) hl hok hP1 hD1 hS1
          rw [← r2]
          exact kk _ ls H1 locs (xs_ad_ag h1) (by show w.length ≤ (w ++ _).length; rw [List.length_append]; omega) r1
      · cases h
    · cases h
  | newarray t =>
    have hn : len = 2 := hn
    subst hn
    change xe_iNewa t G xe_Z mc ms pc 2 res al st w nc ns = some N at h
    unfold xe_iNewa at h
    split at h
    · next n st =>
      split at h
      · next k hnn =>
        cases hk : Nat.blt (xe_aty t) 4 && Nat.ble (nc + 1) mc && Nat.ble (ns + k) ms && Nat.ble k 60000000 && xe_ok w.length al st w with
        | false => rw [hk] at h; cases h
        | true =>
          rw [hk] at h
          cases h
          simp only [Bool.and_eq_true, Nat.ble_eq] at hk
          obtain ⟨⟨⟨⟨h0, h1⟩, h2⟩, h3⟩, hok⟩ := hk
          obtain ⟨e1, e2, e3⟩ := xs_nn_ok hnn
          rw [List.map_cons]
          show W p l e R s m args below meth c H locs nc ns Q (F0 m pc ls (.int n :: st.map (xs_v ad sa ρ)))
          cases t with
          | byte =>
            refine va_newa (ty := .byte) (a0 := (k, .inl (fun j => xs_i ρ (xe_get 0 [] j)))) hx hb (hts _ hL) rfl hK hP hD hS hA (fun cA => rfl) e1 e2 (by show k * 1 ≤ _; omega) (Nat.le_trans h1 hRm.1) (Nat.le_trans h2 hRm.2) hd (fun q cA H1 hK1 hP1 hD1 hS1 => ?_)
            have ea : cA = dA 0 := Option.some.inj ((hK1.2 4 (cA, .byte) rfl).2.symm.trans (hK.2 0 _ rfl).2)
            subst ea
            obtain ⟨r1, r2⟩ := xs_pushed (st := st) (c2 := .inl (0, k, [])) hl hok hP1 hD1 hS1
            rw [← r2]
            exact kk _ ls H1 locs (xs_ad_ag h1) (by show w.length ≤ (w ++ _).length; rw [List.length_append]; omega) r1
          | int =>
            refine va_newa (ty := .int) (a0 := (k, .inl (fun j => xs_i ρ (xe_get 1 [] j)))) hx hb (hts _ hL) rfl hK hP hD hS hA (fun cA => rfl) e1 e2 (by show k * 4 ≤ _; omega) (Nat.le_trans h1 hRm.1) (Nat.le_trans h2 hRm.2) hd (fun q cA H1 hK1 hP1 hD1 hS1 => ?_)
            have ea : cA = dA 1 := Option.some.inj ((hK1.2 4 (cA, .int) rfl).2.symm.trans (hK.2 1 _ rfl).2)
            subst ea
            obtain ⟨r1, r2⟩ := xs_pushed (st := st) (c2 := .inl (1, k, [])) hl hok hP1 hD1 hS1
            rw [← r2]
            exact kk _ ls H1 locs (xs_ad_ag h1) (by show w.length ≤ (w ++ _).length; rw [List.length_append]; omega) r1
          | long =>
            refine va_newa (ty := .long) (a0 := (k, .inr (.inl (fun j => xs_l (xe_get 2 [] j))))) hx hb (hts _ hL) rfl hK hP hD hS hA (fun cA => rfl) e1 e2 (by show k * 8 ≤ _; omega) (Nat.le_trans h1 hRm.1) (Nat.le_trans h2 hRm.2) hd (fun q cA H1 hK1 hP1 hD1 hS1 => ?_)
            have ea : cA = dA 2 := Option.some.inj ((hK1.2 4 (cA, .long) rfl).2.symm.trans (hK.2 2 _ rfl).2)
            subst ea
            obtain ⟨r1, r2⟩ := xs_pushed (st := st) (c2 := .inl (2, k, [])) hl hok hP1 hD1 hS1
            rw [← r2]
            exact kk _ ls H1 locs (xs_ad_ag h1) (by show w.length ≤ (w ++ _).length; rw [List.length_append]; omega) r1
          | boolean =>
            refine va_newa (ty := .boolean) (a0 := (k, .inl (fun j => xs_i ρ (xe_get 3 [] j)))) hx hb (hts _ hL) rfl hK hP hD hS hA (fun cA => rfl) e1 e2 (by show k * 1 ≤ _; omega) (Nat.le_trans h1 hRm.1) (Nat.le_trans h2 hRm.2) hd (fun q cA H1 hK1 hP1 hD1 hS1 => ?_)
            have ea : cA = dA 3 := Option.some.inj ((hK1.2 4 (cA, .boolean) rfl).2.symm.trans (hK.2 3 _ rfl).2)
            subst ea
            obtain ⟨r1, r2⟩ := xs_pushed (st := st) (c2 := .inl (3, k, [])) hl hok hP1 hD1 hS1
            rw [← r2]
            exact kk _ ls H1 locs (xs_ad_ag h1) (by show w.length ≤ (w ++ _).length; rw [List.length_append]; omega) r1
          | _ => exact absurd h0 (by decide)
      · cases h
    · cases h
  | iaload =>
    have hn : len = 1 := hn
    subst hn
    change xe_iAldS G xe_Z mc ms pc 1 res al st w nc ns = some N at h
    unfold xe_iAldS at h
    split at h
    · next j u st =>
      split at h
      · next k hnn =>
        rw [xe_nth_eq] at h
        split at h
        · next v hv =>
          split at h
          · next hu =>
            subst hu
            cases h
            obtain ⟨e1, e2, e3⟩ := xs_nn_ok hnn
            obtain ⟨v1, v2⟩ := hG.2.2.2 k v hv
            have q := xs_on0 kk rfl hR
            simp only [List.map_cons, xs_num v1, v2] at q
            have hlt : sa 1 < s.heap.size := by
              obtain ⟨z, z1, -⟩ := hX.2.2.2.2.1
              exact (Array.getElem?_eq_some_iff.mp z1).1
            have hk : k < G.2.2.1.length := (List.getElem?_eq_some_iff.mp hv).1
            exact va_sld hx hb hX.2.2.2.2.1 hlt hX.2.2.2.2.2 hS (fun z => by rcases z with z | z; exact e1 z; exact absurd (show G.2.2.1.length ≤ k by rw [← e2]; exact z) (by omega)) hd (by rw [e2]; exact q)
          · cases h
        · cases h
      · cases h
    · unfold xe_iAld at h
      split at h
      · next j a st hz =>
        rw [xe_nth_eq] at h
        split at h
        · next ty n sp hc =>
          split at h
          · next k hnn =>
            cases hk : Nat.beq ty 1 && Nat.blt k n && xe_kd 0 (xe_get ty sp k) with
            | false => rw [hk] at h; cases h
            | true =>
              rw [hk] at h
              cases h
              simp only [Bool.and_eq_true] at hk
              obtain ⟨⟨h1, h2⟩, h3⟩ := hk
              have h1 := Nat.eq_of_beq_eq_true h1
              subst h1
              obtain ⟨e1, e2, e3⟩ := xs_nn_ok hnn
              have q := xs_on0 kk rfl hR
              simp only [List.map_cons, xs_num h3] at q
              have hlt : k < n := Nat.ble_eq.mp h2
              exact va_iald hx hb hK hP a 1 (xs_w_get ad sa ρ dA hc) rfl (fun z => by rcases z with z | z; exact e1 z; exact absurd (show n ≤ k by rw [← e2]; exact z) (by omega)) hd (by rw [e2]; exact q)
          · cases h
        · cases h
      · cases h
  | laload =>
    have hn : len = 1 := hn
    subst hn
    change xe_iAld 2 2 G xe_Z mc ms pc 1 res al st w nc ns = some N at h
    unfold xe_iAld at h
    split at h
    · next j a st =>
      rw [xe_nth_eq] at h
      split at h
      · next ty n sp hc =>
        split at h
        · next k hnn =>
          cases hk : Nat.beq ty 2 && Nat.blt k n && xe_kd 2 (xe_get ty sp k) with
          | false => rw [hk] at h; cases h
          | true =>
            rw [hk] at h
            cases h
            simp only [Bool.and_eq_true] at hk
            obtain ⟨⟨h1, h2⟩, h3⟩ := hk
            have h1 := Nat.eq_of_beq_eq_true h1
            subst h1
            obtain ⟨e1, e2, e3⟩ := xs_nn_ok hnn
            have q := xs_on0 kk rfl hR
            simp only [List.map_cons, xs_lng h3] at q
            have hlt : k < n := Nat.ble_eq.mp h2
            exact va_lald hx hb hK hP a 2 (xs_w_get ad sa ρ dA hc) rfl (fun z => by rcases z with z | z; exact e1 z; exact absurd (show n ≤ k by rw [← e2]; exact z) (by omega)) hd (by rw [e2]; exact q)
        · cases h
      · cases h
    · cases h
  | bastore =>
    have hn : len = 1 := hn
    subst hn
    change xe_iBst G xe_Z mc ms pc 1 res al st w nc ns = some N at h
    unfold xe_iBst at h
    split at h
    · next u j a st =>
      rw [xe_nth_eq] at h
      split at h
      · next ty n sp hc =>
        split at h
        · next k hnn =>
          cases hk : Nat.beq ty 0 && Nat.blt k n && decide (u ∈ G.2.2.2) with
          | false => rw [hk] at h; cases h
          | true =>
            rw [hk] at h
            cases h
            simp only [Bool.and_eq_true, decide_eq_true_eq] at hk
            obtain ⟨⟨h1, h2⟩, h3⟩ := hk
            have h1 := Nat.eq_of_beq_eq_true h1
            subst h1
            obtain ⟨e1, e2, e3⟩ := xs_nn_ok hnn
            have hlt : k < n := Nat.ble_eq.mp h2
            refine va_bast hx hb hK hP hD hS a 0 (xs_w_get ad sa ρ dA hc) rfl (fun z => by rcases z with z | z; exact e1 z; exact absurd (show n ≤ k by rw [← e2]; exact z) (by omega)) hd (fun H1 locs1 hP1 hD1 hS1 => ?_)
            rw [e2, hG.2.2.1 u h3, xs_upd0 ρ sp k u] at hP1 hD1
            have e4 := xs_w_set ad sa ρ dA w a (.inl (0, n, xe_put 0 sp k (.retAddr u)))
            rw [← xe_set_eq w] at e4
            exact kk ad ls H1 locs1 (xs_ag_rf _ _ _) (xs_len_set _ _ _) ⟨hl, by show va_P D vwCl (xs_w ad sa ρ dA (xe_set w _ a)) H1; rw [← e4]; exact hP1, by show va_D A (xs_w ad sa ρ dA (xe_set w _ a)); rw [← e4]; exact hD1, hS1⟩
        · cases h
      · cases h
    · cases h
  | iastore =>
    have hn : len = 1 := hn
    subst hn
    change xe_iAst 1 0 G xe_Z mc ms pc 1 res al st w nc ns = some N at h
    unfold xe_iAst at h
    split at h
    · next v j a st =>
      rw [xe_nth_eq] at h
      split at h
      · next ty n sp hc =>
        split at h
        · next k hnn =>
          cases hk : Nat.beq ty 1 && Nat.blt k n && xe_kd 0 v with
          | false => rw [hk] at h; cases h
          | true =>
            rw [hk] at h
            cases h
            simp only [Bool.and_eq_true] at hk
            obtain ⟨⟨h1, h2⟩, h3⟩ := hk
            have h1 := Nat.eq_of_beq_eq_true h1
            subst h1
            obtain ⟨e1, e2, e3⟩ := xs_nn_ok hnn
            have hlt : k < n := Nat.ble_eq.mp h2
            rw [List.map_cons, xs_num h3]
            refine va_iast hx hb hK hP hD hS a 1 (xs_w_get ad sa ρ dA hc) rfl (fun z => by rcases z with z | z; exact e1 z; exact absurd (show n ≤ k by rw [← e2]; exact z) (by omega)) hd (fun H1 locs1 hP1 hD1 hS1 => ?_)
            rw [e2, xs_upd ρ sp k v] at hP1 hD1
            have e4 := xs_w_set ad sa ρ dA w a (.inl (1, n, xe_put 1 sp k v))
            rw [← xe_set_eq w] at e4
            exact kk ad ls H1 locs1 (xs_ag_rf _ _ _) (xs_len_set _ _ _) ⟨hl, by show va_P D vwCl (xs_w ad sa ρ dA (xe_set w _ a)) H1; rw [← e4]; exact hP1, by show va_D A (xs_w ad sa ρ dA (xe_set w _ a)); rw [← e4]; exact hD1, hS1⟩
        · cases h
      · cases h
    · cases h
  | lastore =>
    have hn : len = 1 := hn
    subst hn
    change xe_iAst 2 2 G xe_Z mc ms pc 1 res al st w nc ns = some N at h
    unfold xe_iAst at h
    split at h
    · next v j a st =>
      rw [xe_nth_eq] at h
      split at h
      · next ty n sp hc =>
        split at h
        · next k hnn =>
          cases hk : Nat.beq ty 2 && Nat.blt k n && xe_kd 2 v with
          | false => rw [hk] at h; cases h
          | true =>
            rw [hk] at h
            cases h
            simp only [Bool.and_eq_true] at hk
            obtain ⟨⟨h1, h2⟩, h3⟩ := hk
            have h1 := Nat.eq_of_beq_eq_true h1
            subst h1
            obtain ⟨e1, e2, e3⟩ := xs_nn_ok hnn
            have hlt : k < n := Nat.ble_eq.mp h2
            rw [List.map_cons, xs_lng h3]
            refine va_last hx hb hK hP hD hS a 2 (xs_w_get ad sa ρ dA hc) rfl (fun z => by rcases z with z | z; exact e1 z; exact absurd (show n ≤ k by rw [← e2]; exact z) (by omega)) hd (fun H1 locs1 hP1 hD1 hS1 => ?_)
            rw [e2, xs_updL sp k v] at hP1 hD1
            have e4 := xs_w_set ad sa ρ dA w a (.inl (2, n, xe_put 2 sp k v))
            rw [← xe_set_eq w] at e4
            exact kk ad ls H1 locs1 (xs_ag_rf _ _ _) (xs_len_set _ _ _) ⟨hl, by show va_P D vwCl (xs_w ad sa ρ dA (xe_set w _ a)) H1; rw [← e4]; exact hP1, by show va_D A (xs_w ad sa ρ dA (xe_set w _ a)); rw [← e4]; exact hD1, hS1⟩
        · cases h
      · cases h
    · cases h
  | arraylength =>
    have hn : len = 1 := hn
    subst hn
    change xe_iLen G xe_Z mc ms pc 1 res al st w nc ns = some N at h
    unfold xe_iLen at h
    split at h
    · next a st =>
      rw [xe_nth_eq] at h
      split at h
      · next ty n sp hc =>
        cases hk : Nat.blt ty 4 with
        | false => rw [hk] at h; cases h
        | true =>
          rw [hk] at h
          cases h
          obtain ⟨fty, hft⟩ := xs_tys_at dA hk
          exact va_alen hx hb hK hP a ty (xs_w_get ad sa ρ dA hc) hft rfl hd (xs_on0 kk rfl hR)
      · cases h
    · next u st =>
      split at h
      · next hu =>
        subst hu
        cases h
        exact va_slen hx hb hX.2.1.1 (Array.getElem?_eq_some_iff.mp hX.2.1.2.2.choose_spec.1).1 hX.2.1.2.1 hS hd (xs_on0 kk rfl hR)
      · split at h
        · next hu =>
          subst hu
          cases h
          have hlt : sa 1 < s.heap.size := by
            obtain ⟨z, z1, -⟩ := hX.2.2.2.2.1
            exact (Array.getElem?_eq_some_iff.mp z1).1
          exact va_slen hx hb hX.2.2.2.2.1 hlt hX.2.2.2.2.2 hS hd (xs_on0 kk rfl hR)
        · cases h
    · cases h
  | getstatic idx =>
    have hn : len = 3 := hn
    subst hn
    change some _ = some N at h
    cases h
    obtain ⟨rfl, rfl⟩ := hL
    exact va_getsN hx hb hX.1 hS hown (va_Nw.use rfl hNw.1) (fun _ z => z) hd (xs_on0 kk rfl hR)
  | _ => cases (show (none : Option xe_N) = some N from h)
end
end
section
/-! a whole body: what the evaluator answers, the machine answers -/
theorem xs_good {ws : List Cond} (h : ∀ w ∈ ws, w ∈ xw_T) : GoodIn xw_T ws := fun w hw => ⟨h w hw, good_of_word (xw_good (h w hw))⟩
def xd_ws (d : xd_D) : List Cond := .code d.2.1 d.2.2.1 d.2.2.2.1 d.2.2.2.2.1 :: xw_T
def xd_rm (M : xe_M) (d : xd_D) : Room := { frames := 20 + d.2.2.2.2.2.2.1, cells := M.2.2.2.1, slots := M.2.2.2.2.1, locals := 40 * (20 + d.2.2.2.2.2.2.1) }
def xd_cl : MethodName := ⟨"[I", "clone", "()Ljava/lang/Object;"⟩
def xd_oc : MethodName := ⟨"java/lang/Object", "clone", "()Ljava/lang/Object;"⟩
/-- a call, as the tables have it -/
def xk_CallA (d : xd_D) (i : Instr) (len y n kd : Nat) : Prop := ∃ (M' : xe_M) (d' : xd_D), xe_P[y]? = some M' ∧ xd_P[y]? = some d' ∧ len = 3 ∧ d'.2.2.2.2.2.2.1 + 1 ≤ d.2.2.2.2.2.2.1 ∧ d'.2.2.2.1 ≤ 21 ∧ d'.2.2.2.1 = M'.2.1 ∧ d'.2.2.2.2.2.2.2 = [] ∧ plainName d'.2.1.cls = true ∧ d'.2.1.cls = d'.1 ∧ d'.2.1.cls ≠ "java/lang/invoke/MethodHandle" ∧ d'.2.1.cls ≠ "java/lang/invoke/VarHandle" ∧ Cond.code d'.2.1 d'.2.2.1 d'.2.2.2.1 d'.2.2.2.2.1 ∈ xw_T ∧ Cond.initialized d'.2.1.cls ∈ xw_T ∧
  ((∃ (idx np ci : Nat) (q : vw_C), i = .invokevirtual idx ∧ kd = ci + 10 ∧ n = np + 1 ∧ vwCl[ci]? = some q ∧ q.1 = d'.2.1.cls ∧ (parseMethodDescriptor d'.2.1.desc).map (fun d => d.parameters.length) = some np ∧ Cond.methodLink d.1 idx d'.2.1 ∈ xw_T ∧ Cond.instanceMethod d'.2.1 ∈ xw_T ∧ Cond.selects d'.2.1.cls d'.2.1 d'.2.1 ∈ xw_T) ∨
   (∃ (idx np : Nat), i = .invokespecial idx ∧ kd = 1 ∧ n = np + 1 ∧ d'.2.2.2.2.1 = none ∧ (parseMethodDescriptor d'.2.1.desc).map (fun d => d.parameters.length) = some np ∧ d'.2.1.name = "<init>" ∧ Cond.methodLink d.1 idx d'.2.1 ∈ xw_T ∧ Cond.instanceMethod d'.2.1 ∈ xw_T) ∨
   (∃ (idx : Nat), i = .invokestatic idx ∧ kd = 2 ∧ (parseMethodDescriptor d'.2.1.desc).map (fun d => d.parameters.length) = some n ∧ Cond.methodLink d.1 idx d'.2.1 ∈ xw_T ∧ Cond.static d'.2.1 ∈ xw_T) ∨
   (∃ (idx np : Nat), i = .invokespecial idx ∧ kd = 3 ∧ n = np + 1 ∧ d'.2.2.2.2.1 = none ∧ (parseMethodDescriptor d'.2.1.desc).map (fun d => d.parameters.length) = some np ∧ d'.2.1.name = "<init>" ∧ Cond.instanceMethod d'.2.1 ∈ xw_T ∧ ((d.1, idx, d'.2.1) = ("TingDecks", 29, yX5_init) ∨ (d.1, idx, d'.2.1) = ("TingDecks$Trip", 11, yX4_init) ∨ (d.1, idx, d'.2.1) = ("TingDecks", 60, yX2_init) ∨ (d.1, idx, d'.2.1) = ("TingDecks", 67, yX1_init))))
/-- a call of a method with handlers -/
def xk_CallW (d : xd_D) (i : Instr) (len y n kd : Nat) : Prop := ∃ (M' : xe_M) (d' : xd_D), xe_P[y]? = some M' ∧ xd_P[y]? = some d' ∧ len = 3 ∧ d'.2.2.2.2.2.2.1 + 1 ≤ d.2.2.2.2.2.2.1 ∧ d'.2.2.2.1 ≤ 21 ∧ d'.2.2.2.1 = M'.2.1 ∧ plainName d'.2.1.cls = true ∧ d'.2.1.cls = d'.1 ∧ d'.2.1.cls ≠ "java/lang/invoke/MethodHandle" ∧ d'.2.1.cls ≠ "java/lang/invoke/VarHandle" ∧ Cond.codeWith d'.2.1 d'.2.2.1 d'.2.2.2.1 d'.2.2.2.2.1 d'.2.2.2.2.2.2.2 ∈ xw_T ∧ Cond.initialized d'.2.1.cls ∈ xw_T ∧ kd = 4 ∧ ∃ (idx : Nat), i = .invokestatic idx ∧ (parseMethodDescriptor d'.2.1.desc).map (fun d => d.parameters.length) = some n ∧ Cond.methodLink d.1 idx d'.2.1 ∈ xw_T ∧ Cond.static d'.2.1 ∈ xw_T
def xk_Call (d : xd_D) (i : Instr) (len y n kd : Nat) : Prop := xk_CallA d i len y n kd ∨ xk_CallW d i len y n kd
def xd_wsW (d : xd_D) : List Cond := .codeWith d.2.1 d.2.2.1 d.2.2.2.1 d.2.2.2.2.1 d.2.2.2.2.2.2.2 :: xw_T
def xd_ex (k : Nat) : String := if k = 0 then "java/lang/IllegalArgumentException" else "java/util/NoSuchElementException"
def xd_nm : List String := ["java/lang/Exception"]
def xd_ix (k : Nat) : Nat := if k = 0 then 7 else 13
def xd_rx (k : Nat) : ByteArray := if k = 0 then ⟨#[0x2a, 0x2b, 0xb7, 0x00, 0x07, 0xb1]⟩ else ⟨#[0x2a, 0x2b, 0xb7, 0x00, 0x0d, 0xb1]⟩
def xd_at (k ic : Nat) : List Cond := xh_at "TingDecks" ic (xd_ex k) "java/lang/RuntimeException" xd_nm (xd_ix k) (xd_rx k)
def xk_Thr (d : xd_D) (pc : Nat) (i : Instr) (k is ic x : Nat) : Prop := d.1 = "TingDecks" ∧ d.2.2.2.2.2.2.2 = [] ∧ k < 2 ∧ decode d.2.2.1 (pc + 3) = .ok (.dup, 1) ∧ (∃ ik text, i = .new ik ∧ (is, text) ∈ xw_Str ∧ Cond.classLink "TingDecks" ik (xd_ex k) ∈ xw_T ∧ Cond.initialized (xd_ex k) ∈ xw_T ∧ (∀ w ∈ Cond.classLink "TingDecks" ik (xd_ex k) :: Cond.initialized (xd_ex k) :: xd_at k ic, vx_ot w = true)) ∧ (∀ w ∈ xd_at k ic, w ∈ xw_T ∨ w ∈ xw_N) ∧
  ((x = 2 ∧ decode d.2.2.1 (pc + 4) = .ok (.ldc is, 2) ∧ decode d.2.2.1 (pc + 6) = .ok (.invokespecial ic, 3) ∧ decode d.2.2.1 (pc + 9) = .ok (.athrow, 1)) ∨ (x = 3 ∧ decode d.2.2.1 (pc + 4) = .ok (.ldc_w is, 3) ∧ decode d.2.2.1 (pc + 7) = .ok (.invokespecial ic, 3) ∧ decode d.2.2.1 (pc + 10) = .ok (.athrow, 1)))
/-- a loop that copies a row of numbers over another -/
def xk_Z (d : xd_D) : Prop := decode d.2.2.1 2 = .ok (.iload_n 3, 1) ∧ decode d.2.2.1 3 = .ok (.aload_n 1, 1) ∧ decode d.2.2.1 4 = .ok (.arraylength, 1) ∧ decode d.2.2.1 5 = .ok (.if_icmp .ge 15, 3) ∧ decode d.2.2.1 8 = .ok (.aload_n 2, 1) ∧ decode d.2.2.1 9 = .ok (.iload_n 3, 1) ∧ decode d.2.2.1 10 = .ok (.aload_n 1, 1) ∧ decode d.2.2.1 11 = .ok (.iload_n 3, 1) ∧ decode d.2.2.1 12 = .ok (.iaload, 1) ∧ decode d.2.2.1 13 = .ok (.iastore, 1) ∧ decode d.2.2.1 14 = .ok (.iinc 3 1, 3) ∧ decode d.2.2.1 17 = .ok (.goto (-15), 3) ∧ 3 < d.2.2.2.1
def xk_E (d : xd_D) (e : xe_I) : Prop := match e.2.2.2 with
  | [0, y, n, kd] => xk_Call d e.2.1 e.2.2.1 y n kd
  | [1, k, is, ic, x] => e.2.2.1 = 3 ∧ xk_Thr d e.1 e.2.1 k is ic x
  | [2] => ∃ idx, e.2.1 = .invokespecial idx ∧ e.2.2.1 = 3 ∧ Cond.methodLink d.1 idx Lib.objectInit ∈ xw_T ∧ Cond.instanceMethod Lib.objectInit ∈ xw_T ∧ Cond.code Lib.objectInit ⟨#[0xb1]⟩ 1 none ∈ xw_T
  | [3] => ∃ idx, e.2.1 = .invokestatic idx ∧ e.2.2.1 = 3 ∧ Cond.methodLink d.1 idx arraycopyName ∈ xw_T ∧ Cond.native arraycopyName ∈ xw_T ∧ Cond.static arraycopyName ∈ xw_T ∧ Cond.initialized "java/lang/System" ∈ xw_T
  | [4] => ∃ idx, e.2.1 = .invokevirtual idx ∧ e.2.2.1 = 3 ∧ Cond.methodLink d.1 idx xd_cl ∈ xw_T ∧ Cond.sameMethod "[I" "java/lang/Object" "clone" "()Ljava/lang/Object;" ∈ xw_T ∧ Cond.native xd_oc ∈ xw_T ∧ Cond.instanceMethod xd_oc ∈ xw_T ∧ Cond.selects "[I" xd_cl xd_oc ∈ xw_T
  | [5] => ∃ idx, e.2.1 = .checkcast idx ∧ Cond.classLink d.1 idx "[I" ∈ xw_T
  | [6] => ∃ idx, e.2.1 = .invokestatic idx ∧ e.2.2.1 = 3 ∧ Cond.methodLink d.1 idx Lib.Math.max.name ∈ xw_T ∧ Cond.static Lib.Math.max.name ∈ xw_T ∧ Cond.initialized "java/lang/Math" ∈ xw_T ∧ Cond.code Lib.Math.max.name Lib.Math.max.code 2 (some .int) ∈ xw_T
  | [7] => ∃ idx, e.2.1 = .invokestatic idx ∧ e.2.2.1 = 3 ∧ Cond.methodLink d.1 idx Lib.Math.min.name ∈ xw_T ∧ Cond.static Lib.Math.min.name ∈ xw_T ∧ Cond.initialized "java/lang/Math" ∈ xw_T ∧ Cond.code Lib.Math.min.name Lib.Math.min.code 2 (some .int) ∈ xw_T
  | [8] => e.1 = 2 ∧ e.2.1 = .iload_n 3 ∧ e.2.2.1 = 1 ∧ xk_Z d
  | res => e.2.2.1 = xk_ln e.2.1 e.2.2.1 ∧ xk_L d.1 d.2.2.2.1 d.2.2.2.2.2.1 e.2.1 res
/-- the answer's kind -/
def xk_ret (k : Nat) (r : Option FieldType) : Prop := (k = 0 ∧ r = none) ∨ (k = 1 ∧ r = some .int) ∨ (k = 2 ∧ r = some .long) ∨ (k = 3 ∧ ∃ n, r = some (.object n)) ∨ (k = 4 ∧ r = some .boolean)
/-- the handlers: the evaluator's rows are the table's, each of an exception's class -/
def xk_hh (M : xe_M) (d : xd_D) : Prop := M.2.2.2.2.2.length = d.2.2.2.2.2.2.2.length ∧ ∀ (j : Nat) (a b : Nat × Nat × Nat × Nat), M.2.2.2.2.2[j]? = some a → d.2.2.2.2.2.2.2[j]? = some b → a.1 = b.1 ∧ a.2.1 = b.2.1 ∧ a.2.2.1 = b.2.2.1 ∧ a.2.2.2 < 2 ∧ b.2.2.2 ≠ 0 ∧ Cond.classLink d.1 b.2.2.2 (xd_ex a.2.2.2) ∈ xw_T
def xk_Meth (M : xe_M) (d : xd_D) : Prop := (∀ e ∈ M.1, decode d.2.2.1 e.1 = .ok (e.2.1, e.2.2.1) ∧ xk_E d e) ∧ xk_ret M.2.2.1 d.2.2.2.2.1 ∧ (d.2.2.2.2.2.1 = true → d.2.1.name = "<init>") ∧ xk_hh M d
def xk_All : Prop := ∀ (y : Nat) (M : xe_M) (d : xd_D), xe_P[y]? = some M → xd_P[y]? = some d → xk_Meth M d
theorem xe_pop_ok (n : Nat) : ∀ (st acc as rest : List Value), xe_pop n st acc = some (as, rest) → ∃ b : List Value, as = b.reverse ++ acc ∧ st = b ++ rest ∧ b.length = n := by
  induction n with
  | zero =>
    intro st acc as rest h
    have h : some (acc, st) = some (as, rest) := h
    cases h
    exact ⟨[], rfl, rfl, rfl⟩
  | succ n ih =>
    intro st acc as rest h
    cases st with
    | nil => cases (show (none : Option (List Value × List Value)) = some (as, rest) from h)
    | cons v st =>
      obtain ⟨b, e1, e2, e3⟩ := ih st (v :: acc) as rest h
      exact ⟨v :: b, by rw [e1]; simp, by rw [e2]; rfl, by simp [e3]⟩
theorem xs_args (ad : Nat → Nat) (sa : UInt32 → Nat) (ρ : Nat → Int32) (as : List Value) : ∀ i, lv_args i (as.map (xs_v ad sa ρ)) = xs_al ad sa ρ (lv_args i as) := by
  induction as with
  | nil => intro i; rfl
  | cons a t ih =>
    intro i
    show (i, xs_v ad sa ρ a) :: lv_args (if (xs_v ad sa ρ a).category = 2 then i + 2 else i + 1) _ = (i, xs_v ad sa ρ a) :: _
    rw [xs_cat, ih]
    rfl
theorem xs_sl (ad : Nat → Nat) (sa : UInt32 → Nat) (ρ : Nat → Int32) (as : List Value) : (lg_sl (as.map (xs_v ad sa ρ))).length = xe_sl as := by
  induction as with
  | nil => rfl
  | cons a t ih =>
    show ((if (xs_v ad sa ρ a).category = 2 then [Slot.val (xs_v ad sa ρ a), .second] else [.val (xs_v ad sa ρ a)]) ++ lg_sl (t.map (xs_v ad sa ρ))).length = a.category + xe_sl t
    rw [List.length_append, ih, xs_cat]
    cases a <;> rfl
theorem xs_room {ad : Nat → Nat} {sa : UInt32 → Nat} {ρ : Nat → Int32} {st : List Value} (h : st.length ≤ 4) : ((st.map (xs_v ad sa ρ)).map fun v => v.category).sum ≤ 8 := by
  have h2 : ∀ l : List Value, ((l.map (xs_v ad sa ρ)).map fun v => v.category).sum ≤ 2 * l.length := by
    intro l
    induction l with
    | nil => exact Nat.le_refl _
    | cons a t ih =>
      rw [List.map_cons, List.map_cons, List.sum_cons, List.length_cons]
      have : (xs_v ad sa ρ a).category ≤ 2 := by rcases lv_cat (xs_v ad sa ρ a) with h | h <;> omega
      omega
  have := h2 st
  omega
theorem xs_at_mem (l : List xe_I) (pc : Nat) : ∀ e ∈ xe_at l pc, e ∈ l := by
  induction l with
  | nil => intro e h; exact h
  | cons a t ih =>
    intro e h
    have h : e ∈ (bif Nat.beq a.1 pc then a :: t else xe_at t pc) := h
    cases hb : Nat.beq a.1 pc with
    | true => rw [hb] at h; exact h
    | false => rw [hb] at h; exact List.mem_cons_of_mem _ (ih e h)
theorem xs_ag_trans {mc n m : Nat} {a b c : Nat → Nat} (h1 : xs_ag mc n a b) (h2 : xs_ag mc m b c) (h : n ≤ m) : xs_ag mc n a c := ⟨fun z => (h2.1 z).trans (h1.1 z), fun k hk => (h2.2 k (by omega)).trans (h1.2 k hk)⟩
theorem xs_ag_up {mc mc' n : Nat} {a b : Nat → Nat} (h : xs_ag mc' n a b) (hm : mc' ≤ mc) : xs_ag mc n a b := ⟨fun z => h.1 (by omega), h.2⟩
/-- a contract's start -/
def xs_Pc (Ls : Nat × (Nat → Int32)) (D : va_G) (dA : Nat → ClassId) (sa : UInt32 → Nat) (ρ : Nat → Int32) (ad : Nat → Nat) (w : xe_W) (as : List Value) (sz : Nat) : Array Value → State → Prop := va_Pc (as.map (xs_v ad sa ρ)) (fun U => U.heap.size = sz ∧ va_P D vwCl (xs_w ad sa ρ dA w) U.heap ∧ va_K D vwCl (xs_tys dA) U ∧ va_D (fun _ => True) (xs_w ad sa ρ dA w) ∧ xs_X Ls sa (va_A (xs_w ad sa ρ dA w) sz) U U.heap ∧ xs_Nw U)
/-- .. and its end -/
def xs_Qc (D : va_G) (dA : Nat → ClassId) (sa : UInt32 → Nat) (ρ : Nat → Int32) (ad : Nat → Nat) (n0 mc : Nat) (A : Nat → Prop) (r : xe_R) : Array Value → State → Outcome → State → Prop := fun _ st oc t =>
  (∃ ad' : Nat → Nat, xs_ag mc n0 ad ad' ∧ n0 ≤ r.2.2.length ∧ oc = .returned (bif Nat.beq r.1 0 then none else some (xs_v ad' sa ρ r.2.1)) ∧ va_P D vwCl (xs_w ad' sa ρ dA r.2.2) t.heap ∧ va_D A (xs_w ad' sa ρ dA r.2.2)) ∧ va_F A st t
def xs_XC (D : va_G) (dA : Nat → ClassId) (sa : UInt32 → Nat) (ρ : Nat → Int32) (ad : Nat → Nat) (n0 mc : Nat) (A : Nat → Prop) (r : xe_R) : String → State → State → Prop := fun E st t =>
  E = xd_ex (xs_i ρ r.2.1).toNatClampNeg ∧ (∃ ad' : Nat → Nat, xs_ag mc n0 ad ad' ∧ n0 ≤ r.2.2.length ∧ va_P D vwCl (xs_w ad' sa ρ dA r.2.2) t.heap ∧ va_D A (xs_w ad' sa ρ dA r.2.2)) ∧ va_F A st t
def xs_FQ (D : va_G) (dA : Nat → ClassId) (sa : UInt32 → Nat) (ρ : Nat → Int32) (ad : Nat → Nat) (n0 mc ms : Nat) (A : Nat → Prop) (r : xe_R) (below : List Frame) (args : Array Value) (s : State) : State → Prop := bif Nat.beq r.1 2 then vx_MQ below (fun _ _ _ _ => False) (xs_XC D dA sa ρ ad n0 mc A r) args s mc ms A else MQ below (xs_Qc D dA sa ρ ad n0 mc A r) args s mc ms A
def xs_S (l : Launch) (G : xe_G) (ρ : Nat → Int32) (f : Nat) : Prop := ∀ (y : Nat) (M : xe_M) (d : xd_D), xe_P[y]? = some M → xd_P[y]? = some d → ∀ (cur : List xe_I) (pc : Nat) (al : List (Nat × Value)) (st : List Value) (w : xe_W) (nc ns : Nat) (r : xe_R), (∀ e ∈ cur, e ∈ M.1) → xe_run xe_P G xe_Z f M cur pc al st w nc ns = some r →
  ∀ (p : Program) (e : Env) (R : Room) (s : State) (m : MethodId) (args : Array Value) (below : List Frame) (meth : Method) (c : Code) (H : Heap) (locs : List Loc) (ls : Array Slot) (ad ad0 : Nat → Nat) (n0 : Nat) (A : Nat → Prop) (D : va_G) (dA : Nat → ClassId) (sa : UInt32 → Nat),
    xs_En (xs_Ls G ρ) p s m args meth c d.1 d.2.2.1 d.2.2.2.1 A D dA sa d.2.2.2.2.2.1 → meth.sig.returnType = d.2.2.2.2.1 → c.exceptionTable.toList = tableOf d.2.2.2.2.2.2.2 → xs_Rel D dA sa ρ A s d.2.2.2.1 ad al w ls H locs → xs_ag M.2.2.2.1 n0 ad0 ad → n0 ≤ w.length → (20 + d.2.2.2.2.2.2.1 ≤ R.frames ∧ 40 * (20 + d.2.2.2.2.2.2.1) ≤ R.locals ∧ M.2.2.2.1 ≤ R.cells ∧ M.2.2.2.2.1 ≤ R.slots) →
    W p l e R s m args below meth c H locs nc ns (xs_FQ D dA sa ρ ad0 n0 M.2.2.2.1 M.2.2.2.2.1 A r below args s) (F0 m pc ls (st.map (xs_v ad sa ρ)))
theorem xs_X_kept {Ls : Nat × (Nat → Int32)} {sa : UInt32 → Nat} {A B : Nat → Prop} {s U : State} {H : Heap} {locs : List Loc} (h : xs_X Ls sa A s s.heap) (hvm : s.vm.Alike U.vm) (hS : va_S A s.heap H locs) (hU : U.heap = H) (hB : ∀ q, B q → A q) : xs_X Ls sa B U U.heap := by
  have hq : ∀ a : Nat, a < s.heap.size → ¬ A a → U.heap[a]? = s.heap[a]? := fun a h1 h2 => by rw [hU]; exact hS.2.1 a h1 h2
  exact ⟨((h.1.kept hq).moved hvm).narrow hB, ((h.2.1.kept hq).moved hvm).narrow hB, ((h.2.2.1.kept hq).moved hvm).narrow hB, ((h.2.2.2.1.kept hq).moved hvm).narrow hB, (h.2.2.2.2.1.kept (by obtain ⟨z, z1, -⟩ := h.2.2.2.2.1; exact hq _ (Array.getElem?_eq_some_iff.mp z1).1 h.2.2.2.2.2)).moved hvm, fun z => h.2.2.2.2.2 (hB _ z)⟩
theorem xs_Nw_warm {s U : State} (h : xs_Nw s) (hW : s.WarmedH U.vm) : xs_Nw U := ⟨h.1.warmF hW, h.2.1.warmC hW, h.2.2.1.warmM hW, h.2.2.2.1.warmM hW, h.2.2.2.2.1.warmM hW, h.2.2.2.2.2.1.warmM hW, xw_N_warm hW h.2.2.2.2.2.2.1, fun q hq => (h.2.2.2.2.2.2.2.1 q hq).elim fun a ha => ⟨a, ha.warm hW⟩, xw_Nc_warm hW h.2.2.2.2.2.2.2.2.1, xw_Nc_warm hW h.2.2.2.2.2.2.2.2.2⟩
theorem xs_blind (Ls : Nat × (Nat → Int32)) (D : va_G) (dA : Nat → ClassId) (sa : UInt32 → Nat) (ρ : Nat → Int32) (ad : Nat → Nat) (w : xe_W) (as : List Value) (sz : Nat) : FrameBlind (xs_Pc Ls D dA sa ρ ad w as sz) := fun a U g mk q => by
  obtain ⟨q0, q1, qP, qK, qD, qX, qN⟩ := q
  exact ⟨q0, q1, qP, va_K.moved (u := U) (U := U.calling g mk a) (Vm.Alike.refl U.vm) qK, qD, ⟨va_Z.moved (u := U) (U := U.calling g mk a) (Vm.Alike.refl U.vm) qX.1, xs_SA.moved (u := U) (U := U.calling g mk a) (Vm.Alike.refl U.vm) qX.2.1, vx_Zq.moved (u := U) (U := U.calling g mk a) (Vm.Alike.refl U.vm) qX.2.2.1, vx_Zq.moved (u := U) (U := U.calling g mk a) (Vm.Alike.refl U.vm) qX.2.2.2.1, va_X.moved (u := U) (U := U.calling g mk a) (Vm.Alike.refl U.vm) qX.2.2.2.2.1, qX.2.2.2.2.2⟩, xs_Nw_warm (U := U.calling g mk a) qN (State.WarmedH.refl U)⟩
end
section
section
variable {l : Launch} {G : xe_G} {ρ : Nat → Int32} {f : Nat}
theorem xs_noTab {p : Program} {y : MethodName} {S : Spec} {cc bytes : ByteArray} {maxL maxL' : Nat} {ret ret' : Option FieldType} {e : Env} {s s₁ : State} {m : MethodId} {args : Array Value} {below : List Frame} {meth : Method} {c : Code} (B : BodyLoose p l y S cc maxL ret e s m args below meth c s₁) (h : (Cond.code y bytes maxL' ret').before args s = true) : c.exceptionTable.toList = [] := by
  obtain ⟨meth9, c9, h1, h2, -, -, -, -, h7, -⟩ := Cond.code_spec B.named h
  cases Option.some.inj (h1.symm.trans B.method)
  cases Option.some.inj (h2.symm.trans (Stand.of_body B).code)
  rw [Array.isEmpty_iff.mp h7]
/-- the body's walk, at a contract's start -/
theorem xs_start (hall : xk_All) (ih : xs_S l G ρ f) {y : Nat} {M : xe_M} {d : xd_D} (hM : xe_P[y]? = some M) (hd : xd_P[y]? = some d) (hcls : d.2.1.cls = d.1) {D : va_G} {dA : Nat → ClassId} {sa : UInt32 → Nat} {ad : Nat → Nat} {w : xe_W} {as : List Value} {r : xe_R} {sz : Nat} (hsl : xe_sl as ≤ d.2.2.2.1) (hrun : xe_run xe_P G xe_Z f M M.1 0 (lv_args 0 as) [] w 0 0 = some r) {ws : List Cond} (hws : ∀ w ∈ xw_T, w ∈ ws)
    {p : Program} {e : Env} {s : State} {m : MethodId} {args : Array Value} {below : List Frame} {meth : Method} {c : Code} {s₁ : State} (B : BodyLoose p l d.2.1 (headSpec ws (xd_rm M d)) d.2.2.1 d.2.2.2.1 d.2.2.2.2.1 e s m args below meth c s₁) (hml : c.maxLocals = d.2.2.2.1) (htab : c.exceptionTable.toList = tableOf d.2.2.2.2.2.2.2) (hv : xs_Pc (xs_Ls G ρ) D dA sa ρ ad w as sz args s) :
    W p l e (xd_rm M d) s m args below meth c s.heap [] 0 0 (xs_FQ D dA sa ρ ad w.length M.2.2.2.1 M.2.2.2.2.1 (va_A (xs_w ad sa ρ dA w) sz) r below args s) (entryFrame m args d.2.2.2.1) := by
  obtain ⟨rfl, hsz, hP, hK, hD0, hX, hNw⟩ := hv
  have hts := atoms_spec (ws := ws) B.pre
  have hown : s.vm.findClass d.1 = some m.cls := by rw [← hcls]; exact findClass_of_methodNamed B.named
  subst hsz
  have hD := hD0.self (sz := s.heap.size)
  have hl := lv_entry (as.map (xs_v ad sa ρ)) (n := d.2.2.2.1) (by rw [xs_sl]; exact hsl)
  rw [lg_entry_eq]
  generalize (lg_sl (as.map (xs_v ad sa ρ)) ++ List.replicate (d.2.2.2.1 - (lg_sl (as.map (xs_v ad sa ρ))).length) Slot.unset).toArray = ls at hl ⊢
  rw [xs_args] at hl
  exact ih y M d hM hd M.1 0 _ [] w 0 0 r (fun _ h => h) hrun p e (xd_rm M d) s m _ below meth c s.heap [] ls ad ad w.length _ D dA sa
    ⟨B.exec, B.bytes, hml, hown, fun w hw => hts w (hws w hw), hK, fun q h => Or.inr h, hX, hNw, fun hi => (name_of_methodNamed B.named B.method).1.trans ((hall y M d hM hd).2.2.1 hi), B.notSynchronized⟩ B.returns htab ⟨hl, hP, hD, va_S.rf⟩ (xs_ag_rf _ _ _) (Nat.le_refl _) ⟨Nat.le_refl _, Nat.le_refl _, Nat.le_refl _, Nat.le_refl _⟩
theorem xs_met (hall : xk_All) (ih : xs_S l G ρ f) {y : Nat} {M : xe_M} {d : xd_D} (hM : xe_P[y]? = some M) (hd : xd_P[y]? = some d) (hh : d.2.2.2.2.2.2.2 = []) (hcls : d.2.1.cls = d.1) (hpl : plainName d.2.1.cls = true) {D : va_G} {dA : Nat → ClassId} {sa : UInt32 → Nat} {ad : Nat → Nat} {w : xe_W} {as : List Value} {r : xe_R} {sz : Nat} (hsl : xe_sl as ≤ d.2.2.2.1) (hrun : xe_run xe_P G xe_Z f M M.1 0 (lv_args 0 as) [] w 0 0 = some r) (hr : Nat.beq r.1 2 = false) :
    Met l d.2.1 (xd_ws d) (xd_rm M d) (xs_Pc (xs_Ls G ρ) D dA sa ρ ad w as sz) (xs_Qc D dA sa ρ ad w.length M.2.2.2.1 (va_A (xs_w ad sa ρ dA w) sz) r) M.2.2.2.1 M.2.2.2.2.1 (va_A (xs_w ad sa ρ dA w) sz) := by
  refine Met.ofW (cc := d.2.2.1) (maxL := d.2.2.2.1) (ret := d.2.2.2.2.1) hpl rfl ?_
  intro p e s m args below meth c s₁ B hml hv
  have q := xs_start hall ih hM hd hcls hsl hrun (ws := xd_ws d) (fun _ h => List.mem_cons_of_mem _ h) B hml (by rw [xs_noTab B (atoms_spec (ws := xd_ws d) B.pre _ List.mem_cons_self), hh]; rfl) hv
  unfold xs_FQ at q
  rw [hr] at q
  exact q
theorem xs_metW (hall : xk_All) (ih : xs_S l G ρ f) {y : Nat} {M : xe_M} {d : xd_D} (hM : xe_P[y]? = some M) (hd : xd_P[y]? = some d) (hcls : d.2.1.cls = d.1) (hpl : plainName d.2.1.cls = true) {D : va_G} {dA : Nat → ClassId} {sa : UInt32 → Nat} {ad : Nat → Nat} {w : xe_W} {as : List Value} {r : xe_R} {sz : Nat} (hsl : xe_sl as ≤ d.2.2.2.1) (hrun : xe_run xe_P G xe_Z f M M.1 0 (lv_args 0 as) [] w 0 0 = some r) (hr : Nat.beq r.1 2 = false) :
    Met l d.2.1 (xd_wsW d) (xd_rm M d) (xs_Pc (xs_Ls G ρ) D dA sa ρ ad w as sz) (xs_Qc D dA sa ρ ad w.length M.2.2.2.1 (va_A (xs_w ad sa ρ dA w) sz) r) M.2.2.2.1 M.2.2.2.2.1 (va_A (xs_w ad sa ρ dA w) sz) := by
  refine MetFree.of_bodyS (code := d.2.2.1) (maxLocals := d.2.2.2.1) (ret := d.2.2.2.2.1) hpl ?_ ?_
  · intro args s m h hn
    obtain ⟨m9, meth, c, hn9, h1, h2, h3, h4, -, h5, h6, -⟩ := Cond.codeWith_spec (atoms_spec (ws := xd_wsW d) h _ List.mem_cons_self)
    cases hn.symm.trans hn9
    exact ⟨meth, c, h1, h2, h3, h4, h5, h6⟩
  · intro p e s m args below meth c s₁ B hml hP _
    have hh0 : s₁.heap = s.heap := by rw [B.state]; rfl
    have q := xs_start hall ih hM hd hcls hsl hrun (ws := xd_wsW d) (fun _ h => List.mem_cons_of_mem _ h) B hml (vx_table (x := d.2.1) B (atoms_spec (ws := xd_wsW d) B.pre _ List.mem_cons_self)) hP
    unfold xs_FQ at q
    rw [hr] at q
    obtain ⟨t, a1, o, b1, b2, b3⟩ := q s₁ hh0 (Stand.of_body B)
    exact ⟨t, o, a1, b1, b2, ⟨b3.1, b3.2⟩⟩
theorem xs_metX (hall : xk_All) (ih : xs_S l G ρ f) {y : Nat} {M : xe_M} {d : xd_D} (hM : xe_P[y]? = some M) (hd : xd_P[y]? = some d) (hh : d.2.2.2.2.2.2.2 = []) (hcls : d.2.1.cls = d.1) (hpl : plainName d.2.1.cls = true) {D : va_G} {dA : Nat → ClassId} {sa : UInt32 → Nat} {ad : Nat → Nat} {w : xe_W} {as : List Value} {r : xe_R} {sz : Nat} (hsl : xe_sl as ≤ d.2.2.2.1) (hrun : xe_run xe_P G xe_Z f M M.1 0 (lv_args 0 as) [] w 0 0 = some r) (hr : Nat.beq r.1 2 = true) :
    vx_Met l d.2.1 (xd_ws d) (xd_rm M d) (xs_Pc (xs_Ls G ρ) D dA sa ρ ad w as sz) (fun _ _ _ _ => False) (xs_XC D dA sa ρ ad w.length M.2.2.2.1 (va_A (xs_w ad sa ρ dA w) sz) r) M.2.2.2.1 M.2.2.2.2.1 (va_A (xs_w ad sa ρ dA w) sz) := by
  refine vx_ofW (cc := d.2.2.1) (maxL := d.2.2.2.1) (ret := d.2.2.2.2.1) hpl rfl ?_
  intro p e s m args below meth c s₁ B hml htab hv
  have q := xs_start hall ih hM hd hcls hsl hrun (ws := xd_ws d) (fun _ h => List.mem_cons_of_mem _ h) B hml (by rw [xs_noTab B (atoms_spec (ws := xd_ws d) B.pre _ List.mem_cons_self), hh]; rfl) hv
  unfold xs_FQ at q
  rw [hr] at q
  exact q
end
section
variable {p : Program} {l : Launch} {e : Env} {R : Room} {s : State} {m : MethodId} {args : Array Value} {below : List Frame} {meth : Method} {c : Code} {H : Heap} {locs : List Loc} {Q : State → Prop} {cells slots mc ms : Nat} {A0 A1 : Nat → Prop} {D : va_G} {dA : Nat → ClassId} {sa : UInt32 → Nat} {ρ : Nat → Int32} {ad : Nat → Nat} {n0 : Nat} {r : xe_R} {a : Array Value} {pc : Nat} {ls : Array Slot} {st0 rest : List Value}
/-- behind a call that returns -/
theorem xs_cont (hr : va_Run p l e R s m args below meth c H locs cells slots mc ms (F0 m pc ls st0) rest (xs_Qc D dA sa ρ ad n0 mc A1 r a) A1) (hS : va_S A0 s.heap H locs) (hA : ∀ q, A1 q → A0 q)
    (kk : ∀ (ad' : Nat → Nat) (H1 : Heap) (locs1 : List Loc), xs_ag mc n0 ad ad' → n0 ≤ r.2.2.length → va_P D vwCl (xs_w ad' sa ρ dA r.2.2) H1 → va_D A0 (xs_w ad' sa ρ dA r.2.2) → va_S A0 s.heap H1 locs1 → W p l e R s m args below meth c H1 locs1 (cells + mc) (slots + ms) Q (F0 m (pc + 3) ls ((bif Nat.beq r.1 0 then none else some (xs_v ad' sa ρ r.2.1) : Option Value).toList ++ rest))) : W p l e R s m args below meth c H locs cells slots Q (F0 m pc ls st0) := by
  intro T hT X
  obtain ⟨v, st₀, t, T', L, h0, X', hL, e1, e2, ⟨⟨ad', g1, g2, hv, hp, hd⟩, hF⟩, st⟩ := hr T hT X
  cases hv
  obtain ⟨k1, k2, k3⟩ := vx_keep h0 e1 hS (fun q _ h => hA q h) hA hL hF
  obtain ⟨t2, a1, b1⟩ := kk ad' T'.heap (locs ++ L) g1 g2 (by rw [e1]; exact hp) (hd.weaken (fun _ _ _ h => hA _ h)) k3 T' rfl X'
  exact ⟨t2, st t2 a1, b1⟩
/-- behind a call that throws -/
theorem xs_contX {free : Nat → Prop} (hr : vx_Run p l e R s m args below meth c H locs cells slots mc ms (F0 m pc ls st0) rest ((fun _ _ _ _ => False : Array Value → State → Outcome → State → Prop) a) (xs_XC D dA sa ρ ad n0 mc A1 r) A1) (hS : va_S A0 s.heap H locs) (hA : ∀ q, A1 q → A0 q)
    (kx : ∀ (ce : Cell) (q9 : Addr) (ad' : Nat → Nat) (H1 : Heap) (locs1 : List Loc), xs_ag mc n0 ad ad' → n0 ≤ r.2.2.length → va_P D vwCl (xs_w ad' sa ρ dA r.2.2) H1 → va_D A0 (xs_w ad' sa ρ dA r.2.2) → va_S A0 s.heap H1 locs1 → H1[q9]? = some ce → ce.vm = .none → s.vm.findClass (xd_ex (xs_i ρ r.2.1).toNatClampNeg) = some ce.cls → vx_W p l e R s m args below meth c H1 locs1 (cells + mc) (slots + ms) Q (F0 m pc ls rest) q9) : W p l e R s m args below meth c H locs cells slots Q (F0 m pc ls st0) := by
  intro T hT X
  rcases hr T hT X with ⟨v, st₀, t, T', L, h0, X', hL, e1, e2, hF, st⟩ | ⟨q, st₀, t, T', L, E, ce, h0, X', hL, e1, e2, ⟨rfl, ⟨ad', g1, g2, hp, hd⟩, hF⟩, hce, hcv, hcl, st⟩
  · exact hF.elim
  · obtain ⟨k1, k2, k3⟩ := vx_keep h0 e1 hS (fun q _ h => hA q h) hA hL hF
    obtain ⟨t2, a1, b1⟩ := kx ce q ad' T'.heap (locs ++ L) g1 g2 (by rw [e1]; exact hp) (hd.weaken (fun _ _ _ h => hA _ h)) k3 (by rw [e1]; exact hce) hcv hcl T' rfl X'
    exact ⟨t2, st.trans a1, b1⟩
end
end
section
section
variable {l : Launch} {G : xe_G} {f : Nat} {p : Program} {e : Env} {R : Room} {s : State} {m : MethodId} {args : Array Value} {below : List Frame} {meth : Method} {c : Code} {H : Heap} {locs : List Loc} {nc ns : Nat} {A : Nat → Prop} {D : va_G} {dA : Nat → ClassId} {sa : UInt32 → Nat} {ρ : Nat → Int32} {ad : Nat → Nat} {pc : Nat} {ls : Array Slot} {al : List (Nat × Value)} {st : List Value} {w : xe_W} {d : xd_D}
theorem xs_pre (hE : xs_En (xs_Ls G ρ) p s m args meth c d.1 d.2.2.1 d.2.2.2.1 A D dA sa d.2.2.2.2.2.1) (hR : xs_Rel D dA sa ρ A s d.2.2.2.1 ad al w ls H locs) (as : List Value) : ∀ U : State, U.heap = H → s.WarmedH U.vm → xs_Pc (xs_Ls G ρ) D dA sa ρ ad w as H.size (as.map (xs_v ad sa ρ)).toArray U := by
  obtain ⟨hx, hb, hml, hown, hts, hK, hA, hX, hNw, hini, hlk⟩ := hE
  obtain ⟨hl, hP, hD, hS⟩ := hR
  intro U hU hW
  refine ⟨rfl, by rw [hU], by rw [hU]; exact hP, va_K.moved hW.alike hK, hD.weaken (fun _ _ _ _ => trivial), ?_, xs_Nw_warm hNw hW⟩
  refine xs_X_kept hX hW.alike hS hU ?_
  intro q h
  rcases h with ⟨k, e2, hk⟩ | h
  · exact hD.2 k _ hk
  · exact hA q (Nat.le_trans hS.1 h)
theorem xs_free (hE : xs_En (xs_Ls G ρ) p s m args meth c d.1 d.2.2.1 d.2.2.2.1 A D dA sa d.2.2.2.2.2.1) (hR : xs_Rel D dA sa ρ A s d.2.2.2.1 ad al w ls H locs) : ∀ q, va_A (xs_w ad sa ρ dA w) H.size q → A q := by
  intro q h
  rcases h with ⟨k, e2, hk⟩ | h
  · exact hR.2.2.1.2 k _ hk
  · exact hE.2.2.2.2.2.2.1 q (Nat.le_trans hR.2.2.2.1 h)
theorem xs_ws_in {d' : xd_D} (h : Cond.code d'.2.1 d'.2.2.1 d'.2.2.2.1 d'.2.2.2.2.1 ∈ xw_T) : ∀ w ∈ xd_ws d', w ∈ xw_T := fun w hw => (List.mem_cons.mp hw).elim (fun e => by rw [e]; exact h) id
/-- the run of a call -/
theorem xs_callRun (hall : xk_All) (ih : xs_S l G ρ f) (hE : xs_En (xs_Ls G ρ) p s m args meth c d.1 d.2.2.1 d.2.2.2.1 A D dA sa d.2.2.2.2.2.1) (hR : xs_Rel D dA sa ρ A s d.2.2.2.1 ad al w ls H locs) {i : Instr} {len y n kd : Nat} (hC : xk_Call d i len y n kd) (hdec : decode d.2.2.1 pc = .ok (i, len)) {Y : xe_M} (hY : xe_P[y]? = some Y) {as rest : List Value} (hpop : xe_pop n st [] = some (as, rest)) (hrc : xe_rcv kd as w = true) (hsl : xe_sl as ≤ Y.2.1) (hrl : rest.length ≤ 4) (hc1 : nc + Y.2.2.2.1 ≤ R.cells) (hc2 : ns + Y.2.2.2.2.1 ≤ R.slots) (hrm : 20 + d.2.2.2.2.2.2.1 ≤ R.frames ∧ 40 * (20 + d.2.2.2.2.2.2.1) ≤ R.locals) {r : xe_R} (hrun : xe_run xe_P G xe_Z f Y Y.1 0 (lv_args 0 as) [] w 0 0 = some r) (hr : Nat.beq r.1 2 = false) :
    ∃ a', va_Run p l e R s m args below meth c H locs nc ns Y.2.2.2.1 Y.2.2.2.2.1 (F0 m pc ls (st.map (xs_v ad sa ρ))) (rest.map (xs_v ad sa ρ)) (xs_Qc D dA sa ρ ad w.length Y.2.2.2.1 (va_A (xs_w ad sa ρ dA w) H.size) r a') (va_A (xs_w ad sa ρ dA w) H.size) := by
  rcases hC with hC | hC
  case inr =>
    obtain ⟨M', d', hM', hd', hlen, hh, hnl, hnl2, hpl, hcls, hm1, hm2, hco, hin, rfl, idx, rfl, hpar, hw1, hw2⟩ := hC
    cases Option.some.inj (hM'.symm.trans hY)
    subst hlen
    have hM := xs_metW (D := D) (dA := dA) (sa := sa) (ad := ad) (sz := H.size) hall ih hY hd' hcls hpl (by rw [hnl2]; exact hsl) hrun hr
    obtain ⟨hx, hb, hml, hown, hts, hK, hA, hX, hNw, hini, hlk⟩ := id hE
    obtain ⟨b, e1, e2, e3⟩ := xe_pop_ok n st [] as rest hpop
    rw [List.append_nil] at e1
    have e4 : st = as.reverse ++ rest := by rw [e1, List.reverse_reverse]; exact e2
    have e5 : as.length = n := by rw [e1, List.length_reverse]; exact e3
    have hfr : (xd_rm Y d').frames + 1 ≤ R.frames ∧ 8 + (d'.2.2.2.1 + 11) + (xd_rm Y d').locals ≤ R.locals := by
      show (20 + d'.2.2.2.2.2.2.1) + 1 ≤ R.frames ∧ 8 + (d'.2.2.2.1 + 11) + 40 * (20 + d'.2.2.2.2.2.2.1) ≤ R.locals
      omega
    refine ⟨_, vx_runSW (As := as.map (xs_v ad sa ρ)) (hh := d'.2.2.2.2.2.2.2) (⟨hx, hb, hml, hown, hts⟩ : CallFix p m c d.2.2.1 d.2.2.2.1 s args xw_T d.1) hM (vx_cwSW n hts (xs_good ?_) rfl rfl rfl ⟨hm1, hm2, hpar⟩ hfr) ⟨xs_blind _ _ _ _ _ _ _ _ _, xs_pre hE hR as⟩ rfl ?_ hR.1.1 ?_ (lv_room (xs_room hrl)) hdec ⟨hc1, hc2⟩⟩
    · intro w0 hw0
      rcases List.mem_append.mp hw0 with h9 | h9
      · simp only [List.mem_cons, List.not_mem_nil, or_false] at h9
        rcases h9 with rfl | rfl | rfl
        · exact hw1
        · exact hw2
        · exact hin
      · exact (List.mem_cons.mp h9).elim (fun e => by rw [e]; exact hco) id
    · rw [List.length_map]
      exact e5
    · show st.map (xs_v ad sa ρ) = _
      rw [e4]
      simp
  obtain ⟨M', d', hM', hd', hlen, hh, hnl, hnl2, hhh, hpl, hcls, hm1, hm2, hco, hin, hk⟩ := hC
  cases Option.some.inj (hM'.symm.trans hY)
  subst hlen
  have hM := xs_met (D := D) (dA := dA) (sa := sa) (ad := ad) (sz := H.size) hall ih hY hd' hhh hcls hpl (by rw [hnl2]; exact hsl) hrun hr
  obtain ⟨hx, hb, hml, hown, hts, hK, hA, hX, hNw, hini, hlk⟩ := id hE
  obtain ⟨b, e1, e2, e3⟩ := xe_pop_ok n st [] as rest hpop
  rw [List.append_nil] at e1
  have e4 : st = as.reverse ++ rest := by rw [e1, List.reverse_reverse]; exact e2
  have e5 : as.length = n := by rw [e1, List.length_reverse]; exact e3
  have hfr : (xd_rm Y d').frames + 1 ≤ R.frames ∧ 8 + (d'.2.2.2.1 + 11) + (xd_rm Y d').locals ≤ R.locals := by
    show (20 + d'.2.2.2.2.2.2.1) + 1 ≤ R.frames ∧ 8 + (d'.2.2.2.1 + 11) + 40 * (20 + d'.2.2.2.2.2.2.1) ≤ R.locals
    omega
  have hpre := xs_pre hE hR as
  have hroom : 2 * (F0 m pc ls (st.map (xs_v ad sa ρ))).monitorRoom + ((rest.map (xs_v ad sa ρ)).map fun v => v.category).sum ≤ 8 := lv_room (xs_room hrl)
  have hfix : CallFix p m c d.2.2.1 d.2.2.2.1 s args xw_T d.1 := ⟨hx, hb, hml, hown, hts⟩
  rcases hk with ⟨idx, np, ci, q, rfl, rfl, rfl, hq, hqc, hpar, hw1, hw2, hw3⟩ | ⟨idx, np, rfl, rfl, rfl, hnone, hpar, hnm, hw1, hw2⟩ | ⟨idx, rfl, rfl, hpar, hw1, hw2⟩ | ⟨idx, np, rfl, rfl, rfl, hnone, hpar, hnm, hw2, hnest⟩
  · -- by a name
    unfold xe_rcv at hrc
    split at hrc
    · next a as' =>
      rw [show Nat.ble 10 (ci + 10) = true from Nat.ble_eq.mpr (by omega)] at hrc
      change (match xe_nth w a with | some (.inr o) => Nat.beq (o.1 + 10) (ci + 10) | _ => false) = true at hrc
      rw [xe_nth_eq] at hrc
      split at hrc
      · next o ho =>
        have eo : o.1 = ci := by have := Nat.eq_of_beq_eq_true hrc; omega
        have he := xs_w_get ad sa ρ dA ho
        have hrv := va_recv (ci := ci) (q := q) (a := ad a) (q0 := a) (fs := o.2.map (xs_v ad sa ρ)) hK hR.2.1 hq (by rw [he, ← eo]; rfl)
        rw [hqc] at hrv
        refine ⟨_, va_runV (As := as'.map (xs_v ad sa ρ)) hfix hM (cwV np hts (xs_good ?_) rfl rfl rfl ⟨rfl, hm1, hm2, hpar⟩ hfr) ⟨xs_blind _ _ _ _ _ _ _ _ _, hrv, hpre⟩ rfl ?_ hR.1.1 ?_ hroom hdec ⟨hc1, hc2⟩⟩
        · intro w0 hw0
          rcases List.mem_append.mp hw0 with h9 | h9
          · simp only [List.mem_cons, List.not_mem_nil, or_false] at h9
            rcases h9 with rfl | rfl | rfl | rfl
            · exact hw1
            · exact hw2
            · exact hw3
            · exact hin
          · exact xs_ws_in hco w0 h9
        · rw [List.length_map]
          simpa using e5
        · show st.map (xs_v ad sa ρ) = _
          rw [e4]
          simp [xs_v]
      · cases hrc
    · cases (show Nat.beq (ci + 10) 2 = true from hrc)
  · -- a constructor
    unfold xe_rcv at hrc
    split at hrc
    · next a as' =>
      have hwd : xd_ws d' = Cond.code d'.2.1 d'.2.2.1 d'.2.2.2.1 none :: xw_T := by unfold xd_ws; rw [hnone]
      refine ⟨_, va_runI (As := as'.map (xs_v ad sa ρ)) (b := ad a) hfix hM (cwI np hts (xs_good (xs_ws_in hco)) hwd rfl rfl (hts _ hin) (hts _ hw1) (hts _ hw2) hnm ⟨hm1, hm2, hpar⟩ hfr) ⟨xs_blind _ _ _ _ _ _ _ _ _, hpre⟩ rfl ?_ hR.1.1 ?_ hroom hdec ⟨hc1, hc2⟩⟩
      · rw [List.length_map]
        simpa using e5
      · show st.map (xs_v ad sa ρ) = _
        rw [e4]
        simp [xs_v]
    · cases (show Nat.beq 1 2 = true from hrc)
  · -- static
    refine ⟨_, va_runS (As := as.map (xs_v ad sa ρ)) hfix hM (va_cwS n hts (xs_good ?_) rfl rfl rfl ⟨hm1, hm2, hpar⟩ hfr) ⟨xs_blind _ _ _ _ _ _ _ _ _, hpre⟩ rfl ?_ hR.1.1 ?_ hroom hdec ⟨hc1, hc2⟩⟩
    · intro w0 hw0
      rcases List.mem_append.mp hw0 with h9 | h9
      · simp only [List.mem_cons, List.not_mem_nil, or_false] at h9
        rcases h9 with rfl | rfl | rfl
        · exact hw1
        · exact hw2
        · exact hin
      · exact xs_ws_in hco w0 h9
    · rw [List.length_map]
      exact e5
    · show st.map (xs_v ad sa ρ) = _
      rw [e4]
      simp
  · -- a nest mate's constructor
    unfold xe_rcv at hrc
    split at hrc
    · next a as' =>
      have hwd : xd_ws d' = Cond.code d'.2.1 d'.2.2.1 d'.2.2.2.1 none :: xw_T := by unfold xd_ws; rw [hnone]
      have hnl9 : va_Nw (.methodLinkNest d.1 idx d'.2.1 "TingDecks") s := by
        rcases hnest with h9 | h9 | h9 | h9
        · simp only [Prod.mk.injEq] at h9; rw [h9.1, h9.2.1, h9.2.2]; exact hNw.2.2.1
        · simp only [Prod.mk.injEq] at h9; rw [h9.1, h9.2.1, h9.2.2]; exact hNw.2.2.2.1
        · simp only [Prod.mk.injEq] at h9; rw [h9.1, h9.2.1, h9.2.2]; exact hNw.2.2.2.2.1
        · simp only [Prod.mk.injEq] at h9; rw [h9.1, h9.2.1, h9.2.2]; exact hNw.2.2.2.2.2.1
      refine ⟨_, va_runIN (As := as'.map (xs_v ad sa ρ)) (b := ad a) (host := "TingDecks") hfix hM ⟨va_cnB np hts (xs_good (xs_ws_in hco)) hwd rfl rfl hnl9 (hts _ hin) ⟨hm1, hm2, hpar⟩ hfr, hnm, hts _ hw2⟩ ⟨xs_blind _ _ _ _ _ _ _ _ _, hpre⟩ rfl ?_ hR.1.1 ?_ hroom hdec ⟨hc1, hc2⟩⟩
      · rw [List.length_map]
        simpa using e5
      · show st.map (xs_v ad sa ρ) = _
        rw [e4]
        simp [xs_v]
    · cases (show Nat.beq 3 2 = true from hrc)
end
end
section
section
variable {l : Launch} {G : xe_G} {ρ : Nat → Int32} {f : Nat}
theorem xe_weq_ok : ∀ (a b : xe_W), xe_weq a b = true → a = b := by
  intro a
  induction a with
  | nil =>
    intro b h
    cases b with
    | nil => rfl
    | cons y t => cases h
  | cons x t ih =>
    intro b h
    cases b with
    | nil => cases h
    | cons y t2 =>
      have h : (xe_ceq x y && xe_weq t t2) = true := h
      rw [Bool.and_eq_true] at h
      rw [ih t2 h.2]
      have hc := h.1
      unfold xe_ceq at hc
      split at hc
      · rw [decide_eq_true_eq.mp hc]
      · rw [decide_eq_true_eq.mp hc]
      · cases hc
theorem xe_Req_ok {a b : xe_R} (h : xe_Req a b = true) : a = b := by
  unfold xe_Req at h
  simp only [Bool.and_eq_true, decide_eq_true_eq] at h
  exact Prod.ext (Nat.eq_of_beq_eq_true h.1.1) (Prod.ext h.1.2 (xe_weq_ok _ _ h.2))
theorem xs_kdx {a b : Nat} {v : Value} (h1 : xe_kd a v = true) (h2 : xe_kd b v = true) : a = b := by
  cases v <;> first | exact (Nat.eq_of_beq_eq_true h1).trans (Nat.eq_of_beq_eq_true h2).symm | cases h1
theorem xs_zero : xs_S l G ρ 0 := by
  intro y M d hM hd cur pc al st w nc ns r hcur hrun
  cases (show (none : Option xe_R) = some r from hrun)
/-- where a callee has made nothing, or nothing here speaks of what is new -/
theorem xs_okAfter {mc' n : Nat} {ad ad' : Nat → Nat} {sa : UInt32 → Nat} {al : List (Nat × Value)} {rest : List Value} (hag : xs_ag mc' n ad ad') (hok : (Nat.beq mc' 0 || (xe_okA n al && xe_okS n rest)) = true) : xs_al ad' sa ρ al = xs_al ad sa ρ al ∧ rest.map (xs_v ad' sa ρ) = rest.map (xs_v ad sa ρ) := by
  rw [Bool.or_eq_true, Bool.and_eq_true] at hok
  rcases hok with h | h
  · rw [hag.1 (Nat.eq_of_beq_eq_true h)]
    exact ⟨rfl, rfl⟩
  · exact ⟨xs_okA hag.2 h.1, xs_okS hag.2 h.2⟩
section
variable {y : Nat} {M : xe_M} {d : xd_D} {tl : List xe_I} {pc : Nat} {al : List (Nat × Value)} {st : List Value} {w : xe_W} {nc ns : Nat} {r : xe_R} {p : Program} {e : Env} {R : Room} {s : State} {m : MethodId} {args : Array Value} {below : List Frame} {meth : Method} {c : Code} {H : Heap} {locs : List Loc} {ls : Array Slot} {ad ad0 : Nat → Nat} {n0 : Nat} {A : Nat → Prop} {D : va_G} {dA : Nat → ClassId} {sa : UInt32 → Nat}
/-- all that holds where a body's walk goes on -/
def xs_In (Ls : Nat × (Nat → Int32)) (M : xe_M) (d : xd_D) (w : xe_W) (al : List (Nat × Value)) (p : Program) (R : Room) (s : State) (m : MethodId) (args : Array Value) (meth : Method) (c : Code) (H : Heap) (locs : List Loc) (ls : Array Slot) (ad ad0 : Nat → Nat) (n0 : Nat) (A : Nat → Prop) (D : va_G) (dA : Nat → ClassId) (sa : UInt32 → Nat) (ρ : Nat → Int32) : Prop :=
  xs_En Ls p s m args meth c d.1 d.2.2.1 d.2.2.2.1 A D dA sa d.2.2.2.2.2.1 ∧ meth.sig.returnType = d.2.2.2.2.1 ∧ c.exceptionTable.toList = tableOf d.2.2.2.2.2.2.2 ∧ xs_Rel D dA sa ρ A s d.2.2.2.1 ad al w ls H locs ∧ xs_ag M.2.2.2.1 n0 ad0 ad ∧ n0 ≤ w.length ∧ (20 + d.2.2.2.2.2.2.1 ≤ R.frames ∧ 40 * (20 + d.2.2.2.2.2.2.1) ≤ R.locals ∧ M.2.2.2.1 ≤ R.cells ∧ M.2.2.2.2.1 ≤ R.slots)
theorem xs_go (ih : xs_S l G ρ f) (hM : xe_P[y]? = some M) (hd : xd_P[y]? = some d) {cur : List xe_I} (hcur : ∀ e ∈ cur, e ∈ M.1) (hrun : xe_run xe_P G xe_Z f M cur pc al st w nc ns = some r) (hI : xs_In (xs_Ls G ρ) M d w al p R s m args meth c H locs ls ad ad0 n0 A D dA sa ρ) :
    W p l e R s m args below meth c H locs nc ns (xs_FQ D dA sa ρ ad0 n0 M.2.2.2.1 M.2.2.2.2.1 A r below args s) (F0 m pc ls (st.map (xs_v ad sa ρ))) :=
  ih y M d hM hd cur pc al st w nc ns r hcur hrun p e R s m args below meth c H locs ls ad ad0 n0 A D dA sa hI.1 hI.2.1 hI.2.2.1 hI.2.2.2.1 hI.2.2.2.2.1 hI.2.2.2.2.2.1 hI.2.2.2.2.2.2
theorem xs_bObj_ok (ih : xs_S l G ρ f) (hM : xe_P[y]? = some M) (hd : xd_P[y]? = some d) (hcur : ∀ e ∈ tl, e ∈ M.1) {i : Instr} {len : Nat} {res : List Nat} (hdec : decode d.2.2.1 pc = .ok (i, len)) (hk : ∃ idx, i = .invokespecial idx ∧ len = 3 ∧ Cond.methodLink d.1 idx Lib.objectInit ∈ xw_T ∧ Cond.instanceMethod Lib.objectInit ∈ xw_T ∧ Cond.code Lib.objectInit ⟨#[0xb1]⟩ 1 none ∈ xw_T) (hrun : xe_bObj xe_P G xe_Z (xe_run xe_P G xe_Z f) M (pc, i, len, res) tl pc al st w nc ns = some r) (hI : xs_In (xs_Ls G ρ) M d w al p R s m args meth c H locs ls ad ad0 n0 A D dA sa ρ) :
    W p l e R s m args below meth c H locs nc ns (xs_FQ D dA sa ρ ad0 n0 M.2.2.2.1 M.2.2.2.2.1 A r below args s) (F0 m pc ls (st.map (xs_v ad sa ρ))) := by
  obtain ⟨idx, rfl, rfl, h1, h2, h3⟩ := hk
  unfold xe_bObj at hrun
  split at hrun
  · next a rest =>
    cases hb : Nat.ble rest.length 4 with
    | false => rw [hb] at hrun; cases hrun
    | true =>
      rw [hb] at hrun
      obtain ⟨hx, hb2, hml, hown, hts, hK, hA, hX, hNw, hini, hlk⟩ := hI.1
      have hr8 := xs_room (ad := ad) (sa := sa) (ρ := ρ) (Nat.ble_eq.mp hb)
      have hfr := hI.2.2.2.2.2.2
      exact W.objInit hx hb2 hown (hts _ h1) (hts _ h2) (hts _ h3) rfl (by rw [hml]; exact hI.2.2.2.1.1.1) rfl hdec (by omega) (by show 2 * 0 + _ + 12 ≤ _; omega) (xs_go ih hM hd hcur hrun hI)
  · cases hrun
theorem xe_mm_max (x y : Int32) : xe_mm true x y = if x < y then y else x := by
  unfold xe_mm
  by_cases h : x < y
  · rw [if_pos h]
    have : Nat.blt (xe_bi x) (xe_bi y) = true := Nat.ble_eq.mpr ((xe_bi_lt x y).mpr h)
    rw [this]; rfl
  · rw [if_neg h]
    have : Nat.blt (xe_bi x) (xe_bi y) = false := Bool.eq_false_iff.mpr (fun z => h ((xe_bi_lt x y).mp (Nat.ble_eq.mp z)))
    rw [this]; rfl
theorem xe_mm_min (x y : Int32) : xe_mm false x y = if y < x then y else x := by
  unfold xe_mm
  by_cases h : y < x
  · rw [if_pos h]
    have : Nat.blt (xe_bi y) (xe_bi x) = true := Nat.ble_eq.mpr ((xe_bi_lt y x).mpr h)
    rw [this]; rfl
  · rw [if_neg h]
    have : Nat.blt (xe_bi y) (xe_bi x) = false := Bool.eq_false_iff.mpr (fun z => h ((xe_bi_lt y x).mp (Nat.ble_eq.mp z)))
    rw [this]; rfl
theorem xs_bMax_ok (ih : xs_S l G ρ f) (hM : xe_P[y]? = some M) (hd : xd_P[y]? = some d) (hcur : ∀ e ∈ tl, e ∈ M.1) {i : Instr} {len : Nat} {res : List Nat} (hdec : decode d.2.2.1 pc = .ok (i, len)) (hk : ∃ idx, i = .invokestatic idx ∧ len = 3 ∧ Cond.methodLink d.1 idx Lib.Math.max.name ∈ xw_T ∧ Cond.static Lib.Math.max.name ∈ xw_T ∧ Cond.initialized "java/lang/Math" ∈ xw_T ∧ Cond.code Lib.Math.max.name Lib.Math.max.code 2 (some .int) ∈ xw_T) (hrun : xe_bMath true xe_P G xe_Z (xe_run xe_P G xe_Z f) M (pc, i, len, res) tl pc al st w nc ns = some r) (hI : xs_In (xs_Ls G ρ) M d w al p R s m args meth c H locs ls ad ad0 n0 A D dA sa ρ) :
    W p l e R s m args below meth c H locs nc ns (xs_FQ D dA sa ρ ad0 n0 M.2.2.2.1 M.2.2.2.2.1 A r below args s) (F0 m pc ls (st.map (xs_v ad sa ρ))) := by
  obtain ⟨idx, rfl, rfl, h1, h2, h3, h4⟩ := hk
  unfold xe_bMath at hrun
  split at hrun
  · next b a rest =>
    cases hb : Nat.ble rest.length 4 && Nat.ble nc M.2.2.2.1 && Nat.ble ns M.2.2.2.2.1 with
    | false => rw [hb] at hrun; cases hrun
    | true =>
      rw [hb] at hrun
      simp only [Bool.and_eq_true, Nat.ble_eq] at hb
      obtain ⟨hx, hb2, hml, hown, hts, hK, hA, hX, hNw, hini, hlk⟩ := hI.1
      have hr8 := xs_room (ad := ad) (sa := sa) (ρ := ρ) hb.1.1
      have hfr := hI.2.2.2.2.2.2
      have hgo := xs_go (e := e) (below := below) ih hM hd hcur hrun hI
      rw [xe_mm_max] at hgo
      exact va_mmax hx hb2 (by rw [hml]; exact hI.2.2.2.1.1.1.symm) hown (hts _ h1) (hts _ h2) (hts _ h3) (hts _ h4) (by omega) (by omega) (by omega) (by omega) hdec hgo
  · cases hrun
theorem xs_bMin_ok (ih : xs_S l G ρ f) (hM : xe_P[y]? = some M) (hd : xd_P[y]? = some d) (hcur : ∀ e ∈ tl, e ∈ M.1) {i : Instr} {len : Nat} {res : List Nat} (hdec : decode d.2.2.1 pc = .ok (i, len)) (hk : ∃ idx, i = .invokestatic idx ∧ len = 3 ∧ Cond.methodLink d.1 idx Lib.Math.min.name ∈ xw_T ∧ Cond.static Lib.Math.min.name ∈ xw_T ∧ Cond.initialized "java/lang/Math" ∈ xw_T ∧ Cond.code Lib.Math.min.name Lib.Math.min.code 2 (some .int) ∈ xw_T) (hrun : xe_bMath false xe_P G xe_Z (xe_run xe_P G xe_Z f) M (pc, i, len, res) tl pc al st w nc ns = some r) (hI : xs_In (xs_Ls G ρ) M d w al p R s m args meth c H locs ls ad ad0 n0 A D dA sa ρ) :
    W p l e R s m args below meth c H locs nc ns (xs_FQ D dA sa ρ ad0 n0 M.2.2.2.1 M.2.2.2.2.1 A r below args s) (F0 m pc ls (st.map (xs_v ad sa ρ))) := by
  obtain ⟨idx, rfl, rfl, h1, h2, h3, h4⟩ := hk
  unfold xe_bMath at hrun
  split at hrun
  · next b a rest =>
    cases hb : Nat.ble rest.length 4 && Nat.ble nc M.2.2.2.1 && Nat.ble ns M.2.2.2.2.1 with
    | false => rw [hb] at hrun; cases hrun
    | true =>
      rw [hb] at hrun
      simp only [Bool.and_eq_true, Nat.ble_eq] at hb
      obtain ⟨hx, hb2, hml, hown, hts, hK, hA, hX, hNw, hini, hlk⟩ := hI.1
      have hr8 := xs_room (ad := ad) (sa := sa) (ρ := ρ) hb.1.1
      have hfr := hI.2.2.2.2.2.2
      have hgo := xs_go (e := e) (below := below) ih hM hd hcur hrun hI
      rw [xe_mm_min] at hgo
      exact va_mmin hx hb2 (by rw [hml]; exact hI.2.2.2.1.1.1.symm) hown (hts _ h1) (hts _ h2) (hts _ h3) (hts _ h4) (by omega) (by omega) (by omega) (by omega) hdec hgo
  · cases hrun
theorem xs_bOn_ok (hG : xs_G G ρ) (ih : xs_S l G ρ f) (hM : xe_P[y]? = some M) (hd : xd_P[y]? = some d) (hcur : ∀ e ∈ tl, e ∈ M.1) {i : Instr} {len : Nat} {res : List Nat} (hdec : decode d.2.2.1 pc = .ok (i, len)) (hk : len = xk_ln i len ∧ xk_L d.1 d.2.2.2.1 d.2.2.2.2.2.1 i res) (hrun : xe_bOn xe_P G xe_Z (xe_run xe_P G xe_Z f) M (pc, i, len, res) tl pc al st w nc ns = some r) (hI : xs_In (xs_Ls G ρ) M d w al p R s m args meth c H locs ls ad ad0 n0 A D dA sa ρ) :
    W p l e R s m args below meth c H locs nc ns (xs_FQ D dA sa ρ ad0 n0 M.2.2.2.1 M.2.2.2.2.1 A r below args s) (F0 m pc ls (st.map (xs_v ad sa ρ))) := by
  unfold xe_bOn at hrun
  split at hrun
  · next pc2 al2 st2 w2 nc2 ns2 hs =>
    refine xs_stp hI.1 hG hI.2.2.2.1 hI.2.2.2.2.2.2.2.2 hdec hk.1 hk.2 hs ?_
    intro ad2 ls2 H2 locs2 hag hlen hR2
    refine xs_go ih hM hd ?_ hrun ⟨hI.1, hI.2.1, hI.2.2.1, hR2, xs_ag_trans hI.2.2.2.2.1 hag hI.2.2.2.2.2.1, Nat.le_trans hI.2.2.2.2.2.1 hlen, hI.2.2.2.2.2.2⟩
    intro e1 he1
    cases hb : Nat.beq pc2 (pc + (pc, i, len, res).2.2.1) with
    | true => rw [hb] at he1; exact hcur e1 he1
    | false => rw [hb] at he1; exact xs_at_mem _ _ e1 he1
  · cases i with
    | ifCond cd off =>
     cases st with
     | nil => cases (show (none : Option xe_R) = some r from hrun)
     | cons v st =>
      dsimp only at hrun
      cases hk0 : xe_kd 0 v with
      | false => rw [hk0] at hrun; cases hrun
      | true =>
        rw [hk0] at hrun
        dsimp only [cond_true] at hrun
        have e1 : len = 3 := hk.1
        subst e1
        obtain ⟨hx, hb2, hml, hown, hts, hK, hA, hX, hNw, hini, hlk⟩ := id hI.1
        split at hrun
        · next t ht =>
          split at hrun
          · next r1 r2 hr1 hr2 =>
            cases her : xe_Req r1 r2 with
            | false => rw [her] at hrun; cases hrun
            | true =>
              rw [her] at hrun
              cases hrun
              have er := xe_Req_ok her
              subst er
              have q1 := xs_go (e := e) (below := below) ih hM hd (xs_at_mem M.1 t) hr1 hI
              have q2 := xs_go (e := e) (below := below) ih hM hd hcur hr2 hI
              rw [List.map_cons, xs_num hk0]
              cases cd with
              | lt => exact lv_if_lt hx hb2 hdec (xs_tgt_ok ht) (fun _ => q1) (fun _ => q2)
              | ge => exact lv_if_ge hx hb2 hdec (xs_tgt_ok ht) (fun _ => q1) (fun _ => q2)
              | gt => exact lv_if_gt hx hb2 hdec (xs_tgt_ok ht) (fun _ => q1) (fun _ => q2)
              | le => exact lv_if_le hx hb2 hdec (xs_tgt_ok ht) (fun _ => q1) (fun _ => q2)
              | eq => exact lv_if_eq hx hb2 hdec (xs_tgt_ok ht) (fun _ => q1) (fun _ => q2)
              | ne => exact lv_if_ne hx hb2 hdec (xs_tgt_ok ht) (fun _ => q1) (fun _ => q2)
          · cases hrun
        · cases hrun
    | if_icmp cd off =>
     cases st with
     | nil => cases (show (none : Option xe_R) = some r from hrun)
     | cons u st =>
     cases st with
     | nil => cases (show (none : Option xe_R) = some r from hrun)
     | cons v st =>
      dsimp only at hrun
      cases hk0 : xe_kd 0 v && xe_kd 0 u with
      | false => rw [hk0] at hrun; cases hrun
      | true =>
        rw [hk0] at hrun
        dsimp only [cond_true] at hrun
        rw [Bool.and_eq_true] at hk0
        have e1 : len = 3 := hk.1
        subst e1
        obtain ⟨hx, hb2, hml, hown, hts, hK, hA, hX, hNw, hini, hlk⟩ := id hI.1
        split at hrun
        · next t ht =>
          split at hrun
          · next r1 r2 hr1 hr2 =>
            cases her : xe_Req r1 r2 with
            | false => rw [her] at hrun; cases hrun
            | true =>
              rw [her] at hrun
              cases hrun
              have er := xe_Req_ok her
              subst er
              have q1 := xs_go (e := e) (below := below) ih hM hd (xs_at_mem M.1 t) hr1 hI
              have q2 := xs_go (e := e) (below := below) ih hM hd hcur hr2 hI
              rw [List.map_cons, List.map_cons, xs_num hk0.1, xs_num hk0.2]
              cases cd with
              | lt => exact lv_icmp_lt hx hb2 hdec (xs_tgt_ok ht) (fun _ => q1) (fun _ => q2)
              | ge => exact lv_icmp_ge hx hb2 hdec (xs_tgt_ok ht) (fun _ => q1) (fun _ => q2)
              | gt => exact lv_icmp_gt hx hb2 hdec (xs_tgt_ok ht) (fun _ => q1) (fun _ => q2)
              | le => exact lv_icmp_le hx hb2 hdec (xs_tgt_ok ht) (fun _ => q1) (fun _ => q2)
              | eq => exact lv_icmp_eq hx hb2 hdec (xs_tgt_ok ht) (fun _ => q1) (fun _ => q2)
              | ne => exact lv_icmp_ne hx hb2 hdec (xs_tgt_ok ht) (fun _ => q1) (fun _ => q2)
          · cases hrun
        · cases hrun
    | _ => cases (show (none : Option xe_R) = some r from hrun)
theorem xs_bRet0_ok (hM : xe_P[y]? = some M) (hd : xd_P[y]? = some d) (hret : xk_ret M.2.2.1 d.2.2.2.2.1) (rr : xe_K) {res : List Nat} (hdec : decode d.2.2.1 pc = .ok (.return_, 1)) (hrun : xe_bRet0 xe_P G xe_Z rr M (pc, .return_, 1, res) tl pc al st w nc ns = some r) (hI : xs_In (xs_Ls G ρ) M d w al p R s m args meth c H locs ls ad ad0 n0 A D dA sa ρ) :
    W p l e R s m args below meth c H locs nc ns (xs_FQ D dA sa ρ ad0 n0 M.2.2.2.1 M.2.2.2.2.1 A r below args s) (F0 m pc ls (st.map (xs_v ad sa ρ))) := by
  unfold xe_bRet0 at hrun
  split at hrun
  · cases hb : Nat.beq M.2.2.1 0 && Nat.ble nc M.2.2.2.1 && Nat.ble ns M.2.2.2.2.1 with
    | false => rw [hb] at hrun; cases hrun
    | true =>
      rw [hb] at hrun
      cases hrun
      simp only [Bool.and_eq_true, Nat.ble_eq] at hb
      obtain ⟨⟨h0, h1⟩, h2⟩ := hb
      have h0 := Nat.eq_of_beq_eq_true h0
      obtain ⟨hE, hrt, htab, ⟨hl, hP, hD, hS⟩, hag, hn0, hrm⟩ := hI
      obtain ⟨hx, hb2, hml, hown, hts, hK, hA, hX, hNw, hini, hlk⟩ := hE
      have hr0 : meth.sig.returnType = none := by
        rcases hret with h | h | h | h | h
        · rw [hrt]; exact h.2
        all_goals (exact absurd (h0.symm.trans h.1) (by decide))
      refine W.widen h1 h2 ?_
      exact W.vret hx hb2 hr0 (fun t ht hW => ⟨⟨ad, hag, hn0, rfl, by rw [ht]; exact hP, hD⟩, hS.F ht⟩) hS.2.2 hdec hlk
  · cases hrun
theorem xs_bRet_ok (hM : xe_P[y]? = some M) (hd : xd_P[y]? = some d) (hret : xk_ret M.2.2.1 d.2.2.2.2.1) (rr : xe_K) {res : List Nat} {i : Instr} {k : Nat} (hi : (i = .ireturn ∧ k = 0) ∨ (i = .lreturn ∧ k = 2) ∨ (i = .areturn ∧ k = 1)) (hdec : decode d.2.2.1 pc = .ok (i, 1)) (hrun : xe_bRet k xe_P G xe_Z rr M (pc, i, 1, res) tl pc al st w nc ns = some r) (hI : xs_In (xs_Ls G ρ) M d w al p R s m args meth c H locs ls ad ad0 n0 A D dA sa ρ) :
    W p l e R s m args below meth c H locs nc ns (xs_FQ D dA sa ρ ad0 n0 M.2.2.2.1 M.2.2.2.2.1 A r below args s) (F0 m pc ls (st.map (xs_v ad sa ρ))) := by
  unfold xe_bRet at hrun
  split at hrun
  · next v =>
    cases hb : xe_rk M.2.2.1 v && xe_kd k v && Nat.ble nc M.2.2.2.1 && Nat.ble ns M.2.2.2.2.1 with
    | false => rw [hb] at hrun; cases hrun
    | true =>
      rw [hb] at hrun
      cases hrun
      simp only [Bool.and_eq_true, Nat.ble_eq] at hb
      obtain ⟨⟨⟨h0, h3⟩, h1⟩, h2⟩ := hb
      obtain ⟨hE, hrt, htab, ⟨hl, hP, hD, hS⟩, hag, hn0, hrm⟩ := hI
      obtain ⟨hx, hb2, hml, hown, hts, hK, hA, hX, hNw, hini, hlk⟩ := hE
      refine W.widen h1 h2 ?_
      have q : ∀ (t : State), t.heap = H → xs_Qc D dA sa ρ ad0 n0 M.2.2.2.1 A (1, v, w) args s (.returned (some (xs_v ad sa ρ v))) t := fun t ht => ⟨⟨ad, hag, hn0, rfl, by rw [ht]; exact hP, hD⟩, hS.F ht⟩
      show W p l e R s m args below meth c H locs M.2.2.2.1 M.2.2.2.2.1 (MQ below (xs_Qc D dA sa ρ ad0 n0 M.2.2.2.1 A (1, v, w)) args s M.2.2.2.1 M.2.2.2.2.1 A) (F0 m pc ls [xs_v ad sa ρ v])
      rcases hret with ⟨e1, e2⟩ | ⟨e1, e2⟩ | ⟨e1, e2⟩ | ⟨e1, n, e2⟩ | ⟨e1, e2⟩
      · rw [e1] at h0; cases h0
      · rw [e1] at h0
        have h0 : xe_kd 0 v = true := h0
        rw [xs_num h0] at q ⊢
        rcases hi with ⟨rfl, rfl⟩ | ⟨rfl, rfl⟩ | ⟨rfl, rfl⟩
        · exact W.iret hx hb2 (hrt.trans e2) (fun t ht _ => q t ht) hS.2.2 hdec hlk
        · exact absurd (xs_kdx h0 h3) (by decide)
        · exact absurd (xs_kdx h0 h3) (by decide)
      · rw [e1] at h0
        have h0 : xe_kd 2 v = true := h0
        rw [xs_lng h0] at q ⊢
        rcases hi with ⟨rfl, rfl⟩ | ⟨rfl, rfl⟩ | ⟨rfl, rfl⟩
        · exact absurd (xs_kdx h0 h3) (by decide)
        · exact W.lret hx hb2 (hrt.trans e2) (fun t ht _ => q t ht) hS.2.2 hdec hlk
        · exact absurd (xs_kdx h0 h3) (by decide)
      · rw [e1] at h0
        have h0 : xe_kd 1 v = true := h0
        obtain ⟨a, ea⟩ := xs_ref (ad := ad) (sa := sa) (ρ := ρ) h0
        rw [ea] at q ⊢
        rcases hi with ⟨rfl, rfl⟩ | ⟨rfl, rfl⟩ | ⟨rfl, rfl⟩
        · exact absurd (xs_kdx h0 h3) (by decide)
        · exact absurd (xs_kdx h0 h3) (by decide)
        · exact W.aret hx hb2 (hrt.trans e2) (Or.inl ⟨n, rfl⟩) (Or.inr ⟨a, rfl⟩) (fun t ht _ => q t ht) hS.2.2 hdec hlk
      · rw [e1] at h0
        have h0 : (decide (v = .int 0) || decide (v = .int 1)) = true := h0
        simp only [Bool.or_eq_true, decide_eq_true_eq] at h0
        rcases hi with ⟨rfl, rfl⟩ | ⟨rfl, rfl⟩ | ⟨rfl, rfl⟩
        · rcases h0 with rfl | rfl
          · exact W.zret (v := 0) hx hb2 (hrt.trans e2) rfl (fun t ht _ => q t ht) hS.2.2 hdec hlk
          · exact W.zret (v := 1) hx hb2 (hrt.trans e2) rfl (fun t ht _ => q t ht) hS.2.2 hdec hlk
        · rcases h0 with rfl | rfl <;> cases h3
        · rcases h0 with rfl | rfl <;> cases h3
  · cases hrun
end
end
end
section
section
variable {l : Launch} {G : xe_G} {ρ : Nat → Int32} {f : Nat} {y : Nat} {M : xe_M} {d : xd_D} {tl : List xe_I} {pc : Nat} {al : List (Nat × Value)} {st : List Value} {w : xe_W} {nc ns : Nat} {r : xe_R} {p : Program} {e : Env} {R : Room} {s : State} {m : MethodId} {args : Array Value} {below : List Frame} {meth : Method} {c : Code} {H : Heap} {locs : List Loc} {ls : Array Slot} {ad ad0 : Nat → Nat} {n0 : Nat} {A : Nat → Prop} {D : va_G} {dA : Nat → ClassId} {sa : UInt32 → Nat}
theorem xd_exOk {k : Nat} (h : k < 2) : Bundle.fit (xd_ex k) = true ∧ (xs_i ρ (.int (Int32.ofNat k))).toNatClampNeg = k := by
  match k, h with
  | 0, _ => exact ⟨by decide +kernel, show (Int32.ofNat 0).toNatClampNeg = 0 by decide⟩
  | 1, _ => exact ⟨by decide +kernel, show (Int32.ofNat 1).toNatClampNeg = 1 by decide⟩
theorem xd_nmOk : ∀ n ∈ xd_nm, Bundle.fit n = true := by decide +kernel
theorem xd_six {k : Nat} (h : k < 2) : xh_six (xd_ix k) (xd_rx k) := by
  match k, h with
  | 0, _ => exact ⟨by decide +kernel, by decide +kernel, by decide +kernel, by decide +kernel⟩
  | 1, _ => exact ⟨by decide +kernel, by decide +kernel, by decide +kernel, by decide +kernel⟩
theorem xs_bThrow_ok (hl : l.stackTraces = false) (hM : xe_P[y]? = some M) (hd : xd_P[y]? = some d) (rr : xe_K) {i : Instr} {len : Nat} {res : List Nat} {k is ic x : Nat} (hdec : decode d.2.2.1 pc = .ok (i, len)) (hk : len = 3 ∧ xk_Thr d pc i k is ic x) (hrun : xe_bThrow k xe_P G xe_Z rr M (pc, i, len, res) tl pc al st w nc ns = some r) (hI : xs_In (xs_Ls G ρ) M d w al p R s m args meth c H locs ls ad ad0 n0 A D dA sa ρ) :
    W p l e R s m args below meth c H locs nc ns (xs_FQ D dA sa ρ ad0 n0 M.2.2.2.1 M.2.2.2.2.1 A r below args s) (F0 m pc ls (st.map (xs_v ad sa ρ))) := by
  obtain ⟨rfl, hown9, hhh, hk2, hd3, ⟨ik, text, rfl, hstr, hw1, hw2, hgood⟩, hat, hx9⟩ := hk
  unfold xe_bThrow at hrun
  cases hb : Nat.ble (nc + 1) M.2.2.2.1 && Nat.ble (ns + 6) M.2.2.2.2.1 && Nat.ble st.length 4 with
  | false => rw [hb] at hrun; cases hrun
  | true =>
    rw [hb] at hrun
    cases hrun
    simp only [Bool.and_eq_true, Nat.ble_eq] at hb
    obtain ⟨⟨h1, h2⟩, h3⟩ := hb
    obtain ⟨hE, hrt, htab, ⟨hlv, hP, hD, hS⟩, hag, hn0, hrm⟩ := hI
    obtain ⟨hx, hb2, hml, hown, hts, hK, hA, hX, hNw, hini, hlk⟩ := hE
    obtain ⟨a, ha⟩ := hNw.2.2.2.2.2.2.2.1 _ hstr
    have hr8 := xs_room (ad := ad) (sa := sa) (ρ := ρ) h3
    have hown : s.vm.findClass "TingDecks" = some m.cls := by rw [← hown9]; exact hown
    have hat2 : ∀ w ∈ xd_at k ic, w.before args s = true := fun w0 hw0 => (hat w0 hw0).elim (fun h => hts w0 h) (fun h => va_Nw.use ?_ (hNw.2.2.2.2.2.2.1 w0 h))
    have hout : ∀ (z : ExceptionTableEntry) , z ∈ c.exceptionTable.toList → False := fun z hz => by
      rw [htab, hhh] at hz
      cases hz
    have hxx : ∀ t : State, s.vm.Alike t.vm → H.size ≤ t.heap.size → (∀ q : Nat, q < H.size → t.heap[q]? = H[q]?) → xs_XC D dA sa ρ ad0 n0 M.2.2.2.1 A (2, .int (Int32.ofNat k), w) (xd_ex k) s t := by
      intro t _ hz hq
      refine ⟨by rw [(xd_exOk (ρ := ρ) hk2).2], ⟨ad, hag, hn0, hP.kept (fun j q hj => hq _ (hP j q hj).lt), hD⟩, Nat.le_trans hS.1 hz, fun q h4 h5 => (hq q (Nat.lt_of_lt_of_le h4 hS.1)).trans (hS.2.1 q h4 h5)⟩
    show W p l e R s m args below meth c H locs nc ns (vx_MQ below (fun _ _ _ _ => False) (xs_XC D dA sa ρ ad0 n0 M.2.2.2.1 A (2, .int (Int32.ofNat k), w)) args s M.2.2.2.1 M.2.2.2.2.1 A) (F0 m pc ls (st.map (xs_v ad sa ρ)))
    have hlen : (xd_nm.length) = 1 := rfl
    rcases hx9 with ⟨-, hd4, hd6, hd9⟩ | ⟨-, hd4, hd6, hd9⟩
    · exact xh_throwS (own := "TingDecks") (cls := xd_ex k) (Y1 := "java/lang/RuntimeException") (text := text) (names := xd_nm) (A := A) hx hb2 hl (xd_six hk2) hown (xd_exOk (ρ := ρ) hk2).1 (by decide +kernel) xd_nmOk (hts _ hw1) (hts _ hw2) ha hat2 hgood hX.2.2.1 hX.2.2.2.1 hS (by rw [hml]; exact hlv.1) hdec hd3 hd4 hd6 hd9 (fun z hz => (hout z hz).elim) (by rw [hlen]; omega) (by rw [hlen]; omega) (by omega) (by omega) hlk hxx hS.2.2 h1 h2
    · exact xh_throwSW (own := "TingDecks") (cls := xd_ex k) (Y1 := "java/lang/RuntimeException") (text := text) (names := xd_nm) (A := A) hx hb2 hl (xd_six hk2) hown (xd_exOk (ρ := ρ) hk2).1 (by decide +kernel) xd_nmOk (hts _ hw1) (hts _ hw2) ha hat2 hgood hX.2.2.1 hX.2.2.2.1 hS (by rw [hml]; exact hlv.1) hdec hd3 hd4 hd6 hd9 (fun z hz => (hout z hz).elim) (by rw [hlen]; omega) (by rw [hlen]; omega) (by omega) (by omega) hlk hxx hS.2.2 h1 h2
    · simp only [xw_N, List.mem_cons, List.not_mem_nil, or_false] at h
      rcases h with rfl | rfl | rfl | rfl | rfl | rfl | rfl | rfl <;> rfl
theorem xs_copy_get (sr dt : List (Nat × Value)) (sp dp n : Nat) : ∀ j, xe_get 1 (xe_copy sr dt sp dp n) j = if dp ≤ j ∧ j < dp + n then xe_get 1 sr (sp + (j - dp)) else xe_get 1 dt j := by
  induction n with
  | zero =>
    intro j
    rw [if_neg (by omega)]
    rfl
  | succ n ih =>
    intro j
    show xe_get 1 (xe_put 1 (xe_copy sr dt sp dp n) (dp + n) (xe_get 1 sr (sp + n))) j = _
    rw [xe_get_put, ih]
    by_cases h : j = dp + n
    · rw [if_pos h, if_pos (by omega), h, show dp + n - dp = n by omega]
    · rw [if_neg h]
      by_cases h2 : dp ≤ j ∧ j < dp + n
      · rw [if_pos h2, if_pos (by omega)]
      · rw [if_neg h2, if_neg (by omega)]
theorem xs_copy_cpy (ρ : Nat → Int32) (sr dt : List (Nat × Value)) (sp dp n : Nat) : va_cpy (fun j => xs_i ρ (xe_get 1 sr j)) (fun j => xs_i ρ (xe_get 1 dt j)) sp dp n = fun j => xs_i ρ (xe_get 1 (xe_copy sr dt sp dp n) j) := by
  funext j
  rw [xs_copy_get]
  unfold va_cpy
  split <;> rfl
theorem xs_SF_rho (ρ : Nat → Int32) (j : Nat) : xs_sf j = xs_i ρ (xe_get 1 xe_SF j) := by
  show xs_i (fun _ => 0) (xe_get 1 xe_SF j) = _
  have h : ∀ v, xe_get 1 xe_SF j = v → (∃ x, v = .int x) := by
    intro v hv
    rw [← hv]
    match j with
    | 0 => exact ⟨_, rfl⟩
    | 1 => exact ⟨_, rfl⟩
    | 2 => exact ⟨_, rfl⟩
    | 3 => exact ⟨_, rfl⟩
    | 4 => exact ⟨_, rfl⟩
    | k + 5 => exact ⟨0, rfl⟩
  obtain ⟨x, hx⟩ := h _ rfl
  rw [hx]
  rfl
theorem xs_SF_fun (ρ : Nat → Int32) : xs_sf = fun j => xs_i ρ (xe_get 1 xe_SF j) := funext (xs_SF_rho ρ)
theorem xs_bCopy_ok (ih : xs_S l G ρ f) (hM : xe_P[y]? = some M) (hd : xd_P[y]? = some d) (hcur : ∀ e ∈ tl, e ∈ M.1) {i : Instr} {len : Nat} {res : List Nat} (hdec : decode d.2.2.1 pc = .ok (i, len)) (hk : ∃ idx, i = .invokestatic idx ∧ len = 3 ∧ Cond.methodLink d.1 idx arraycopyName ∈ xw_T ∧ Cond.native arraycopyName ∈ xw_T ∧ Cond.static arraycopyName ∈ xw_T ∧ Cond.initialized "java/lang/System" ∈ xw_T) (hrun : xe_bCopy xe_P G xe_Z (xe_run xe_P G xe_Z f) M (pc, i, len, res) tl pc al st w nc ns = some r) (hI : xs_In (xs_Ls G ρ) M d w al p R s m args meth c H locs ls ad ad0 n0 A D dA sa ρ) :
    W p l e R s m args below meth c H locs nc ns (xs_FQ D dA sa ρ ad0 n0 M.2.2.2.1 M.2.2.2.2.1 A r below args s) (F0 m pc ls (st.map (xs_v ad sa ρ))) := by
  obtain ⟨idx, rfl, rfl, h1, h2, h3, h4⟩ := hk
  obtain ⟨hx, hb2, hml, hown, hts, hK, hA, hX, hNw, hini, hlk⟩ := id hI.1
  obtain ⟨hlv, hP, hD, hS⟩ := hI.2.2.2.1
  have hrm := hI.2.2.2.2.2.2
  have hnf : nativeFrameWords "java/lang/System" "arraycopy" 5 + 11 ≤ 700 := by decide +kernel
  unfold xe_bCopy at hrun
  split at hrun
  · next n dp b sp s0 rest =>
    rw [xe_nth_eq] at hrun
    split at hrun
    · next ty mm dt n1 dp1 sp1 hc hn1 hn2 hn3 =>
      obtain ⟨a1, a2, a3⟩ := xs_nn_ok hn1
      obtain ⟨b1, b2, b3⟩ := xs_nn_ok hn2
      obtain ⟨c1, c2, c3⟩ := xs_nn_ok hn3
      cases hb : Nat.beq ty 1 && Nat.ble (dp1 + n1) mm && Nat.ble rest.length 4 with
      | false => rw [hb] at hrun; cases hrun
      | true =>
        rw [hb] at hrun
        simp only [Bool.and_eq_true, Nat.ble_eq] at hb
        obtain ⟨⟨g1, g2⟩, g3⟩ := hb
        have g1 := Nat.eq_of_beq_eq_true g1
        subst g1
        have hr8 := xs_room (ad := ad) (sa := sa) (ρ := ρ) g3
        dsimp only [cond_true] at hrun
        split at hrun
        · next a =>
          rw [xe_nth_eq] at hrun
          split at hrun
          · next ty2 m2 sr hc2 =>
            cases hb : Nat.beq ty2 1 && Nat.ble (sp1 + n1) m2 with
            | false => rw [hb] at hrun; cases hrun
            | true =>
              rw [hb] at hrun
              simp only [Bool.and_eq_true, Nat.ble_eq] at hb
              obtain ⟨g4, g5⟩ := hb
              have g4 := Nat.eq_of_beq_eq_true g4
              subst g4
              dsimp only [cond_true] at hrun
              refine va_copyi (ty := .int) hx hb2 (by rw [hml]; exact hlv.1.symm) hown (hts _ h1) (hts _ h2) (hts _ h3) (hts _ h4) hK hP hD hS a b 1 1 (xs_w_get ad sa ρ dA hc2) (xs_w_get ad sa ρ dA hc) rfl rfl rfl c1 b1 a1 (by rw [c2, a2]; exact g5) (by rw [b2, a2]; exact g2) (fun _ _ => rfl) (by omega) (by omega) hdec (fun H1 locs1 hP1 hD1 hS1 => ?_)
              rw [c2, b2, a2, xs_copy_cpy] at hP1 hD1
              have e4 := xs_w_set ad sa ρ dA w b (.inl (1, mm, xe_copy sr dt sp1 dp1 n1))
              rw [← xe_set_eq w] at e4
              exact xs_go ih hM hd hcur hrun ⟨hI.1, hI.2.1, hI.2.2.1, ⟨hlv, by rw [← e4]; exact hP1, by rw [← e4]; exact hD1, hS1⟩, hI.2.2.2.2.1, Nat.le_trans hI.2.2.2.2.2.1 (xs_len_set _ _ _), hrm⟩
          · cases hrun
        · next u =>
          cases hb : decide (u = 0) && Nat.ble (sp1 + n1) 5 with
          | false => rw [hb] at hrun; cases hrun
          | true =>
            rw [hb] at hrun
            dsimp only [cond_true] at hrun
            rw [Bool.and_eq_true, decide_eq_true_eq] at hb
            obtain ⟨hu, hb⟩ := hb
            subst hu
            refine va_copyx hx hb2 (by rw [hml]; exact hlv.1.symm) hown (hts _ h1) (hts _ h2) (hts _ h3) (hts _ h4) hK hP hD hS hX.2.1.1 (Array.getElem?_eq_some_iff.mp hX.2.1.2.2.choose_spec.1).1 hX.2.1.2.1 b 1 (xs_w_get ad sa ρ dA hc) rfl c1 b1 a1 (by rw [c2, a2]; exact Nat.ble_eq.mp hb) (by rw [b2, a2]; exact g2) (by omega) (by omega) hdec (fun H1 locs1 hP1 hD1 hS1 => ?_)
            rw [c2, b2, a2, xs_SF_fun ρ, xs_copy_cpy] at hP1 hD1
            have e4 := xs_w_set ad sa ρ dA w b (.inl (1, mm, xe_copy xe_SF dt sp1 dp1 n1))
            rw [← xe_set_eq w] at e4
            exact xs_go ih hM hd hcur hrun ⟨hI.1, hI.2.1, hI.2.2.1, ⟨hlv, by rw [← e4]; exact hP1, by rw [← e4]; exact hD1, hS1⟩, hI.2.2.2.2.1, Nat.le_trans hI.2.2.2.2.2.1 (xs_len_set _ _ _), hrm⟩
        · cases hrun
    · cases hrun
  · cases hrun
end
end
section
/-! a loop that copies zeros over zeros -/
section
variable {l : Launch} {G : xe_G} {ρ : Nat → Int32} {f : Nat} {y : Nat} {M : xe_M} {d : xd_D} {tl : List xe_I} {pc : Nat} {al : List (Nat × Value)} {st : List Value} {w : xe_W} {nc ns : Nat} {r : xe_R} {p : Program} {e : Env} {R : Room} {s : State} {m : MethodId} {args : Array Value} {below : List Frame} {meth : Method} {c : Code} {H : Heap} {locs : List Loc} {ls : Array Slot} {ad ad0 : Nat → Nat} {n0 : Nat} {A : Nat → Prop} {D : va_G} {dA : Nat → ClassId} {sa : UInt32 → Nat} {Q : State → Prop}
theorem xs_one (hG : xs_G G ρ) (hI : xs_In (xs_Ls G ρ) M d w al p R s m args meth c H locs ls ad ad0 n0 A D dA sa ρ) {i : Instr} {len : Nat} (hdec : decode d.2.2.1 pc = .ok (i, len)) (hn : len = xk_ln i len) (hL : xk_L d.1 d.2.2.2.1 d.2.2.2.2.2.1 i []) (pc2 : Nat) (al2 : List (Nat × Value)) (st2 : List Value) (h : xe_step i G xe_Z M.2.2.2.1 M.2.2.2.2.1 pc len [] al st w nc ns = some (pc2, al2, st2, w, nc, ns))
    (kk : ∀ (ad2 : Nat → Nat) (ls2 : Array Slot) (H2 : Heap) (locs2 : List Loc), xs_In (xs_Ls G ρ) M d w al2 p R s m args meth c H2 locs2 ls2 ad2 ad0 n0 A D dA sa ρ → W p l e R s m args below meth c H2 locs2 nc ns Q (F0 m pc2 ls2 (st2.map (xs_v ad2 sa ρ)))) : W p l e R s m args below meth c H locs nc ns Q (F0 m pc ls (st.map (xs_v ad sa ρ))) := by
  refine xs_stp hI.1 hG hI.2.2.2.1 hI.2.2.2.2.2.2.2.2 hdec hn hL h ?_
  intro ad2 ls2 H2 locs2 hag hlen hR2
  exact kk ad2 ls2 H2 locs2 ⟨hI.1, hI.2.1, hI.2.2.1, hR2, xs_ag_trans hI.2.2.2.2.1 hag hI.2.2.2.2.2.1, Nat.le_trans hI.2.2.2.2.2.1 hlen, hI.2.2.2.2.2.2⟩
theorem xe_look_flt {q : Nat × Value → Bool} {i : Nat} {v : Value} (hq : q (i, v) = true) (al : List (Nat × Value)) (h : xe_look al i = some v) : xe_look (xe_flt q al) i = some v := by
  induction al with
  | nil => cases h
  | cons a t ih =>
    rw [xe_look_cons] at h
    show xe_look (bif q a then a :: xe_flt q t else xe_flt q t) i = some v
    cases hb : Nat.beq a.1 i with
    | true =>
      rw [hb] at h
      have e1 : a.1 = i := Nat.eq_of_beq_eq_true hb
      have e2 : a.2 = v := Option.some.inj h
      have e3 : a = (i, v) := Prod.ext e1 e2
      rw [e3, hq]
      show xe_look ((i, v) :: xe_flt q t) i = some v
      rw [xe_look_cons, Nat.beq_refl]
      rfl
    | false =>
      rw [hb] at h
      cases q a with
      | true =>
        show xe_look (a :: xe_flt q t) i = some v
        rw [xe_look_cons, hb]
        exact ih h
      | false => exact ih h
theorem xe_zF_cons (x : Value) (al : List (Nat × Value)) : xe_zF ((3, x) :: al) = xe_zF al := rfl
theorem xe_zF_zF (al : List (Nat × Value)) : xe_zF (xe_zF al) = xe_zF al := by
  unfold xe_zF
  rw [xe_flt_eq, xe_flt_eq, List.filter_filter]
  congr 1
  funext q
  rw [Bool.and_self]
theorem xs_set_same (w : xe_W) (b : Nat) (c : xe_C) (h : w[b]? = some c) : xe_set w c b = w := by
  rw [xe_set_eq]
  apply List.ext_getElem?
  intro j
  rw [List.getElem?_set]
  by_cases hj : b = j
  · subst hj
    rw [if_pos rfl, h, if_pos (List.getElem?_eq_some_iff.mp h).1]
  · rw [if_neg hj]
theorem xs_zToInt {j : Nat} (h : j < 2147483648) : (Int32.ofNat j).toInt = (j : Int) := Int32.toInt_ofNat_of_lt h
theorem xs_zNn {j : Nat} (h : j < 2147483648) : xe_nn (Int32.ofNat j) = some j := by
  unfold xe_nn
  rw [xs_zToInt h]
theorem xs_zCmp {G : xe_G} {x y : Int32} (h : x.toInt ≤ y.toInt) : xe_cmp G .ge (.int x) (.int y) = some (decide (x.toInt = y.toInt)) := by
  have e : xe_cmp G .ge (.int x) (.int y) = some (Nat.ble (xe_bi y) (xe_bi x)) := rfl
  rw [e]
  have hq := xe_bi_lt x y
  rw [Int32.lt_iff_toInt_lt] at hq
  refine congrArg some ?_
  by_cases h2 : x.toInt = y.toInt
  · rw [decide_eq_true h2, Int32.toInt_inj.mp h2]
    exact Nat.ble_eq.mpr (Nat.le_refl _)
  · rw [decide_eq_false h2]
    have h1 : xe_bi x < xe_bi y := hq.mpr (by omega)
    exact Bool.eq_false_iff.mpr (fun z => by have := Nat.ble_eq.mp z; omega)
theorem xs_zLen {G : xe_G} {mc ms a n : Nat} {ty : List (Nat × Value)} {st : List Value} (h : w[a]? = some (.inl (1, n, ty))) : xe_iLen G xe_Z mc ms 4 1 [] al (.ref a :: st) w nc ns = some (5, al, .int (Int32.ofNat n) :: st, w, nc, ns) := by
  unfold xe_iLen
  dsimp only
  rw [xe_nth_eq, h]
  rfl
theorem xs_zIf {G : xe_G} {mc ms : Nat} {v u : Value} {r : Bool} (h : xe_cmp G .ge v u = some r) : xe_iCmp .ge 15 G xe_Z mc ms 5 3 [] al [u, v] w nc ns = some (bif r then 20 else 8, al, [], w, nc, ns) := by
  unfold xe_iCmp
  dsimp only
  rw [h]
  cases r with
  | true => rfl
  | false => rfl
theorem xs_zGet {G : xe_G} {mc ms a j n : Nat} {x : Int32} {st : List Value} (h : w[a]? = some (.inl (1, n, []))) (hx : xe_nn x = some j) (hj : j < n) : xe_iAld 1 0 G xe_Z mc ms 12 1 [] al (.int x :: .ref a :: st) w nc ns = some (13, al, .int 0 :: st, w, nc, ns) := by
  unfold xe_iAld
  dsimp only
  rw [xe_nth_eq, h, hx]
  dsimp only
  have e1 : Nat.blt j n = true := Nat.ble_eq.mpr hj
  rw [e1]
  rfl
theorem xs_zPut {G : xe_G} {mc ms b j mm : Nat} {x : Int32} {st : List Value} (h : w[b]? = some (.inl (1, mm, []))) (hx : xe_nn x = some j) (hj : j < mm) : xe_iAst 1 0 G xe_Z mc ms 13 1 [] al (.int 0 :: .int x :: .ref b :: st) w nc ns = some (14, al, st, w, nc, ns) := by
  unfold xe_iAst
  dsimp only
  rw [xe_nth_eq, h, hx]
  dsimp only
  have e1 : Nat.blt j mm = true := Nat.ble_eq.mpr hj
  have e2 : xe_put 1 [] j (.int 0) = [] := if_pos rfl
  rw [e1, e2, xs_set_same _ _ _ h]
  rfl
theorem xs_zInc {G : xe_G} {mc ms : Nat} {x : Int32} (h : xe_look al 3 = some (.int x)) : xe_iInc 3 1 G xe_Z mc ms 14 3 [] al [] w nc ns = some (17, (3, .int (x + Int32.ofInt 1)) :: xe_zF al, [], w, nc, ns) := by
  unfold xe_iInc
  rw [h]
  dsimp only
  rw [xe_mk_eq]
  rfl
theorem xs_zLd {G : xe_G} {mc ms kd k pc : Nat} {v : Value} {st : List Value} (h : xe_look al k = some v) (hk : xe_kd kd v = true) : xe_iL kd k G xe_Z mc ms pc 1 [] al st w nc ns = some (pc + 1, al, v :: st, w, nc, ns) := by
  unfold xe_iL
  rw [h]
  dsimp only
  rw [hk]
  rfl
/-- what holds of the locals and cells -/
def xs_zI (al : List (Nat × Value)) (w : xe_W) (j a b n mm : Nat) : Prop := xe_look al 3 = some (.int (Int32.ofNat j)) ∧ xe_look al 1 = some (.ref a) ∧ xe_look al 2 = some (.ref b) ∧ w[a]? = some (.inl (1, n, [])) ∧ w[b]? = some (.inl (1, mm, [])) ∧ n ≤ mm ∧ n < 2147483648
/-- the loop's head -/
theorem xs_zHead (hG : xs_G G ρ) (hZ : xk_Z d) {j a b n mm : Nat} (hz : xs_zI al w j a b n mm) (hj : j ≤ n) (hI : xs_In (xs_Ls G ρ) M d w al p R s m args meth c H locs ls ad ad0 n0 A D dA sa ρ)
    (k1 : j = n → ∀ (ad2 : Nat → Nat) (ls2 : Array Slot) (H2 : Heap) (locs2 : List Loc), xs_In (xs_Ls G ρ) M d w al p R s m args meth c H2 locs2 ls2 ad2 ad0 n0 A D dA sa ρ → W p l e R s m args below meth c H2 locs2 nc ns Q (F0 m 20 ls2 []))
    (k2 : j < n → ∀ (ad2 : Nat → Nat) (ls2 : Array Slot) (H2 : Heap) (locs2 : List Loc), xs_In (xs_Ls G ρ) M d w al p R s m args meth c H2 locs2 ls2 ad2 ad0 n0 A D dA sa ρ → W p l e R s m args below meth c H2 locs2 nc ns Q (F0 m 8 ls2 [])) :
    W p l e R s m args below meth c H locs nc ns Q (F0 m 2 ls []) := by
  obtain ⟨z3, z1, z2, za, zb, zn, zl⟩ := hz
  obtain ⟨d2, d3, d4, d5, d8, d9, d10, d11, d12, d13, d14, d17, dl⟩ := hZ
  have hxi : (Int32.ofNat j).toInt = (j : Int) := xs_zToInt (by omega)
  have hyi : (Int32.ofNat n).toInt = (n : Int) := xs_zToInt zl
  have hlen := xs_zLen (G := G) (mc := M.2.2.2.1) (ms := M.2.2.2.2.1) (al := al) (nc := nc) (ns := ns) (st := [.int (Int32.ofNat j)]) za
  generalize Int32.ofNat j = x at z3 hxi hlen
  generalize Int32.ofNat n = y at hyi hlen
  refine xs_one (st := []) hG hI d2 rfl trivial 3 al [.int x] (xs_zLd (G := G) (mc := M.2.2.2.1) (ms := M.2.2.2.2.1) z3 rfl) ?_
  intro ad ls H locs hI
  refine xs_one hG hI d3 rfl trivial 4 al [.ref a, .int x] (xs_zLd (G := G) (mc := M.2.2.2.1) (ms := M.2.2.2.2.1) z1 rfl) ?_
  intro ad ls H locs hI
  refine xs_one hG hI d4 rfl trivial 5 al [.int y, .int x] hlen ?_
  intro ad ls H locs hI
  have hif := xs_zIf (mc := M.2.2.2.1) (ms := M.2.2.2.2.1) (al := al) (w := w) (nc := nc) (ns := ns) (xs_zCmp (G := G) (x := x) (y := y) (by omega))
  by_cases h : j = n
  · rw [decide_eq_true (by omega)] at hif
    exact xs_one hG hI d5 rfl trivial 20 al [] hif (k1 h)
  · rw [decide_eq_false (by omega)] at hif
    exact xs_one hG hI d5 rfl trivial 8 al [] hif (k2 (by omega))
/-- one turn -/
theorem xs_zTurn (hG : xs_G G ρ) (hZ : xk_Z d) {j a b n mm : Nat} (hz : xs_zI al w j a b n mm) (hj : j < n) (hI : xs_In (xs_Ls G ρ) M d w al p R s m args meth c H locs ls ad ad0 n0 A D dA sa ρ)
    (k1 : ∀ (ad2 : Nat → Nat) (ls2 : Array Slot) (H2 : Heap) (locs2 : List Loc), xs_In (xs_Ls G ρ) M d w ((3, .int (Int32.ofNat (j + 1))) :: xe_zF al) p R s m args meth c H2 locs2 ls2 ad2 ad0 n0 A D dA sa ρ → W p l e R s m args below meth c H2 locs2 nc ns Q (F0 m 2 ls2 [])) :
    W p l e R s m args below meth c H locs nc ns Q (F0 m 8 ls []) := by
  obtain ⟨z3, z1, z2, za, zb, zn, zl⟩ := hz
  obtain ⟨d2, d3, d4, d5, d8, d9, d10, d11, d12, d13, d14, d17, dl⟩ := hZ
  have hxi : xe_nn (Int32.ofNat j) = some j := xs_zNn (by omega)
  have hx1 : Int32.ofNat j + Int32.ofInt 1 = Int32.ofNat (j + 1) := by rw [Int32.ofNat_add]; rfl
  generalize Int32.ofNat j = x at z3 hxi hx1
  generalize Int32.ofNat (j + 1) = x1 at hx1 k1
  refine xs_one (st := []) hG hI d8 rfl trivial 9 al [.ref b] (xs_zLd (G := G) (mc := M.2.2.2.1) (ms := M.2.2.2.2.1) z2 rfl) ?_
  intro ad ls H locs hI
  refine xs_one hG hI d9 rfl trivial 10 al [.int x, .ref b] (xs_zLd (G := G) (mc := M.2.2.2.1) (ms := M.2.2.2.2.1) z3 rfl) ?_
  intro ad ls H locs hI
  refine xs_one hG hI d10 rfl trivial 11 al [.ref a, .int x, .ref b] (xs_zLd (G := G) (mc := M.2.2.2.1) (ms := M.2.2.2.2.1) z1 rfl) ?_
  intro ad ls H locs hI
  refine xs_one hG hI d11 rfl trivial 12 al [.int x, .ref a, .int x, .ref b] (xs_zLd (G := G) (mc := M.2.2.2.1) (ms := M.2.2.2.2.1) z3 rfl) ?_
  intro ad ls H locs hI
  refine xs_one hG hI d12 rfl trivial 13 al [.int 0, .int x, .ref b] (xs_zGet (G := G) (mc := M.2.2.2.1) (ms := M.2.2.2.2.1) za hxi hj) ?_
  intro ad ls H locs hI
  refine xs_one hG hI d13 rfl trivial 14 al [] (xs_zPut (G := G) (mc := M.2.2.2.1) (ms := M.2.2.2.2.1) zb hxi (Nat.lt_of_lt_of_le hj zn)) ?_
  intro ad ls H locs hI
  have hinc := xs_zInc (G := G) (mc := M.2.2.2.1) (ms := M.2.2.2.2.1) (w := w) (nc := nc) (ns := ns) z3
  rw [hx1] at hinc
  refine xs_one hG hI d14 rfl dl 17 ((3, .int x1) :: xe_zF al) [] hinc ?_
  intro ad ls H locs hI
  exact xs_one hG hI d17 rfl trivial 2 ((3, .int x1) :: xe_zF al) [] rfl k1
theorem xs_zNext {j a b n mm : Nat} (hz : xs_zI al w j a b n mm) : xs_zI ((3, .int (Int32.ofNat (j + 1))) :: xe_zF al) w (j + 1) a b n mm := by
  obtain ⟨z3, z1, z2, za, zb, zn, zl⟩ := hz
  exact ⟨rfl, xe_look_flt rfl al z1, xe_look_flt rfl al z2, za, zb, zn, zl⟩
theorem xs_zLoop (hG : xs_G G ρ) (hZ : xk_Z d) {a b n mm : Nat} (al0 : List (Nat × Value)) (h0 : xe_zF al0 = al0) (kend : ∀ (ad2 : Nat → Nat) (ls2 : Array Slot) (H2 : Heap) (locs2 : List Loc), xs_In (xs_Ls G ρ) M d w ((3, .int (Int32.ofNat n)) :: al0) p R s m args meth c H2 locs2 ls2 ad2 ad0 n0 A D dA sa ρ → W p l e R s m args below meth c H2 locs2 nc ns Q (F0 m 20 ls2 [])) (k : Nat) :
    ∀ (j : Nat), j + k = n → xs_zI ((3, .int (Int32.ofNat j)) :: al0) w j a b n mm → ∀ (ad : Nat → Nat) (ls : Array Slot) (H : Heap) (locs : List Loc), xs_In (xs_Ls G ρ) M d w ((3, .int (Int32.ofNat j)) :: al0) p R s m args meth c H locs ls ad ad0 n0 A D dA sa ρ → W p l e R s m args below meth c H locs nc ns Q (F0 m 2 ls []) := by
  induction k with
  | zero =>
    intro j hj hz ad ls H locs hI
    have e : j = n := by omega
    subst e
    exact xs_zHead hG hZ hz (Nat.le_refl _) hI (fun _ => kend) (fun h => absurd h (Nat.lt_irrefl _))
  | succ k ih =>
    intro j hj hz ad ls H locs hI
    refine xs_zHead hG hZ hz (by omega) hI (fun h => by omega) (fun h ad2 ls2 H2 locs2 hI2 => ?_)
    refine xs_zTurn hG hZ hz h hI2 (fun ad3 ls3 H3 locs3 hI3 => ?_)
    have hz2 := xs_zNext hz
    rw [xe_zF_cons, h0] at hI3 hz2
    exact ih (j + 1) (by omega) hz2 ad3 ls3 H3 locs3 hI3
theorem xe_zero_ok {n : Nat} (h : xe_zero al w = some n) : ∃ a b mm : Nat, xs_zI al w 0 a b n mm ∧ 0 < n := by
  unfold xe_zero at h
  split at h
  · next i a b h3 h1 h2 =>
    rw [xe_nth_eq, xe_nth_eq] at h
    split at h
    · next ta n1 tb mm ha hb =>
      cases hc : Nat.beq ta 1 && Nat.beq tb 1 && Nat.ble n1 mm && Nat.blt n1 2147483648 && Nat.blt 0 n1 && decide (i = 0) with
      | false => rw [hc] at h; cases h
      | true =>
        rw [hc] at h
        cases h
        simp only [Bool.and_eq_true, decide_eq_true_eq] at hc
        obtain ⟨⟨⟨⟨⟨c1, c2⟩, c3⟩, c4⟩, c5⟩, c6⟩ := hc
        have c1 := Nat.eq_of_beq_eq_true c1
        have c2 := Nat.eq_of_beq_eq_true c2
        subst c1; subst c2; subst c6
        exact ⟨a, b, mm, ⟨h3, h1, h2, ha, hb, Nat.ble_eq.mp c3, Nat.ble_eq.mp c4⟩, Nat.ble_eq.mp c5⟩
    · cases h
  · cases h
theorem xs_bZero_ok (hG : xs_G G ρ) (ih : xs_S l G ρ f) (hM : xe_P[y]? = some M) (hd : xd_P[y]? = some d) (hcur : ∀ e ∈ tl, e ∈ M.1) {i : Instr} {len : Nat} {res : List Nat} (hdec : decode d.2.2.1 pc = .ok (i, len)) (hk : pc = 2 ∧ i = .iload_n 3 ∧ len = 1 ∧ xk_Z d) (hrun : xe_bZero xe_P G xe_Z (xe_run xe_P G xe_Z f) M (pc, i, len, res) tl pc al st w nc ns = some r) (hI : xs_In (xs_Ls G ρ) M d w al p R s m args meth c H locs ls ad ad0 n0 A D dA sa ρ) :
    W p l e R s m args below meth c H locs nc ns (xs_FQ D dA sa ρ ad0 n0 M.2.2.2.1 M.2.2.2.2.1 A r below args s) (F0 m pc ls (st.map (xs_v ad sa ρ))) := by
  obtain ⟨rfl, rfl, rfl, hZ⟩ := hk
  unfold xe_bZero at hrun
  split at hrun
  · next n hz =>
    obtain ⟨a, b, mm, hi, hn⟩ := xe_zero_ok hz
    have hfin : ∀ (ad2 : Nat → Nat) (ls2 : Array Slot) (H2 : Heap) (locs2 : List Loc), xs_In (xs_Ls G ρ) M d w ((3, .int (Int32.ofNat n)) :: xe_zF al) p R s m args meth c H2 locs2 ls2 ad2 ad0 n0 A D dA sa ρ → W p l e R s m args below meth c H2 locs2 nc ns (xs_FQ D dA sa ρ ad0 n0 M.2.2.2.1 M.2.2.2.2.1 A r below args s) (F0 m 20 ls2 []) := fun ad2 ls2 H2 locs2 hI2 => xs_go ih hM hd (xs_at_mem M.1 20) hrun hI2
    refine xs_zHead hG hZ hi (by omega) hI (fun h => by omega) (fun h ad2 ls2 H2 locs2 hI2 => ?_)
    refine xs_zTurn hG hZ hi h hI2 (fun ad3 ls3 H3 locs3 hI3 => ?_)
    exact xs_zLoop hG hZ (xe_zF al) (xe_zF_zF al) hfin (n - 1) 1 (by omega) (xs_zNext hi) ad3 ls3 H3 locs3 hI3
  · exact xs_bOn_ok hG ih hM hd hcur hdec ⟨rfl, trivial⟩ hrun hI
end
end
section
section
variable {l : Launch} {G : xe_G} {ρ : Nat → Int32} {f : Nat} {y : Nat} {M : xe_M} {d : xd_D} {tl : List xe_I} {pc : Nat} {al : List (Nat × Value)} {st : List Value} {w : xe_W} {nc ns : Nat} {r : xe_R} {p : Program} {e : Env} {R : Room} {s : State} {m : MethodId} {args : Array Value} {below : List Frame} {meth : Method} {c : Code} {H : Heap} {locs : List Loc} {ls : Array Slot} {ad ad0 : Nat → Nat} {n0 : Nat} {A : Nat → Prop} {D : va_G} {dA : Nat → ClassId} {sa : UInt32 → Nat} {Q : State → Prop} {cc : ByteArray} {ws : va_W} {tys : List (ClassId × FieldType)} {rest : List Value} {cells slots : Nat}
/-- 'clone' of the static row -/
theorem xs_cloneT (hexec : p.tables.exec = Jvm.exec) (hb : c.code = cc) (hml : c.maxLocals = ls.size) {own : String} {index : Nat} (hown : s.vm.findClass own = some m.cls)
    (hlink : (Cond.methodLink own index xd_cl).before args s = true) (hsame : (Cond.sameMethod "[I" "java/lang/Object" "clone" "()Ljava/lang/Object;").before args s = true) (hnat : (Cond.native xd_oc).before args s = true) (hinst : (Cond.instanceMethod xd_oc).before args s = true) (hsel : (Cond.selects "[I" xd_cl xd_oc).before args s = true) (hcl : va_Nw (.castable "[I" "java/lang/Cloneable") s)
    (hK : va_K D vwCl tys s) (hP : va_P D vwCl ws H) (hD : va_D A ws) (hS : va_S A s.heap H locs) (hA : ∀ q, s.heap.size ≤ q → A q) (hX : xs_SA (sa 0) A s s.heap) (t0 : Nat) {cA : ClassId} (ht : tys[t0]? = some (cA, .int))
    (hframes : 1 ≤ R.frames) (hlocals : (rest.map fun v => v.category).sum + 14 ≤ R.locals) (hcells : cells + 1 ≤ R.cells) (hslots : slots + 5 ≤ R.slots) (hdg : decode cc pc = .ok (.invokevirtual index, 3))
    (kk : ∀ (q : Nat) (H1 : Heap), va_P D vwCl (ws ++ [(q, .inl (cA, 5, .inl xs_sf))]) H1 → va_D A (ws ++ [(q, .inl (cA, 5, .inl xs_sf))]) → va_S A s.heap H1 locs →
      W p l e R s m args below meth c H1 locs (cells + 1) (slots + 5) Q (F0 m (pc + 3) ls (.ref q :: rest))) : W p l e R s m args below meth c H locs cells slots Q (F0 m pc ls (.ref (sa 0) :: rest)) := by
  obtain ⟨⟨scr, g1, g2, g3, g4, g5⟩, hnA, cell, g6, g7⟩ := hX
  cases Option.some.inj (g6.symm.trans g1)
  have hra := (hK.2 t0 _ ht).2
  have ecA : scr.cls = cA := Option.some.inj (g7.symm.trans hra)
  have hslE : scr.slots = (arrV cA 5 (fun j => .int (xs_sf j))).slots := by
    apply Array.ext_getElem?
    intro j
    by_cases hj : j < 5
    · rw [g5 j hj, arrV_read _ _ hj]
    · rw [Array.getElem?_eq_none (by omega), Array.getElem?_eq_none (by rw [arrV_size]; omega)]
  have hcellE : ({ cls := scr.cls, slots := scr.slots } : Cell) = vp_cell cA (5, .inl xs_sf) := by
    rw [ecA, hslE]
    rfl
  obtain ⟨c0, t0', f1, f2, f3⟩ := Cond.castable_spec (va_Nw.use (A := args) rfl hcl)
  cases Option.some.inj (f1.symm.trans g7)
  intro T hT X
  have hlt : sa 0 < s.heap.size := (Array.getElem?_eq_some_iff.mp g1).1
  have hcellT : T.heap[sa 0]? = some scr := by rw [hT, hS.2.1 (sa 0) hlt hnA]; exact g1
  obtain ⟨hst, kA, hkA, comp, hkind⟩ := State.isArrayOf_alike X.warmed.alike g2
  obtain ⟨-, kS, hkS, compS, hkindS⟩ := g2
  obtain ⟨vm', X', st⟩ := X.cloneArray hexec hown hlink hsame hnat hinst hsel (a := sa 0) (cell := scr) hcellT hst g3 g7 f2 f3
    (fun i v hv => by
      have hj : i < 5 := by
        have := (Array.getElem?_eq_some_iff.mp hv).1
        omega
      rw [g5 i hj] at hv
      cases hv
      have hk' : T.vm.classes[scr.cls]? = some kA := hkA
      simp [State.fitsSlot, State.slotType?, hk', hkind, fits])
    (g := F0 m pc ls (.ref (sa 0) :: rest)) rfl (by rw [hml]) rfl (by rw [hb]; exact hdg) hframes (by show 2 * 0 + _ + 14 ≤ _; omega) hcells (by rw [g4]; exact hslots) (hloader := Vm.clonesLoader_of_array hkS hkindS)
  rw [hcellE, g4] at X'
  generalize hH1 : H.push (vp_cell cA (5, .inl xs_sf)) = H1
  have z1 : H1.size = H.size + 1 := by rw [← hH1, Array.size_push]
  have e1 : H1[H.size]? = some (vp_cell cA (5, .inl xs_sf)) := by rw [← hH1, Array.getElem?_push_size]
  have o1 : ∀ q : Nat, q < H.size → H1[q]? = H[q]? := fun q hq => by rw [← hH1, Array.getElem?_push, if_neg (Nat.ne_of_lt hq)]
  have hk : ∀ (k : Nat) (y : Nat × va_E), ws[k]? = some y → H1[y.1]? = H[y.1]? := fun k y hy => o1 y.1 ((hP k y hy).lt)
  obtain ⟨t, b1, b2⟩ := kk H.size H1 ((hP.kept hk).app (fun k y hy => by
      have hz : k < 1 := (List.getElem?_eq_some_iff.mp hy).1
      rw [show k = 0 by omega] at hy
      cases hy
      exact e1)) (hD.push hP rfl (hA _ hS.1)) ⟨Nat.le_trans hS.1 (by omega), fun y h1 h2 => (o1 y (Nat.lt_of_lt_of_le h1 hS.1)).trans (hS.2.1 y h1 h2), hS.2.2⟩
    ((T.setVm vm').pushCell (vp_cell cA (5, .inl xs_sf))) (by rw [← hH1, ← hT]; rfl) X'
  refine ⟨t, st t ?_, b2⟩
  rw [hcellE, hT]
  exact b1
theorem xs_bClone_ok (hall : xk_All) (ih : xs_S l G ρ f) (hM : xe_P[y]? = some M) (hd : xd_P[y]? = some d) (hcur : ∀ e ∈ tl, e ∈ M.1) {i : Instr} {len : Nat} {res : List Nat} (hdec : decode d.2.2.1 pc = .ok (i, len)) (hk : ∃ idx, i = .invokevirtual idx ∧ len = 3 ∧ Cond.methodLink d.1 idx xd_cl ∈ xw_T ∧ Cond.sameMethod "[I" "java/lang/Object" "clone" "()Ljava/lang/Object;" ∈ xw_T ∧ Cond.native xd_oc ∈ xw_T ∧ Cond.instanceMethod xd_oc ∈ xw_T ∧ Cond.selects "[I" xd_cl xd_oc ∈ xw_T) (hrun : xe_bClone xe_P G xe_Z (xe_run xe_P G xe_Z f) M (pc, i, len, res) tl pc al st w nc ns = some r) (hI : xs_In (xs_Ls G ρ) M d w al p R s m args meth c H locs ls ad ad0 n0 A D dA sa ρ) :
    W p l e R s m args below meth c H locs nc ns (xs_FQ D dA sa ρ ad0 n0 M.2.2.2.1 M.2.2.2.2.1 A r below args s) (F0 m pc ls (st.map (xs_v ad sa ρ))) := by
  obtain ⟨idx, rfl, rfl, h1, h2, h3, h4, h5⟩ := hk
  obtain ⟨hx, hb2, hml, hown, hts, hK, hA, hX, hNw, hini, hlk⟩ := id hI.1
  obtain ⟨hlv, hP, hD, hS⟩ := hI.2.2.2.1
  have hrm := hI.2.2.2.2.2.2
  unfold xe_bClone at hrun
  split at hrun
  · next u rest pc' jdx tl2 =>
    cases hb : decide (u = 0) && Nat.beq pc' (pc + 3) && Nat.ble (nc + 1) M.2.2.2.1 && Nat.ble (ns + 5) M.2.2.2.2.1 && Nat.ble rest.length 4 && xe_ok w.length al rest w with
    | false => rw [hb] at hrun; cases hrun
    | true =>
      rw [hb] at hrun
      dsimp only [cond_true] at hrun
      simp only [Bool.and_eq_true, Nat.ble_eq, decide_eq_true_eq] at hb
      obtain ⟨⟨⟨⟨⟨g0, g1⟩, g2⟩, g3⟩, g4⟩, g5⟩ := hb
      subst g0
      have g1 := Nat.eq_of_beq_eq_true g1
      subst g1
      have hr8 := xs_room (ad := ad) (sa := sa) (ρ := ρ) g4
      obtain ⟨hdec2, kdx, hk1, hk2⟩ := (hall y M d hM hd).1 _ (hcur _ List.mem_cons_self)
      cases hk1
      refine xs_cloneT hx hb2 (by rw [hml]; exact hlv.1.symm) hown (hts _ h1) (hts _ h2) (hts _ h3) (hts _ h4) (hts _ h5) hNw.2.1 hK hP hD hS hA hX.2.1 1 rfl (by omega) (by omega) (by omega) (by omega) hdec (fun q H1 hP1 hD1 hS1 => ?_)
      rw [xs_SF_fun ρ] at hP1 hD1
      have hnm : s.vm.findClass "[I" = some (dA 1) := (hK.2 1 _ rfl).2
      refine va_castA hx hb2 hown (hts _ hk2) hP1 w.length (by rw [List.getElem?_append_right (by rw [xs_w_len]; exact Nat.le_refl _), xs_w_len, Nat.sub_self]; rfl) hnm hdec2 ?_
      obtain ⟨r1, r2⟩ := xs_pushed (st := rest) (c2 := .inl (1, 5, xe_SF)) hlv g5 hP1 hD1 hS1
      have q9 := xs_go (e := e) (below := below) ih hM hd (fun e he => hcur e (List.mem_cons_of_mem _ he)) hrun ⟨hI.1, hI.2.1, hI.2.2.1, r1, xs_ag_trans hI.2.2.2.2.1 (xs_ad_ag g2) hI.2.2.2.2.2.1, Nat.le_trans hI.2.2.2.2.2.1 (by rw [List.length_append]; omega), hrm⟩
      rw [r2] at q9
      exact q9
  · cases hrun
theorem xe_hand_ok {li : List xe_I} {h : Nat} {v : Value} (hh : xe_hand li h = some v) : ∃ (cst : Int) (l1 l2 l3 : Nat) (rs : List xe_I), v = .int (Int32.ofInt cst) ∧ ((∃ k : Fin 4, li = (h, .astore_n k, l1, []) :: (h + 1, .iconst cst, l2, []) :: (h + 2, .ireturn, l3, []) :: rs) ∨ (∃ k : Nat, li = (h, .astore k, l1, []) :: (h + 2, .iconst cst, l2, []) :: (h + 3, .ireturn, l3, []) :: rs)) := by
  unfold xe_hand at hh
  split at hh
  · next p1 k l1 p2 cst l2 p3 l3 rs =>
    cases hb : Nat.beq p1 h && Nat.beq p2 (h + 1) && Nat.beq p3 (h + 2) with
    | false => rw [hb] at hh; cases hh
    | true =>
      rw [hb] at hh
      cases hh
      simp only [Bool.and_eq_true] at hb
      obtain ⟨⟨e1, e2⟩, e3⟩ := hb
      have e1 := Nat.eq_of_beq_eq_true e1
      have e2 := Nat.eq_of_beq_eq_true e2
      have e3 := Nat.eq_of_beq_eq_true e3
      subst e1; subst e2; subst e3
      exact ⟨cst, l1, l2, l3, rs, rfl, Or.inl ⟨k, rfl⟩⟩
  · next p1 k l1 p2 cst l2 p3 l3 rs =>
    cases hb : Nat.beq p1 h && Nat.beq p2 (h + 2) && Nat.beq p3 (h + 3) with
    | false => rw [hb] at hh; cases hh
    | true =>
      rw [hb] at hh
      cases hh
      simp only [Bool.and_eq_true] at hb
      obtain ⟨⟨e1, e2⟩, e3⟩ := hb
      have e1 := Nat.eq_of_beq_eq_true e1
      have e2 := Nat.eq_of_beq_eq_true e2
      have e3 := Nat.eq_of_beq_eq_true e3
      subst e1; subst e2; subst e3
      exact ⟨cst, l1, l2, l3, rs, rfl, Or.inr ⟨k, rfl⟩⟩
  · cases hh
theorem xe_catch_ok {code : List xe_I} {pc k : Nat} {hh : List (Nat × Nat × Nat × Nat)} {v : Value} (h : xe_catch code pc k hh = some v) : ∃ (j : Nat) (r : Nat × Nat × Nat × Nat), hh[j]? = some r ∧ r.1 ≤ pc ∧ pc < r.2.1 ∧ k = r.2.2.2 ∧ xe_hand (xe_at code r.2.2.1) r.2.2.1 = some v ∧ ∀ (i : Nat) (z : Nat × Nat × Nat × Nat), i < j → hh[i]? = some z → ¬ (z.1 ≤ pc ∧ pc < z.2.1) ∨ k ≠ z.2.2.2 := by
  induction hh with
  | nil => cases h
  | cons a t ih =>
    have h : (bif Nat.ble a.1 pc && Nat.blt pc a.2.1 && Nat.beq k a.2.2.2 then xe_hand (xe_at code a.2.2.1) a.2.2.1 else xe_catch code pc k t) = some v := h
    cases hb : Nat.ble a.1 pc && Nat.blt pc a.2.1 && Nat.beq k a.2.2.2 with
    | true =>
      rw [hb] at h
      simp only [Bool.and_eq_true, Nat.ble_eq] at hb
      obtain ⟨⟨e1, e2⟩, e3⟩ := hb
      exact ⟨0, a, rfl, e1, Nat.ble_eq.mp e2, Nat.eq_of_beq_eq_true e3, h, fun i z hi _ => absurd hi (Nat.not_lt_zero i)⟩
    | false =>
      rw [hb] at h
      obtain ⟨j, r, g1, g2, g3, g4, g5, g6⟩ := ih h
      refine ⟨j + 1, r, by simpa using g1, g2, g3, g4, g5, fun i z hi hz => ?_⟩
      cases i with
      | zero =>
        have ez : a = z := by simpa using hz
        subst ez
        by_cases hk : k = a.2.2.2
        · left
          intro hp
          have : (Nat.ble a.1 pc && Nat.blt pc a.2.1 && Nat.beq k a.2.2.2) = true := by
            rw [Nat.ble_eq.mpr hp.1, show Nat.blt pc a.2.1 = true from Nat.ble_eq.mpr hp.2, hk]
            simp
          rw [this] at hb
          cases hb
        · exact Or.inr hk
      | succ i => exact g6 i z (by omega) (by simpa using hz)
end
end
section
section
variable {l : Launch} {G : xe_G} {ρ : Nat → Int32} {f : Nat} {y : Nat} {M : xe_M} {d : xd_D} {tl : List xe_I} {pc : Nat} {al : List (Nat × Value)} {st : List Value} {w : xe_W} {nc ns : Nat} {r : xe_R} {p : Program} {e : Env} {R : Room} {s : State} {m : MethodId} {args : Array Value} {below : List Frame} {meth : Method} {c : Code} {H : Heap} {locs : List Loc} {ls : Array Slot} {ad ad0 : Nat → Nat} {n0 : Nat} {A : Nat → Prop} {D : va_G} {dA : Nat → ClassId} {sa : UInt32 → Nat} {Q : State → Prop}
/-- the run of a call that throws -/
theorem xs_callRunX (hall : xk_All) (ih : xs_S l G ρ f) (hE : xs_En (xs_Ls G ρ) p s m args meth c d.1 d.2.2.1 d.2.2.2.1 A D dA sa d.2.2.2.2.2.1) (hR : xs_Rel D dA sa ρ A s d.2.2.2.1 ad al w ls H locs) {i : Instr} {len y n kd : Nat} (hC : xk_Call d i len y n kd) (hdec : decode d.2.2.1 pc = .ok (i, len)) {Y : xe_M} (hY : xe_P[y]? = some Y) {as rest : List Value} (hpop : xe_pop n st [] = some (as, rest)) (hrc : xe_rcv kd as w = true) (hkd : 10 ≤ kd) (hsl : xe_sl as ≤ Y.2.1) (hrl : rest.length ≤ 4) (hc1 : nc + Y.2.2.2.1 ≤ R.cells) (hc2 : ns + Y.2.2.2.2.1 ≤ R.slots) (hrm : 20 + d.2.2.2.2.2.2.1 ≤ R.frames ∧ 40 * (20 + d.2.2.2.2.2.2.1) ≤ R.locals) {r : xe_R} (hrun : xe_run xe_P G xe_Z f Y Y.1 0 (lv_args 0 as) [] w 0 0 = some r) (hr : Nat.beq r.1 2 = true) :
    ∃ a' : Array Value, vx_Run p l e R s m args below meth c H locs nc ns Y.2.2.2.1 Y.2.2.2.2.1 (F0 m pc ls (st.map (xs_v ad sa ρ))) (rest.map (xs_v ad sa ρ)) ((fun _ _ _ _ => False : Array Value → State → Outcome → State → Prop) a') (xs_XC D dA sa ρ ad w.length Y.2.2.2.1 (va_A (xs_w ad sa ρ dA w) H.size) r) (va_A (xs_w ad sa ρ dA w) H.size) := by
  rcases hC with hC | hC
  case inr =>
    obtain ⟨M', d', hM', hd', hlen, hh, hnl, hnl2, hpl, hcls, hm1, hm2, hco, hin, rfl, -⟩ := hC
    omega
  obtain ⟨M', d', hM', hd', hlen, hh, hnl, hnl2, hhh, hpl, hcls, hm1, hm2, hco, hin, hk⟩ := hC
  cases Option.some.inj (hM'.symm.trans hY)
  subst hlen
  have hM := xs_metX (D := D) (dA := dA) (sa := sa) (ad := ad) (sz := H.size) hall ih hY hd' hhh hcls hpl (by rw [hnl2]; exact hsl) hrun hr
  obtain ⟨hx, hb, hml, hown, hts, hK, hA, hX, hNw, hini, hlk⟩ := id hE
  obtain ⟨b, e1, e2, e3⟩ := xe_pop_ok n st [] as rest hpop
  rw [List.append_nil] at e1
  have e4 : st = as.reverse ++ rest := by rw [e1, List.reverse_reverse]; exact e2
  have e5 : as.length = n := by rw [e1, List.length_reverse]; exact e3
  have hfr : (xd_rm Y d').frames + 1 ≤ R.frames ∧ 8 + (d'.2.2.2.1 + 11) + (xd_rm Y d').locals ≤ R.locals := by
    show (20 + d'.2.2.2.2.2.2.1) + 1 ≤ R.frames ∧ 8 + (d'.2.2.2.1 + 11) + 40 * (20 + d'.2.2.2.2.2.2.1) ≤ R.locals
    omega
  have hpre := xs_pre hE hR as
  have hroom : 2 * (F0 m pc ls (st.map (xs_v ad sa ρ))).monitorRoom + ((rest.map (xs_v ad sa ρ)).map fun v => v.category).sum ≤ 8 := lv_room (xs_room hrl)
  have hfix : CallFix p m c d.2.2.1 d.2.2.2.1 s args xw_T d.1 := ⟨hx, hb, hml, hown, hts⟩
  rcases hk with ⟨idx, np, ci, q, rfl, rfl, rfl, hq, hqc, hpar, hw1, hw2, hw3⟩ | ⟨idx, np, rfl, rfl, -⟩ | ⟨idx, rfl, rfl, -⟩ | ⟨idx, np, rfl, rfl, -⟩
  · unfold xe_rcv at hrc
    split at hrc
    · next a as' =>
      rw [show Nat.ble 10 (ci + 10) = true from Nat.ble_eq.mpr (by omega)] at hrc
      change (match xe_nth w a with | some (.inr o) => Nat.beq (o.1 + 10) (ci + 10) | _ => false) = true at hrc
      rw [xe_nth_eq] at hrc
      split at hrc
      · next o ho =>
        have eo : o.1 = ci := by have := Nat.eq_of_beq_eq_true hrc; omega
        have he := xs_w_get ad sa ρ dA ho
        have hrv := va_recv (ci := ci) (q := q) (a := ad a) (q0 := a) (fs := o.2.map (xs_v ad sa ρ)) hK hR.2.1 hq (by rw [he, ← eo]; rfl)
        rw [hqc] at hrv
        refine ⟨#[], vx_runV (As := as'.map (xs_v ad sa ρ)) hfix hM (cwV np hts (xs_good ?_) rfl rfl rfl ⟨rfl, hm1, hm2, hpar⟩ hfr) ⟨xs_blind _ _ _ _ _ _ _ _ _, hrv, hpre⟩ rfl ?_ hR.1.1 ?_ hroom hdec ⟨hc1, hc2⟩⟩
        · intro w0 hw0
          rcases List.mem_append.mp hw0 with h9 | h9
          · simp only [List.mem_cons, List.not_mem_nil, or_false] at h9
            rcases h9 with rfl | rfl | rfl | rfl
            · exact hw1
            · exact hw2
            · exact hw3
            · exact hin
          · exact xs_ws_in hco w0 h9
        · rw [List.length_map]
          simpa using e5
        · show st.map (xs_v ad sa ρ) = _
          rw [e4]
          simp [xs_v]
      · cases hrc
    · cases (show Nat.beq (ci + 10) 2 = true from hrc)
  · omega
  · omega
  · omega
theorem xs_tab_at (hh : List (Nat × Nat × Nat × Nat)) (j : Nat) (b : Nat × Nat × Nat × Nat) (h : hh[j]? = some b) : ∃ pre suf : List ExceptionTableEntry, tableOf hh = pre ++ (⟨b.1, b.2.1, b.2.2.1, b.2.2.2⟩ : ExceptionTableEntry) :: suf ∧ ∀ z ∈ pre, ∃ (i : Nat) (q : Nat × Nat × Nat × Nat), i < j ∧ hh[i]? = some q ∧ z = ⟨q.1, q.2.1, q.2.2.1, q.2.2.2⟩ := by
  induction hh generalizing j with
  | nil => simp at h
  | cons a t ih =>
    cases j with
    | zero =>
      have ea : a = b := by simpa using h
      subst ea
      exact ⟨[], tableOf t, rfl, fun z hz => by cases hz⟩
    | succ j =>
      obtain ⟨pre, suf, g1, g2⟩ := ih j (by simpa using h)
      refine ⟨⟨a.1, a.2.1, a.2.2.1, a.2.2.2⟩ :: pre, suf, ?_, fun z hz => ?_⟩
      · show (⟨a.1, a.2.1, a.2.2.1, a.2.2.2⟩ : ExceptionTableEntry) :: tableOf t = _
        rw [g1]
        rfl
      · rcases List.mem_cons.mp hz with e1 | e1
        · exact ⟨0, a, by omega, rfl, e1⟩
        · obtain ⟨i, q, q1, q2, q3⟩ := g2 z e1
          exact ⟨i + 1, q, by omega, by simpa using q2, q3⟩
/-- a thrown exception is caught: the handler answers a constant -/
theorem xs_caught (hall : xk_All) (hM : xe_P[y]? = some M) (hd : xd_P[y]? = some d) {k : Nat} {v : Value} (hcat : xe_catch M.1 pc k M.2.2.2.2.2 = some v) (hri : M.2.2.1 = 1) {w' : xe_W} {rest : List Value} {q9 : Addr} {ce : Cell} (hI : xs_In (xs_Ls G ρ) M d w' al p R s m args meth c H locs ls ad ad0 n0 A D dA sa ρ) (h1 : nc ≤ M.2.2.2.1) (h2 : ns ≤ M.2.2.2.2.1) (hce : H[q9]? = some ce) (hcv : ce.vm = .none) (hcl : s.vm.findClass (xd_ex k) = some ce.cls) :
    vx_W p l e R s m args below meth c H locs nc ns (xs_FQ D dA sa ρ ad0 n0 M.2.2.2.1 M.2.2.2.2.1 A (1, v, w') below args s) (F0 m pc ls rest) q9 := by
  obtain ⟨j, a, g1, g2, g3, g4, g5, g6⟩ := xe_catch_ok hcat
  obtain ⟨hms, hrets, -, hhl, hhp⟩ := hall y M d hM hd
  have hjl : j < d.2.2.2.2.2.2.2.length := by rw [← hhl]; exact (List.getElem?_eq_some_iff.mp g1).1
  obtain ⟨b, hbj⟩ : ∃ b, d.2.2.2.2.2.2.2[j]? = some b := ⟨_, List.getElem?_eq_getElem hjl⟩
  obtain ⟨q1, q2, q3, q4, q5, q6⟩ := hhp j a b g1 hbj
  obtain ⟨pre, suf, t1, t2⟩ := xs_tab_at _ j b hbj
  obtain ⟨hE, hrt, htab, ⟨hlv, hP, hD, hS⟩, hag, hn0, hrm⟩ := hI
  obtain ⟨hx, hb2, hml, hown, hts, hK, hA, hX, hNw, hini, hlk⟩ := hE
  have hret : d.2.2.2.2.1 = some .int := by
    rcases hrets with h | h | h | h | h
    · exact absurd (hri.symm.trans h.1) (by decide)
    · exact h.2
    · exact absurd (hri.symm.trans h.1) (by decide)
    · exact absurd (hri.symm.trans h.1) (by decide)
    · exact absurd (hri.symm.trans h.1) (by decide)
  refine xh_catch (own := d.1) (name := xd_ex a.2.2.2) (E := xd_ex k) hown pre ⟨b.1, b.2.1, b.2.2.1, b.2.2.2⟩ suf (htab.trans t1) ?_ ?_ q5 (hts _ q6) ?_ hce hcv hcl ?_
  · intro z hz
    obtain ⟨i, q, z1, z2, z3⟩ := t2 z hz
    have hil : i < M.2.2.2.2.2.length := by rw [hhl]; exact (List.getElem?_eq_some_iff.mp z2).1
    obtain ⟨a2, ha2⟩ : ∃ a2, M.2.2.2.2.2[i]? = some a2 := ⟨_, List.getElem?_eq_getElem hil⟩
    obtain ⟨u1, u2, u3, u4, u5, u6⟩ := hhp i a2 q ha2 z2
    subst z3
    rcases g6 i a2 z1 ha2 with h | h
    · left
      show (decide (q.1 ≤ pc) && decide (pc < q.2.1)) = false
      rw [← u1, ← u2]
      rw [Bool.and_eq_false_iff]
      by_cases h5 : a2.1 ≤ pc
      · right
        exact decide_eq_false (fun h6 => h ⟨h5, h6⟩)
      · left
        exact decide_eq_false h5
    · right
      refine ⟨u5, xd_ex a2.2.2.2, hts _ u6, ?_⟩
      have hk2 : k < 2 := by rw [g4]; exact q4
      revert h u4
      generalize a2.2.2.2 = z
      intro u4 h
      match k, hk2, z, u4 with
      | 0, _, 0, _ => exact absurd rfl h
      | 1, _, 1, _ => exact absurd rfl h
      | 0, _, 1, _ => exact hNw.2.2.2.2.2.2.2.2.1
      | 1, _, 0, _ => exact hNw.2.2.2.2.2.2.2.2.2
  · show (decide (b.1 ≤ pc) && decide (pc < b.2.1)) = true
    rw [← q1, ← q2, decide_eq_true g2, decide_eq_true g3]
    rfl
  · have hk2 : k < 2 := by rw [g4]; exact q4
    rw [← g4]
    match k, hk2 with
    | 0, _ => exact va_Nw.use rfl (hNw.2.2.2.2.2.2.1 _ (by decide +kernel))
    | 1, _ => exact va_Nw.use rfl (hNw.2.2.2.2.2.2.1 _ (by decide +kernel))
  · obtain ⟨cst, l1, l2, l3, rs, rfl, hh⟩ := xe_hand_ok g5
    rw [show (⟨b.1, b.2.1, b.2.2.1, b.2.2.2⟩ : ExceptionTableEntry).handlerPc = a.2.2.1 from q3.symm]
    have hfin : ∀ (ls2 : Array Slot) (pc2 : Nat), decode d.2.2.1 pc2 = .ok (.iconst cst, 1) → decode d.2.2.1 (pc2 + 1) = .ok (.ireturn, 1) → W p l e R s m args below meth c H locs nc ns (xs_FQ D dA sa ρ ad0 n0 M.2.2.2.1 M.2.2.2.2.1 A (1, .int (Int32.ofInt cst), w') below args s) (F0 m pc2 ls2 []) := by
      intro ls2 pc2 dd1 dd2
      refine lv_iconst hx hb2 dd1 rfl ?_
      refine W.widen h1 h2 ?_
      exact W.iret hx hb2 (hrt.trans hret) (fun t ht _ => ⟨⟨ad, hag, hn0, rfl, by rw [ht]; exact hP, hD⟩, hS.F ht⟩) hS.2.2 dd2 hlk
    rcases hh with ⟨kk, hh⟩ | ⟨kk, hh⟩
    · have m1 := hms _ (xs_at_mem M.1 a.2.2.1 _ (by rw [hh]; exact List.mem_cons_self))
      have m2 := hms _ (xs_at_mem M.1 a.2.2.1 _ (by rw [hh]; exact List.mem_cons_of_mem _ List.mem_cons_self))
      have m3 := hms _ (xs_at_mem M.1 a.2.2.1 _ (by rw [hh]; exact List.mem_cons_of_mem _ (List.mem_cons_of_mem _ List.mem_cons_self)))
      have e1 : l1 = 1 := m1.2.1
      have e2 : l2 = 1 := m2.2.1
      have e3 : l3 = 1 := m3.2.1
      subst e1; subst e2; subst e3
      exact lv_astore_n hx hb2 m1.1 rfl hlv m1.2.2 rfl (fun ls2 _ => hfin ls2 _ m2.1 m3.1)
    · have m1 := hms _ (xs_at_mem M.1 a.2.2.1 _ (by rw [hh]; exact List.mem_cons_self))
      have m2 := hms _ (xs_at_mem M.1 a.2.2.1 _ (by rw [hh]; exact List.mem_cons_of_mem _ List.mem_cons_self))
      have m3 := hms _ (xs_at_mem M.1 a.2.2.1 _ (by rw [hh]; exact List.mem_cons_of_mem _ (List.mem_cons_of_mem _ List.mem_cons_self)))
      have e1 : l1 = 2 := m1.2.1
      have e2 : l2 = 1 := m2.2.1
      have e3 : l3 = 1 := m3.2.1
      subst e1; subst e2; subst e3
      exact lv_astore hx hb2 m1.1 hlv m1.2.2 rfl (fun ls2 _ => hfin ls2 _ m2.1 m3.1)
theorem xs_bCall_ok (hall : xk_All) (ih : xs_S l G ρ f) (hM : xe_P[y]? = some M) (hd : xd_P[y]? = some d) (hcur : ∀ e ∈ tl, e ∈ M.1) {i : Instr} {len : Nat} {res : List Nat} {y2 n kd : Nat} (hdec : decode d.2.2.1 pc = .ok (i, len)) (hC : xk_Call d i len y2 n kd) (hrun : xe_bCall y2 n kd xe_P G xe_Z (xe_run xe_P G xe_Z f) M (pc, i, len, res) tl pc al st w nc ns = some r) (hI : xs_In (xs_Ls G ρ) M d w al p R s m args meth c H locs ls ad ad0 n0 A D dA sa ρ) :
    W p l e R s m args below meth c H locs nc ns (xs_FQ D dA sa ρ ad0 n0 M.2.2.2.1 M.2.2.2.2.1 A r below args s) (F0 m pc ls (st.map (xs_v ad sa ρ))) := by
  have hrm := hI.2.2.2.2.2.2
  unfold xe_bCall at hrun
  rw [xe_nth_eq] at hrun
  split at hrun
  · cases hrun
  · next Y hY =>
    split at hrun
    · cases hrun
    · next as rest hpop =>
      cases hb : xe_rcv kd as w && Nat.ble (xe_sl as) Y.2.1 && Nat.ble (nc + Y.2.2.2.1) M.2.2.2.1 && Nat.ble (ns + Y.2.2.2.2.1) M.2.2.2.2.1 && Nat.ble rest.length 4 && (Nat.beq Y.2.2.2.1 0 || (xe_okA w.length al && xe_okS w.length rest)) with
      | false => rw [hb] at hrun; cases hrun
      | true =>
        rw [hb] at hrun
        dsimp only [cond_true] at hrun
        rw [Bool.and_eq_true] at hb
        obtain ⟨hb, hok⟩ := hb
        simp only [Bool.and_eq_true, Nat.ble_eq] at hb
        obtain ⟨⟨⟨⟨g1, g2⟩, g3⟩, g4⟩, g5⟩ := hb
        have hfree := xs_free hI.1 hI.2.2.2.1
        have hmcY : Y.2.2.2.1 ≤ M.2.2.2.1 := by omega
        split at hrun
        · next v w' hcal =>
          obtain ⟨a', hrn⟩ := xs_callRun (e := e) (below := below) (nc := nc) (ns := ns) (R := R) hall ih hI.1 hI.2.2.2.1 hC hdec hY hpop g1 g2 g5 (by omega) (by omega) ⟨hrm.1, hrm.2.1⟩ hcal rfl
          refine xs_cont hrn hI.2.2.2.1.2.2.2 hfree (fun ad' H1 locs1 k1 k2 k3 k4 k5 => ?_)
          obtain ⟨o1, o2⟩ := xs_okAfter (sa := sa) (ρ := ρ) k1 hok
          have q9 := xs_go (e := e) (below := below) ih hM hd hcur hrun (R := R) ⟨hI.1, hI.2.1, hI.2.2.1, ⟨by rw [o1]; exact hI.2.2.2.1.1, k3, k4, k5⟩, xs_ag_trans hI.2.2.2.2.1 (xs_ag_up k1 hmcY) hI.2.2.2.2.2.1, Nat.le_trans hI.2.2.2.2.2.1 k2, hrm⟩
          rw [o2] at q9
          exact q9
        · next v w' hcal =>
          obtain ⟨a', hrn⟩ := xs_callRun (e := e) (below := below) (nc := nc) (ns := ns) (R := R) hall ih hI.1 hI.2.2.2.1 hC hdec hY hpop g1 g2 g5 (by omega) (by omega) ⟨hrm.1, hrm.2.1⟩ hcal rfl
          refine xs_cont hrn hI.2.2.2.1.2.2.2 hfree (fun ad' H1 locs1 k1 k2 k3 k4 k5 => ?_)
          obtain ⟨o1, o2⟩ := xs_okAfter (sa := sa) (ρ := ρ) k1 hok
          have q9 := xs_go (e := e) (below := below) ih hM hd hcur hrun (R := R) ⟨hI.1, hI.2.1, hI.2.2.1, ⟨by rw [o1]; exact hI.2.2.2.1.1, k3, k4, k5⟩, xs_ag_trans hI.2.2.2.2.1 (xs_ag_up k1 hmcY) hI.2.2.2.2.2.1, Nat.le_trans hI.2.2.2.2.2.1 k2, hrm⟩
          rw [List.map_cons, o2] at q9
          exact q9
        · next k w' hcal =>
          cases hk : Nat.ble 10 kd with
          | false => rw [hk] at hrun; cases hrun
          | true =>
            rw [hk] at hrun
            dsimp only [cond_true] at hrun
            obtain ⟨a', hrn⟩ := xs_callRunX (e := e) (below := below) (nc := nc) (ns := ns) (R := R) hall ih hI.1 hI.2.2.2.1 hC hdec hY hpop g1 (Nat.ble_eq.mp hk) g2 g5 (by omega) (by omega) ⟨hrm.1, hrm.2.1⟩ hcal rfl
            refine xs_contX (free := A) (a := #[]) hrn hI.2.2.2.1.2.2.2 hfree (fun ce q9 ad' H1 locs1 k1 k2 k3 k4 k5 k6 k7 k8 => ?_)
            obtain ⟨o1, o2⟩ := xs_okAfter (sa := sa) (ρ := ρ) k1 hok
            have hI2 : xs_In (xs_Ls G ρ) M d w' al p R s m args meth c H1 locs1 ls ad' ad0 n0 A D dA sa ρ := ⟨hI.1, hI.2.1, hI.2.2.1, ⟨by rw [o1]; exact hI.2.2.2.1.1, k3, k4, k5⟩, xs_ag_trans hI.2.2.2.2.1 (xs_ag_up k1 hmcY) hI.2.2.2.2.2.1, Nat.le_trans hI.2.2.2.2.2.1 k2, hrm⟩
            split at hrun
            · next hnil =>
              cases hrun
              have hd0 : d.2.2.2.2.2.2.2 = [] := by
                have := (hall y M d hM hd).2.2.2.1
                rw [hnil] at this
                exact List.eq_nil_of_length_eq_zero this.symm
              exact vx_out (fun x hx => by rw [hI.2.2.1, hd0] at hx; cases hx) hI.1.2.2.2.2.2.2.2.2.2.2 k6 k7 k8 (fun t ht _ => ⟨rfl, ⟨ad', hI2.2.2.2.2.1, hI2.2.2.2.2.2.1, by rw [ht]; exact k3, k4⟩, k5.F ht⟩) k5.2.2 (by omega) (by omega)
            · split at hrun
              · next v hcat =>
                cases hri : Nat.beq M.2.2.1 1 with
                | false => rw [hri] at hrun; cases hrun
                | true =>
                  rw [hri] at hrun
                  cases hrun
                  exact xs_caught hall hM hd hcat (Nat.eq_of_beq_eq_true hri) hI2 (by omega) (by omega) k6 k7 k8
              · cases hrun
        · cases hrun
theorem xs_succ (hall : xk_All) (hl : l.stackTraces = false) (hG : xs_G G ρ) (ih : xs_S l G ρ f) : xs_S l G ρ (f + 1) := by
  intro y M d hM hd cur pc al st w nc ns r hcur hrun p e R s m args below meth c H locs ls ad ad0 n0 A D dA sa hE hret htab hR hag hn0 hrm
  have hI : xs_In (xs_Ls G ρ) M d w al p R s m args meth c H locs ls ad ad0 n0 A D dA sa ρ := ⟨hE, hret, htab, hR, hag, hn0, hrm⟩
  have hrun : xe_body xe_P G xe_Z (xe_run xe_P G xe_Z f) M cur pc al st w nc ns = some r := hrun
  unfold xe_body at hrun
  cases cur with
  | nil => cases hrun
  | cons ei tl =>
    have hcur2 : ∀ e ∈ tl, e ∈ M.1 := fun e he => hcur e (List.mem_cons_of_mem _ he)
    obtain ⟨hdec, hEi⟩ := (hall y M d hM hd).1 ei (hcur ei List.mem_cons_self)
    have hrets := (hall y M d hM hd).2.1
    obtain ⟨pc', i, len, res⟩ := ei
    dsimp only at hrun hdec hEi
    cases hb : Nat.beq pc' pc with
    | false => rw [hb] at hrun; cases hrun
    | true =>
      rw [hb] at hrun
      dsimp only [cond_true] at hrun
      have epc := Nat.eq_of_beq_eq_true hb
      subst epc
      unfold xe_bR at hrun
      split at hrun
      · next y2 n kd => exact xs_bCall_ok hall ih hM hd hcur2 hdec hEi hrun hI
      · next k is ic x => exact xs_bThrow_ok hl hM hd _ hdec hEi hrun hI
      · exact xs_bObj_ok ih hM hd hcur2 hdec hEi hrun hI
      · exact xs_bCopy_ok ih hM hd hcur2 hdec hEi hrun hI
      · exact xs_bClone_ok hall ih hM hd hcur2 hdec hEi hrun hI
      · exact xs_bMax_ok ih hM hd hcur2 hdec hEi hrun hI
      · exact xs_bMin_ok ih hM hd hcur2 hdec hEi hrun hI
      · exact xs_bZero_ok hG ih hM hd hcur2 hdec hEi hrun hI
      · next n1 n2 n3 n4 n5 n6 n7 n8 =>
        by_cases h5 : res = [5]
        · subst h5
          obtain ⟨idx, rfl, -⟩ := hEi
          have hrun : xe_bOn xe_P G xe_Z (xe_run xe_P G xe_Z f) M (pc', .checkcast idx, len, [5]) tl pc' al st w nc ns = some r := hrun
          unfold xe_bOn at hrun
          cases hrun
        · have hEi : len = xk_ln i len ∧ xk_L d.1 d.2.2.2.1 d.2.2.2.2.2.1 i res := by
            unfold xk_E at hEi
            dsimp only at hEi
            split at hEi
            · exact absurd rfl (n1 _ _ _)
            · exact absurd rfl (n2 _ _ _ _)
            · exact absurd rfl n3
            · exact absurd rfl n4
            · exact absurd rfl n5
            · exact absurd rfl h5
            · exact absurd rfl n6
            · exact absurd rfl n7
            · exact absurd rfl n8
            · exact hEi
          cases i with
          | return_ =>
            have e1 : len = 1 := hEi.1
            subst e1
            exact xs_bRet0_ok (tl := tl) (res := res) hM hd hrets (xe_run xe_P G xe_Z f) hdec hrun hI
          | ireturn =>
            have e1 : len = 1 := hEi.1
            subst e1
            exact xs_bRet_ok (tl := tl) (res := res) hM hd hrets (xe_run xe_P G xe_Z f) (Or.inl ⟨rfl, rfl⟩) hdec hrun hI
          | lreturn =>
            have e1 : len = 1 := hEi.1
            subst e1
            exact xs_bRet_ok (tl := tl) (res := res) hM hd hrets (xe_run xe_P G xe_Z f) (Or.inr (Or.inl ⟨rfl, rfl⟩)) hdec hrun hI
          | areturn =>
            have e1 : len = 1 := hEi.1
            subst e1
            exact xs_bRet_ok (tl := tl) (res := res) hM hd hrets (xe_run xe_P G xe_Z f) (Or.inr (Or.inr ⟨rfl, rfl⟩)) hdec hrun hI
          | _ => exact xs_bOn_ok hG ih hM hd hcur2 hdec hEi hrun hI
theorem xs_run (hall : xk_All) (hl : l.stackTraces = false) (hG : xs_G G ρ) (f : Nat) : xs_S l G ρ f := by
  induction f with
  | zero => exact xs_zero
  | succ f ih => exact xs_succ hall hl hG ih
end
end
section
/-! the tables are the machine's: checked by the kernel, method by method -/
def xk_tyL : List (Nat → FieldType) := [tyX0, tyX1, tyX2, tyX3, tyX4, tyX5, tyX6, tyX7, tyX8, tyX9]
theorem xk_cls2 {ci : Nat} {q : vw_C} {ty : Nat → FieldType} (h : vwCl[ci]? = some q) (ht : xk_tyL[ci]? = some ty) : xk_C ci q.1 q.2.1 q.2.2 ty := by
  match ci, h, ht with
  | 0, h, ht => cases h; cases ht; exact ⟨rfl, xk_u0, tyX0_ok, nmX0, xk_z0⟩
  | 1, h, ht => cases h; cases ht; exact ⟨rfl, xk_u1, tyX1_ok, nmX1, xk_z1⟩
  | 2, h, ht => cases h; cases ht; exact ⟨rfl, xk_u2, tyX2_ok, nmX2, xk_z2⟩
  | 3, h, ht => cases h; cases ht; exact ⟨rfl, xk_u3, tyX3_ok, nmX3, xk_z3⟩
  | 4, h, ht => cases h; cases ht; exact ⟨rfl, xk_u4, tyX4_ok, nmX4, xk_z4⟩
  | 5, h, ht => cases h; cases ht; exact ⟨rfl, xk_u5, tyX5_ok, nmX5, xk_z5⟩
  | 6, h, ht => cases h; cases ht; exact ⟨rfl, xk_u6, tyX6_ok, nmX6, xk_z6⟩
  | 7, h, ht => cases h; cases ht; exact ⟨rfl, xk_u7, tyX7_ok, nmX7, xk_z7⟩
  | 8, h, ht => cases h; cases ht; exact ⟨rfl, xk_u8, tyX8_ok, nmX8, xk_z8⟩
  | 9, h, ht => cases h; cases ht; exact ⟨rfl, xk_u9, tyX9_ok, nmX9, xk_z9⟩
  | k + 10, h, ht => simp [vwCl] at h
def xk_tcb (tc : Nat) (ty : FieldType) : Bool := match tc, ty with
  | 0, .int => true
  | 1, .boolean => true
  | 2, .long => true
  | 3, .object _ => true
  | 3, .array _ => true
  | _, _ => false
theorem xk_tcb_ok {tc : Nat} {ty : FieldType} (h : xk_tcb tc ty = true) : xk_tc tc ty := by
  unfold xk_tcb at h
  split at h
  · exact Or.inl ⟨rfl, rfl⟩
  · exact Or.inr (Or.inl ⟨rfl, rfl⟩)
  · exact Or.inr (Or.inr (Or.inl ⟨rfl, rfl⟩))
  · exact Or.inr (Or.inr (Or.inr ⟨rfl, Or.inl ⟨_, rfl⟩⟩))
  · exact Or.inr (Or.inr (Or.inr ⟨rfl, Or.inr ⟨_, rfl⟩⟩))
  · cases h
/-! the tables are the machine's: words by their places, then method by method -/
def xo_L : List String := [RX0, RX1, RX2, RX3, RX4, RX5, RX6, RX7, RX8, RX9, "TingDecksLaw", "java/lang/Integer", "java/lang/Math"]
def xo_n (o : Nat) : String := match xo_L[o]? with
  | some s => s
  | none => ""
def xt (ci k : Nat) : String × String × String × Bool := match vwCl[ci]? with
  | some q => q.2.1 k
  | none => ("", "", "", false)
def xk_pl (ws : List Cond) (ps : List Nat) : Bool := decide (ws = ps.filterMap (fun i => lw_tbl[i]?)) && ws.all goodWord
theorem xk_pl_ok {ws : List Cond} {ps : List Nat} (h : xk_pl ws ps = true) : ∀ w ∈ ws, w ∈ xw_T := by
  simp only [xk_pl, Bool.and_eq_true, decide_eq_true_eq] at h
  intro w hw
  refine xw_in ?_ (List.all_eq_true.mp h.2 w hw)
  rw [h.1] at hw
  obtain ⟨i, -, hi⟩ := List.mem_filterMap.mp hw
  exact List.mem_of_getElem? hi
def xk_fw (o : Nat) (q : Nat × Nat × Nat) : Cond := .fieldLink (xo_n o) q.1 (xt q.2.1 q.2.2).1 (xt q.2.1 q.2.2).2.1 (xt q.2.1 q.2.2).2.2.1
def xk_dy (y : Nat) : xd_D := match xd_P[y]? with
  | some d => d
  | none => xd_0
def xk_mw (o : Nat) (q : Nat × Nat) : Cond := .methodLink (xo_n o) q.1 (xk_dy q.2).2.1
def xk_nw (o : Nat) (q : Nat × Nat) : Cond := .classLink (xo_n o) q.1 (xo_n q.2)
def xk_qw (o : Nat) (q : Nat × Nat) : Cond := .constant (xo_n o) q.1 (Int32.ofNat q.2)
def xk_aw (o : Nat) (q : Nat) : Cond := .methodLink (xo_n o) q arraycopyName
def xk_ow (o : Nat) (q : Nat) : Cond := .methodLink (xo_n o) q Lib.objectInit
def xk_hw (q : Nat × Nat × Nat) : Cond := .classLink (xo_n q.1) q.2.1 (xd_ex q.2.2)
def xf_0 : List (Nat × Nat × Nat) := [(9, 0, 0), (15, 0, 1), (18, 0, 2), (21, 0, 3), (24, 0, 4), (35, 0, 5), (38, 0, 6), (41, 0, 7), (44, 0, 8), (47, 0, 10), (51, 0, 11), (54, 0, 12), (57, 0, 13), (60, 0, 9)]
theorem xf_0_ok : ∀ q ∈ xf_0, xk_fw 0 q ∈ xw_T := fun q hq => xk_pl_ok (ws := xf_0.map (xk_fw 0)) (ps := [149, 152, 157, 162, 165, 170, 174, 177, 180, 185, 190, 195, 198, 183]) (by decide +kernel) _ (List.mem_map.mpr ⟨q, hq, rfl⟩)
def xf_1 : List (Nat × Nat × Nat) := [(9, 1, 0), (15, 1, 1), (19, 1, 2), (23, 1, 3), (26, 1, 4), (30, 1, 5), (33, 0, 11), (43, 7, 4), (49, 7, 7), (52, 7, 16)]
theorem xf_1_ok : ∀ q ∈ xf_1, xk_fw 1 q ∈ xw_T := fun q hq => xk_pl_ok (ws := xf_1.map (xk_fw 1)) (ps := [471, 473, 474, 476, 477, 479, 191, 367, 374, 390]) (by decide +kernel) _ (List.mem_map.mpr ⟨q, hq, rfl⟩)
def xf_2 : List (Nat × Nat × Nat) := [(11, 2, 0), (17, 7, 4), (23, 0, 11), (35, 2, 1), (69, 2, 2), (72, 2, 3)]
theorem xf_2_ok : ∀ q ∈ xf_2, xk_fw 2 q ∈ xw_T := fun q hq => xk_pl_ok (ws := xf_2.map (xk_fw 2)) (ps := [450, 366, 189, 451, 452, 454]) (by decide +kernel) _ (List.mem_map.mpr ⟨q, hq, rfl⟩)
def xf_3 : List (Nat × Nat × Nat) := [(14, 3, 0), (20, 3, 1), (29, 3, 2), (33, 3, 4), (36, 3, 5), (43, 6, 4)]
theorem xf_3_ok : ∀ q ∈ xf_3, xk_fw 3 q ∈ xw_T := fun q hq => xk_pl_ok (ws := xf_3.map (xk_fw 3)) (ps := [318, 319, 320, 322, 323, 301]) (by decide +kernel) _ (List.mem_map.mpr ⟨q, hq, rfl⟩)
def xf_4 : List (Nat × Nat × Nat) := [(11, 4, 0), (15, 4, 1)]
theorem xf_4_ok : ∀ q ∈ xf_4, xk_fw 4 q ∈ xw_T := fun q hq => xk_pl_ok (ws := xf_4.map (xk_fw 4)) (ps := [350, 351]) (by decide +kernel) _ (List.mem_map.mpr ⟨q, hq, rfl⟩)
def xf_5 : List (Nat × Nat × Nat) := [(9, 5, 0), (15, 5, 1), (18, 5, 2), (21, 5, 3), (24, 5, 4), (27, 5, 5), (30, 5, 6), (33, 5, 7), (36, 5, 8), (40, 0, 3), (49, 5, 9), (52, 5, 10)]
theorem xf_5_ok : ∀ q ∈ xf_5, xk_fw 5 q ∈ xw_T := fun q hq => xk_pl_ok (ws := xf_5.map (xk_fw 5)) (ps := [239, 242, 245, 246, 247, 248, 250, 252, 254, 163, 257, 259]) (by decide +kernel) _ (List.mem_map.mpr ⟨q, hq, rfl⟩)
def xf_6 : List (Nat × Nat × Nat) := [(9, 6, 0), (21, 6, 1), (25, 6, 2), (28, 6, 3), (34, 6, 4)]
theorem xf_6_ok : ∀ q ∈ xf_6, xk_fw 6 q ∈ xw_T := fun q hq => xk_pl_ok (ws := xf_6.map (xk_fw 6)) (ps := [296, 297, 298, 300, 302]) (by decide +kernel) _ (List.mem_map.mpr ⟨q, hq, rfl⟩)
def xf_7 : List (Nat × Nat × Nat) := [(12, 7, 0), (18, 7, 1), (22, 7, 2), (25, 7, 3), (28, 7, 9), (31, 7, 10), (34, 7, 11), (37, 7, 12), (40, 7, 4), (44, 0, 5), (49, 7, 5), (53, 5, 8), (58, 7, 6), (63, 7, 7), (66, 7, 8), (69, 0, 10), (72, 5, 0), (75, 0, 0), (78, 0, 11), (121, 7, 18), (128, 7, 13), (131, 7, 14), (134, 7, 15), (137, 7, 16), (140, 7, 17), (143, 7, 19), (146, 7, 20)]
theorem xf_7_ok : ∀ q ∈ xf_7, xk_fw 7 q ∈ xw_T := fun q hq => xk_pl_ok (ws := xf_7.map (xk_fw 7)) (ps := [357, 358, 361, 363, 378, 380, 382, 383, 365, 171, 368, 255, 371, 373, 376, 186, 240, 150, 192, 395, 384, 386, 389, 392, 393, 397, 399]) (by decide +kernel) _ (List.mem_map.mpr ⟨q, hq, rfl⟩)
def xf_8 : List (Nat × Nat × Nat) := [(9, 8, 0), (13, 8, 1), (20, 8, 2), (24, 8, 3), (30, 8, 4), (34, 8, 5), (42, 8, 6), (51, 8, 7), (55, 8, 8), (61, 8, 9), (68, 8, 10), (72, 8, 12), (79, 8, 11), (98, 8, 13), (105, 0, 10), (108, 0, 11), (111, 0, 12), (114, 5, 8), (117, 0, 5), (124, 7, 16), (135, 7, 15), (138, 5, 9), (141, 5, 10), (152, 7, 1), (155, 5, 0), (230, 2, 2), (233, 2, 3), (267, 7, 7), (270, 7, 8), (309, 7, 17), (312, 7, 18), (315, 7, 19), (318, 7, 20), (342, 7, 5), (357, 1, 4), (371, 8, 14), (374, 8, 15), (377, 8, 16), (387, 1, 2), (398, 7, 6)]
theorem xf_8_ok : ∀ q ∈ xf_8, xk_fw 8 q ∈ xw_T := fun q hq => xk_pl_ok (ws := xf_8.map (xk_fw 8)) (ps := [501, 502, 503, 504, 505, 506, 507, 508, 509, 510, 511, 513, 512, 514, 187, 193, 197, 256, 172, 391, 388, 258, 260, 360, 241, 453, 455, 375, 377, 394, 396, 398, 400, 370, 478, 515, 516, 517, 475, 372]) (by decide +kernel) _ (List.mem_map.mpr ⟨q, hq, rfl⟩)
def xf_9 : List (Nat × Nat × Nat) := [(7, 9, 1), (13, 9, 4), (16, 9, 5), (19, 9, 6), (22, 9, 7), (25, 9, 8), (28, 9, 9), (31, 9, 10), (35, 9, 11), (38, 9, 12), (41, 9, 13), (44, 9, 14), (47, 9, 15), (50, 9, 16), (53, 9, 17), (56, 9, 20), (59, 9, 21), (62, 9, 39), (65, 9, 40), (68, 9, 41), (71, 9, 42), (74, 9, 43), (77, 9, 44), (80, 9, 45), (83, 9, 46), (86, 9, 47), (89, 9, 48), (92, 9, 49), (96, 9, 50), (99, 9, 52), (102, 9, 53), (105, 9, 54), (108, 9, 55), (111, 9, 56), (114, 9, 57), (117, 9, 58), (120, 9, 59), (123, 9, 60), (126, 9, 61), (129, 9, 62), (132, 9, 70), (135, 9, 71), (138, 9, 75), (141, 9, 80), (144, 9, 81), (147, 9, 82), (150, 9, 0), (153, 9, 18), (160, 9, 22), (163, 9, 23), (170, 9, 25), (173, 9, 29), (177, 9, 27), (180, 9, 28), (183, 9, 24), (193, 9, 26), (206, 9, 19), (223, 9, 35), (274, 9, 34), (277, 9, 31), (287, 9, 30), (299, 9, 33), (305, 9, 32), (315, 9, 2), (318, 9, 3), (325, 9, 51), (328, 9, 74), (331, 9, 77), (362, 9, 63), (365, 9, 64), (368, 9, 65), (371, 9, 66), (374, 9, 67), (377, 9, 68), (380, 9, 69), (449, 9, 72), (452, 9, 73), (474, 9, 76), (481, 9, 78), (484, 9, 79)]
theorem xf_9_ok : ∀ q ∈ xf_9, xk_fw 9 q ∈ xw_T := fun q hq => xk_pl_ok (ws := xf_9.map (xk_fw 9)) (ps := [1341, 1344, 1345, 1346, 1347, 1348, 1349, 1350, 1351, 1352, 1353, 1354, 1355, 1356, 1357, 1360, 1361, 1379, 1380, 1381, 1382, 1383, 1384, 1385, 1386, 1387, 1388, 1389, 1390, 1392, 1393, 1394, 1395, 1396, 1397, 1398, 1399, 1400, 1401, 1402, 1410, 1411, 1415, 1420, 1421, 1422, 1340, 1358, 1362, 1363, 1365, 1369, 1367, 1368, 1364, 1366, 1359, 1375, 1374, 1371, 1370, 1373, 1372, 1342, 1343, 1391, 1414, 1417, 1403, 1404, 1405, 1406, 1407, 1408, 1409, 1412, 1413, 1416, 1418, 1419]) (by decide +kernel) _ (List.mem_map.mpr ⟨q, hq, rfl⟩)
def xf_10 : List (Nat × Nat × Nat) := []
theorem xf_10_ok : ∀ q ∈ xf_10, xk_fw 10 q ∈ xw_T := fun q hq => xk_pl_ok (ws := xf_10.map (xk_fw 10)) (ps := []) (by decide +kernel) _ (List.mem_map.mpr ⟨q, hq, rfl⟩)
def xf_11 : List (Nat × Nat × Nat) := []
theorem xf_11_ok : ∀ q ∈ xf_11, xk_fw 11 q ∈ xw_T := fun q hq => xk_pl_ok (ws := xf_11.map (xk_fw 11)) (ps := []) (by decide +kernel) _ (List.mem_map.mpr ⟨q, hq, rfl⟩)
def xf_12 : List (Nat × Nat × Nat) := []
theorem xf_12_ok : ∀ q ∈ xf_12, xk_fw 12 q ∈ xw_T := fun q hq => xk_pl_ok (ws := xf_12.map (xk_fw 12)) (ps := []) (by decide +kernel) _ (List.mem_map.mpr ⟨q, hq, rfl⟩)
def xf (o : Nat) : List (Nat × Nat × Nat) := match o with
  | 0 => xf_0
  | 1 => xf_1
  | 2 => xf_2
  | 3 => xf_3
  | 4 => xf_4
  | 5 => xf_5
  | 6 => xf_6
  | 7 => xf_7
  | 8 => xf_8
  | 9 => xf_9
  | 10 => xf_10
  | 11 => xf_11
  | 12 => xf_12
  | _ => []
theorem xf_ok (o : Nat) (q : (Nat × Nat × Nat)) (h : q ∈ xf o) : xk_fw o q ∈ xw_T := match o, h with
  | 0, h => xf_0_ok q h
  | 1, h => xf_1_ok q h
  | 2, h => xf_2_ok q h
  | 3, h => xf_3_ok q h
  | 4, h => xf_4_ok q h
  | 5, h => xf_5_ok q h
  | 6, h => xf_6_ok q h
  | 7, h => xf_7_ok q h
  | 8, h => xf_8_ok q h
  | 9, h => xf_9_ok q h
  | 10, h => xf_10_ok q h
  | 11, h => xf_11_ok q h
  | 12, h => xf_12_ok q h
  | _ + 13, h => absurd h List.not_mem_nil
def xj_0 : List (Nat × Nat) := []
theorem xj_0_ok : ∀ q ∈ xj_0, xk_mw 0 q ∈ xw_T := fun q hq => xk_pl_ok (ws := xj_0.map (xk_mw 0)) (ps := []) (by decide +kernel) _ (List.mem_map.mpr ⟨q, hq, rfl⟩)
def xj_1 : List (Nat × Nat) := []
theorem xj_1_ok : ∀ q ∈ xj_1, xk_mw 1 q ∈ xw_T := fun q hq => xk_pl_ok (ws := xj_1.map (xk_mw 1)) (ps := []) (by decide +kernel) _ (List.mem_map.mpr ⟨q, hq, rfl⟩)
def xj_2 : List (Nat × Nat) := [(37, 12), (44, 11)]
theorem xj_2_ok : ∀ q ∈ xj_2, xk_mw 2 q ∈ xw_T := fun q hq => xk_pl_ok (ws := xj_2.map (xk_mw 2)) (ps := [1115, 1122]) (by decide +kernel) _ (List.mem_map.mpr ⟨q, hq, rfl⟩)
def xj_3 : List (Nat × Nat) := [(11, 23), (24, 3), (39, 72)]
theorem xj_3_ok : ∀ q ∈ xj_3, xk_mw 3 q ∈ xw_T := fun q hq => xk_pl_ok (ws := xj_3.map (xk_mw 3)) (ps := [292, 788, 793]) (by decide +kernel) _ (List.mem_map.mpr ⟨q, hq, rfl⟩)
def xj_4 : List (Nat × Nat) := []
theorem xj_4_ok : ∀ q ∈ xj_4, xk_mw 4 q ∈ xw_T := fun q hq => xk_pl_ok (ws := xj_4.map (xk_mw 4)) (ps := []) (by decide +kernel) _ (List.mem_map.mpr ⟨q, hq, rfl⟩)
def xj_5 : List (Nat × Nat) := []
theorem xj_5_ok : ∀ q ∈ xj_5, xk_mw 5 q ∈ xw_T := fun q hq => xk_pl_ok (ws := xj_5.map (xk_mw 5)) (ps := []) (by decide +kernel) _ (List.mem_map.mpr ⟨q, hq, rfl⟩)
def xj_6 : List (Nat × Nat) := [(31, 22)]
theorem xj_6_ok : ∀ q ∈ xj_6, xk_mw 6 q ∈ xw_T := fun q hq => xk_pl_ok (ws := xj_6.map (xk_mw 6)) (ps := [798]) (by decide +kernel) _ (List.mem_map.mpr ⟨q, hq, rfl⟩)
def xj_7 : List (Nat × Nat) := [(59, 1), (115, 27), (118, 30)]
theorem xj_7_ok : ∀ q ∈ xj_7, xk_mw 7 q ∈ xw_T := fun q hq => xk_pl_ok (ws := xj_7.map (xk_mw 7)) (ps := [601, 639, 643]) (by decide +kernel) _ (List.mem_map.mpr ⟨q, hq, rfl⟩)
def xj_8 : List (Nat × Nat) := [(19, 2), (39, 71), (48, 73), (76, 21), (82, 41), (93, 110), (102, 43), (120, 116), (127, 16), (131, 40), (149, 34), (158, 5), (162, 4), (167, 33), (190, 35), (208, 31), (211, 19), (219, 39), (226, 114), (238, 113), (241, 74), (245, 29), (248, 75), (254, 1), (257, 26), (260, 77), (264, 32), (273, 25), (289, 20), (292, 38), (303, 24), (321, 28), (324, 0), (336, 14), (345, 115), (353, 10), (361, 17), (380, 70), (384, 7), (390, 9), (394, 6)]
theorem xj_8_ok : ∀ q ∈ xj_8, xk_mw 8 q ∈ xw_T := fun q hq => xk_pl_ok (ws := xj_8.map (xk_mw 8)) (ps := [136, 286, 340, 494, 557, 784, 577, 682, 670, 674, 1020, 1025, 1029, 1041, 1054, 1075, 573, 569, 1105, 593, 597, 1149, 635, 1161, 1162, 1163, 1174, 686, 1206, 1217, 1246, 1259, 1221, 1283, 1306, 1323, 702, 1109, 1310, 1315, 1319]) (by decide +kernel) _ (List.mem_map.mpr ⟨q, hq, rfl⟩)
def xj_9 : List (Nat × Nat) := [(156, 59), (166, 48), (209, 57), (213, 91), (308, 65), (321, 49), (334, 46), (353, 99), (383, 61), (389, 128), (393, 51), (396, 50), (399, 155), (402, 174), (405, 54), (408, 69), (412, 180), (415, 94), (418, 95), (424, 93), (427, 96), (430, 63), (433, 58), (440, 60), (446, 185), (457, 45), (460, 176), (463, 66), (467, 62), (471, 56)]
theorem xj_9_ok : ∀ q ∈ xj_9, xk_mw 9 q ∈ xw_T := fun q hq => xk_pl_ok (ws := xj_9.map (xk_mw 9)) (ps := [1599, 1615, 1625, 1611, 1607, 1718, 1753, 1787, 1757, 1749, 1795, 1741, 1745, 1737, 1803, 1734, 1799, 1811, 1815, 1827, 1843, 1859, 1863, 1883, 1900, 1948, 1952, 1956, 1961, 1980]) (by decide +kernel) _ (List.mem_map.mpr ⟨q, hq, rfl⟩)
def xj_10 : List (Nat × Nat) := [(7, 137), (15, 139), (20, 148), (24, 86), (27, 85), (30, 88), (33, 152), (36, 81), (39, 87), (43, 145), (46, 138), (49, 111), (52, 140), (55, 150), (58, 143), (61, 135), (64, 80), (67, 141), (70, 79), (73, 117), (76, 151), (79, 149), (82, 147), (85, 76), (88, 89), (91, 83), (95, 144), (99, 112), (102, 55), (103, 78), (107, 90), (108, 160), (113, 118), (114, 67), (118, 36), (121, 52), (122, 162), (124, 184), (125, 169), (128, 130), (129, 106), (131, 127), (132, 105), (134, 126), (135, 108), (137, 131), (138, 173), (140, 158), (141, 103), (143, 123), (144, 107), (147, 129), (148, 84), (152, 97), (153, 44), (156, 68), (157, 167), (159, 125), (160, 161), (162, 186), (163, 136), (166, 47), (167, 133), (169, 183), (170, 163), (172, 177), (173, 171), (175, 182), (176, 142), (179, 178), (180, 165), (182, 154), (183, 159), (185, 153), (186, 102), (188, 122), (189, 37), (192, 53), (193, 164), (195, 120), (196, 101), (198, 121), (199, 134), (201, 175), (202, 172), (204, 157), (205, 170), (207, 156), (208, 168), (210, 98), (211, 100), (213, 119), (214, 109), (216, 132), (217, 146), (220, 181), (221, 104), (223, 124), (224, 166), (226, 179), (227, 82), (230, 92), (231, 42), (235, 64)]
theorem xj_10_ok : ∀ q ∈ xj_10, xk_mw 10 q ∈ xw_T := fun q hq => xk_pl_ok (ws := xj_10.map (xk_mw 10)) (ps := [714, 993, 1016, 1037, 1050, 1062, 1070, 1082, 1089, 1101, 1137, 1145, 1156, 1170, 1181, 1190, 1202, 1213, 1230, 1241, 1255, 1266, 1278, 1287, 1295, 1302, 1330, 128, 1336, 553, 1595, 710, 1603, 1591, 561, 1722, 989, 1730, 1013, 1807, 1034, 1823, 1047, 1831, 1059, 1835, 1067, 1839, 1079, 1855, 1086, 1867, 565, 1875, 581, 1726, 1098, 1879, 1134, 1896, 589, 1904, 1142, 1908, 1153, 1912, 1167, 1916, 678, 1920, 1178, 1928, 1187, 1932, 1199, 1968, 690, 1972, 1210, 1976, 1227, 1984, 1238, 1988, 1252, 1847, 1263, 1851, 1275, 1892, 1284, 1936, 1292, 1940, 694, 1924, 1299, 1944, 1327, 1964, 698, 1997, 706, 2001]) (by decide +kernel) _ (List.mem_map.mpr ⟨q, hq, rfl⟩)
def xj_11 : List (Nat × Nat) := []
theorem xj_11_ok : ∀ q ∈ xj_11, xk_mw 11 q ∈ xw_T := fun q hq => xk_pl_ok (ws := xj_11.map (xk_mw 11)) (ps := []) (by decide +kernel) _ (List.mem_map.mpr ⟨q, hq, rfl⟩)
def xj_12 : List (Nat × Nat) := []
theorem xj_12_ok : ∀ q ∈ xj_12, xk_mw 12 q ∈ xw_T := fun q hq => xk_pl_ok (ws := xj_12.map (xk_mw 12)) (ps := []) (by decide +kernel) _ (List.mem_map.mpr ⟨q, hq, rfl⟩)
def xj (o : Nat) : List (Nat × Nat) := match o with
  | 0 => xj_0
  | 1 => xj_1
  | 2 => xj_2
  | 3 => xj_3
  | 4 => xj_4
  | 5 => xj_5
  | 6 => xj_6
  | 7 => xj_7
  | 8 => xj_8
  | 9 => xj_9
  | 10 => xj_10
  | 11 => xj_11
  | 12 => xj_12
  | _ => []
theorem xj_ok (o : Nat) (q : (Nat × Nat)) (h : q ∈ xj o) : xk_mw o q ∈ xw_T := match o, h with
  | 0, h => xj_0_ok q h
  | 1, h => xj_1_ok q h
  | 2, h => xj_2_ok q h
  | 3, h => xj_3_ok q h
  | 4, h => xj_4_ok q h
  | 5, h => xj_5_ok q h
  | 6, h => xj_6_ok q h
  | 7, h => xj_7_ok q h
  | 8, h => xj_8_ok q h
  | 9, h => xj_9_ok q h
  | 10, h => xj_10_ok q h
  | 11, h => xj_11_ok q h
  | 12, h => xj_12_ok q h
  | _ + 13, h => absurd h List.not_mem_nil
def xn_0 : List (Nat × Nat) := []
theorem xn_0_ok : ∀ q ∈ xn_0, xk_nw 0 q ∈ xw_T := fun q hq => xk_pl_ok (ws := xn_0.map (xk_nw 0)) (ps := []) (by decide +kernel) _ (List.mem_map.mpr ⟨q, hq, rfl⟩)
def xn_1 : List (Nat × Nat) := []
theorem xn_1_ok : ∀ q ∈ xn_1, xk_nw 1 q ∈ xw_T := fun q hq => xk_pl_ok (ws := xn_1.map (xk_nw 1)) (ps := []) (by decide +kernel) _ (List.mem_map.mpr ⟨q, hq, rfl⟩)
def xn_2 : List (Nat × Nat) := []
theorem xn_2_ok : ∀ q ∈ xn_2, xk_nw 2 q ∈ xw_T := fun q hq => xk_pl_ok (ws := xn_2.map (xk_nw 2)) (ps := []) (by decide +kernel) _ (List.mem_map.mpr ⟨q, hq, rfl⟩)
def xn_3 : List (Nat × Nat) := [(9, 6)]
theorem xn_3_ok : ∀ q ∈ xn_3, xk_nw 3 q ∈ xw_T := fun q hq => xk_pl_ok (ws := xn_3.map (xk_nw 3)) (ps := [290]) (by decide +kernel) _ (List.mem_map.mpr ⟨q, hq, rfl⟩)
def xn_4 : List (Nat × Nat) := []
theorem xn_4_ok : ∀ q ∈ xn_4, xk_nw 4 q ∈ xw_T := fun q hq => xk_pl_ok (ws := xn_4.map (xk_nw 4)) (ps := []) (by decide +kernel) _ (List.mem_map.mpr ⟨q, hq, rfl⟩)
def xn_5 : List (Nat × Nat) := []
theorem xn_5_ok : ∀ q ∈ xn_5, xk_nw 5 q ∈ xw_T := fun q hq => xk_pl_ok (ws := xn_5.map (xk_nw 5)) (ps := []) (by decide +kernel) _ (List.mem_map.mpr ⟨q, hq, rfl⟩)
def xn_6 : List (Nat × Nat) := []
theorem xn_6_ok : ∀ q ∈ xn_6, xk_nw 6 q ∈ xw_T := fun q hq => xk_pl_ok (ws := xn_6.map (xk_nw 6)) (ps := []) (by decide +kernel) _ (List.mem_map.mpr ⟨q, hq, rfl⟩)
def xn_7 : List (Nat × Nat) := [(9, 4)]
theorem xn_7_ok : ∀ q ∈ xn_7, xk_nw 7 q ∈ xw_T := fun q hq => xk_pl_ok (ws := xn_7.map (xk_nw 7)) (ps := [344]) (by decide +kernel) _ (List.mem_map.mpr ⟨q, hq, rfl⟩)
def xn_8 : List (Nat × Nat) := [(17, 0), (27, 5), (37, 3), (46, 7), (58, 2), (65, 1)]
theorem xn_8_ok : ∀ q ∈ xn_8, xk_nw 8 q ∈ xw_T := fun q hq => xk_pl_ok (ws := xn_8.map (xk_nw 8)) (ps := [134, 233, 284, 338, 444, 465]) (by decide +kernel) _ (List.mem_map.mpr ⟨q, hq, rfl⟩)
def xn_9 : List (Nat × Nat) := []
theorem xn_9_ok : ∀ q ∈ xn_9, xk_nw 9 q ∈ xw_T := fun q hq => xk_pl_ok (ws := xn_9.map (xk_nw 9)) (ps := []) (by decide +kernel) _ (List.mem_map.mpr ⟨q, hq, rfl⟩)
def xn_10 : List (Nat × Nat) := [(8, 8), (100, 9)]
theorem xn_10_ok : ∀ q ∈ xn_10, xk_nw 10 q ∈ xw_T := fun q hq => xk_pl_ok (ws := xn_10.map (xk_nw 10)) (ps := [126, 1334]) (by decide +kernel) _ (List.mem_map.mpr ⟨q, hq, rfl⟩)
def xn_11 : List (Nat × Nat) := []
theorem xn_11_ok : ∀ q ∈ xn_11, xk_nw 11 q ∈ xw_T := fun q hq => xk_pl_ok (ws := xn_11.map (xk_nw 11)) (ps := []) (by decide +kernel) _ (List.mem_map.mpr ⟨q, hq, rfl⟩)
def xn_12 : List (Nat × Nat) := []
theorem xn_12_ok : ∀ q ∈ xn_12, xk_nw 12 q ∈ xw_T := fun q hq => xk_pl_ok (ws := xn_12.map (xk_nw 12)) (ps := []) (by decide +kernel) _ (List.mem_map.mpr ⟨q, hq, rfl⟩)
def xn (o : Nat) : List (Nat × Nat) := match o with
  | 0 => xn_0
  | 1 => xn_1
  | 2 => xn_2
  | 3 => xn_3
  | 4 => xn_4
  | 5 => xn_5
  | 6 => xn_6
  | 7 => xn_7
  | 8 => xn_8
  | 9 => xn_9
  | 10 => xn_10
  | 11 => xn_11
  | 12 => xn_12
  | _ => []
theorem xn_ok (o : Nat) (q : (Nat × Nat)) (h : q ∈ xn o) : xk_nw o q ∈ xw_T := match o, h with
  | 0, h => xn_0_ok q h
  | 1, h => xn_1_ok q h
  | 2, h => xn_2_ok q h
  | 3, h => xn_3_ok q h
  | 4, h => xn_4_ok q h
  | 5, h => xn_5_ok q h
  | 6, h => xn_6_ok q h
  | 7, h => xn_7_ok q h
  | 8, h => xn_8_ok q h
  | 9, h => xn_9_ok q h
  | 10, h => xn_10_ok q h
  | 11, h => xn_11_ok q h
  | 12, h => xn_12_ok q h
  | _ + 13, h => absurd h List.not_mem_nil
def xq_0 : List (Nat × Nat) := []
theorem xq_0_ok : ∀ q ∈ xq_0, xk_qw 0 q ∈ xw_T := fun q hq => xk_pl_ok (ws := xq_0.map (xk_qw 0)) (ps := []) (by decide +kernel) _ (List.mem_map.mpr ⟨q, hq, rfl⟩)
def xq_1 : List (Nat × Nat) := []
theorem xq_1_ok : ∀ q ∈ xq_1, xk_qw 1 q ∈ xw_T := fun q hq => xk_pl_ok (ws := xq_1.map (xk_qw 1)) (ps := []) (by decide +kernel) _ (List.mem_map.mpr ⟨q, hq, rfl⟩)
def xq_2 : List (Nat × Nat) := [(36, 2147483647)]
theorem xq_2_ok : ∀ q ∈ xq_2, xk_qw 2 q ∈ xw_T := fun q hq => xk_pl_ok (ws := xq_2.map (xk_qw 2)) (ps := [1114]) (by decide +kernel) _ (List.mem_map.mpr ⟨q, hq, rfl⟩)
def xq_3 : List (Nat × Nat) := []
theorem xq_3_ok : ∀ q ∈ xq_3, xk_qw 3 q ∈ xw_T := fun q hq => xk_pl_ok (ws := xq_3.map (xk_qw 3)) (ps := []) (by decide +kernel) _ (List.mem_map.mpr ⟨q, hq, rfl⟩)
def xq_4 : List (Nat × Nat) := []
theorem xq_4_ok : ∀ q ∈ xq_4, xk_qw 4 q ∈ xw_T := fun q hq => xk_pl_ok (ws := xq_4.map (xk_qw 4)) (ps := []) (by decide +kernel) _ (List.mem_map.mpr ⟨q, hq, rfl⟩)
def xq_5 : List (Nat × Nat) := []
theorem xq_5_ok : ∀ q ∈ xq_5, xk_qw 5 q ∈ xw_T := fun q hq => xk_pl_ok (ws := xq_5.map (xk_qw 5)) (ps := []) (by decide +kernel) _ (List.mem_map.mpr ⟨q, hq, rfl⟩)
def xq_6 : List (Nat × Nat) := []
theorem xq_6_ok : ∀ q ∈ xq_6, xk_qw 6 q ∈ xw_T := fun q hq => xk_pl_ok (ws := xq_6.map (xk_qw 6)) (ps := []) (by decide +kernel) _ (List.mem_map.mpr ⟨q, hq, rfl⟩)
def xq_7 : List (Nat × Nat) := []
theorem xq_7_ok : ∀ q ∈ xq_7, xk_qw 7 q ∈ xw_T := fun q hq => xk_pl_ok (ws := xq_7.map (xk_qw 7)) (ps := []) (by decide +kernel) _ (List.mem_map.mpr ⟨q, hq, rfl⟩)
def xq_8 : List (Nat × Nat) := []
theorem xq_8_ok : ∀ q ∈ xq_8, xk_qw 8 q ∈ xw_T := fun q hq => xk_pl_ok (ws := xq_8.map (xk_qw 8)) (ps := []) (by decide +kernel) _ (List.mem_map.mpr ⟨q, hq, rfl⟩)
def xq_9 : List (Nat × Nat) := []
theorem xq_9_ok : ∀ q ∈ xq_9, xk_qw 9 q ∈ xw_T := fun q hq => xk_pl_ok (ws := xq_9.map (xk_qw 9)) (ps := []) (by decide +kernel) _ (List.mem_map.mpr ⟨q, hq, rfl⟩)
def xq_10 : List (Nat × Nat) := []
theorem xq_10_ok : ∀ q ∈ xq_10, xk_qw 10 q ∈ xw_T := fun q hq => xk_pl_ok (ws := xq_10.map (xk_qw 10)) (ps := []) (by decide +kernel) _ (List.mem_map.mpr ⟨q, hq, rfl⟩)
def xq_11 : List (Nat × Nat) := [(265, 1431655765), (266, 858993459), (267, 252645135)]
theorem xq_11_ok : ∀ q ∈ xq_11, xk_qw 11 q ∈ xw_T := fun q hq => xk_pl_ok (ws := xq_11.map (xk_qw 11)) (ps := [1224, 1225, 1226]) (by decide +kernel) _ (List.mem_map.mpr ⟨q, hq, rfl⟩)
def xq_12 : List (Nat × Nat) := []
theorem xq_12_ok : ∀ q ∈ xq_12, xk_qw 12 q ∈ xw_T := fun q hq => xk_pl_ok (ws := xq_12.map (xk_qw 12)) (ps := []) (by decide +kernel) _ (List.mem_map.mpr ⟨q, hq, rfl⟩)
def xq (o : Nat) : List (Nat × Nat) := match o with
  | 0 => xq_0
  | 1 => xq_1
  | 2 => xq_2
  | 3 => xq_3
  | 4 => xq_4
  | 5 => xq_5
  | 6 => xq_6
  | 7 => xq_7
  | 8 => xq_8
  | 9 => xq_9
  | 10 => xq_10
  | 11 => xq_11
  | 12 => xq_12
  | _ => []
theorem xq_ok (o : Nat) (q : (Nat × Nat)) (h : q ∈ xq o) : xk_qw o q ∈ xw_T := match o, h with
  | 0, h => xq_0_ok q h
  | 1, h => xq_1_ok q h
  | 2, h => xq_2_ok q h
  | 3, h => xq_3_ok q h
  | 4, h => xq_4_ok q h
  | 5, h => xq_5_ok q h
  | 6, h => xq_6_ok q h
  | 7, h => xq_7_ok q h
  | 8, h => xq_8_ok q h
  | 9, h => xq_9_ok q h
  | 10, h => xq_10_ok q h
  | 11, h => xq_11_ok q h
  | 12, h => xq_12_ok q h
  | _ + 13, h => absurd h List.not_mem_nil
def xa_0 : List Nat := [63]
theorem xa_0_ok : ∀ q ∈ xa_0, xk_aw 0 q ∈ xw_T := fun q hq => xk_pl_ok (ws := xa_0.map (xk_aw 0)) (ps := [792]) (by decide +kernel) _ (List.mem_map.mpr ⟨q, hq, rfl⟩)
def xa_1 : List Nat := []
theorem xa_1_ok : ∀ q ∈ xa_1, xk_aw 1 q ∈ xw_T := fun q hq => xk_pl_ok (ws := xa_1.map (xk_aw 1)) (ps := []) (by decide +kernel) _ (List.mem_map.mpr ⟨q, hq, rfl⟩)
def xa_2 : List Nat := []
theorem xa_2_ok : ∀ q ∈ xa_2, xk_aw 2 q ∈ xw_T := fun q hq => xk_pl_ok (ws := xa_2.map (xk_aw 2)) (ps := []) (by decide +kernel) _ (List.mem_map.mpr ⟨q, hq, rfl⟩)
def xa_3 : List Nat := []
theorem xa_3_ok : ∀ q ∈ xa_3, xk_aw 3 q ∈ xw_T := fun q hq => xk_pl_ok (ws := xa_3.map (xk_aw 3)) (ps := []) (by decide +kernel) _ (List.mem_map.mpr ⟨q, hq, rfl⟩)
def xa_4 : List Nat := []
theorem xa_4_ok : ∀ q ∈ xa_4, xk_aw 4 q ∈ xw_T := fun q hq => xk_pl_ok (ws := xa_4.map (xk_aw 4)) (ps := []) (by decide +kernel) _ (List.mem_map.mpr ⟨q, hq, rfl⟩)
def xa_5 : List Nat := [43]
theorem xa_5_ok : ∀ q ∈ xa_5, xk_aw 5 q ∈ xw_T := fun q hq => xk_pl_ok (ws := xa_5.map (xk_aw 5)) (ps := [498]) (by decide +kernel) _ (List.mem_map.mpr ⟨q, hq, rfl⟩)
def xa_6 : List Nat := []
theorem xa_6_ok : ∀ q ∈ xa_6, xk_aw 6 q ∈ xw_T := fun q hq => xk_pl_ok (ws := xa_6.map (xk_aw 6)) (ps := []) (by decide +kernel) _ (List.mem_map.mpr ⟨q, hq, rfl⟩)
def xa_7 : List Nat := []
theorem xa_7_ok : ∀ q ∈ xa_7, xk_aw 7 q ∈ xw_T := fun q hq => xk_pl_ok (ws := xa_7.map (xk_aw 7)) (ps := []) (by decide +kernel) _ (List.mem_map.mpr ⟨q, hq, rfl⟩)
def xa_8 : List Nat := []
theorem xa_8_ok : ∀ q ∈ xa_8, xk_aw 8 q ∈ xw_T := fun q hq => xk_pl_ok (ws := xa_8.map (xk_aw 8)) (ps := []) (by decide +kernel) _ (List.mem_map.mpr ⟨q, hq, rfl⟩)
def xa_9 : List Nat := []
theorem xa_9_ok : ∀ q ∈ xa_9, xk_aw 9 q ∈ xw_T := fun q hq => xk_pl_ok (ws := xa_9.map (xk_aw 9)) (ps := []) (by decide +kernel) _ (List.mem_map.mpr ⟨q, hq, rfl⟩)
def xa_10 : List Nat := []
theorem xa_10_ok : ∀ q ∈ xa_10, xk_aw 10 q ∈ xw_T := fun q hq => xk_pl_ok (ws := xa_10.map (xk_aw 10)) (ps := []) (by decide +kernel) _ (List.mem_map.mpr ⟨q, hq, rfl⟩)
def xa_11 : List Nat := []
theorem xa_11_ok : ∀ q ∈ xa_11, xk_aw 11 q ∈ xw_T := fun q hq => xk_pl_ok (ws := xa_11.map (xk_aw 11)) (ps := []) (by decide +kernel) _ (List.mem_map.mpr ⟨q, hq, rfl⟩)
def xa_12 : List Nat := []
theorem xa_12_ok : ∀ q ∈ xa_12, xk_aw 12 q ∈ xw_T := fun q hq => xk_pl_ok (ws := xa_12.map (xk_aw 12)) (ps := []) (by decide +kernel) _ (List.mem_map.mpr ⟨q, hq, rfl⟩)
def xa (o : Nat) : List Nat := match o with
  | 0 => xa_0
  | 1 => xa_1
  | 2 => xa_2
  | 3 => xa_3
  | 4 => xa_4
  | 5 => xa_5
  | 6 => xa_6
  | 7 => xa_7
  | 8 => xa_8
  | 9 => xa_9
  | 10 => xa_10
  | 11 => xa_11
  | 12 => xa_12
  | _ => []
theorem xa_ok (o : Nat) (q : Nat) (h : q ∈ xa o) : xk_aw o q ∈ xw_T := match o, h with
  | 0, h => xa_0_ok q h
  | 1, h => xa_1_ok q h
  | 2, h => xa_2_ok q h
  | 3, h => xa_3_ok q h
  | 4, h => xa_4_ok q h
  | 5, h => xa_5_ok q h
  | 6, h => xa_6_ok q h
  | 7, h => xa_7_ok q h
  | 8, h => xa_8_ok q h
  | 9, h => xa_9_ok q h
  | 10, h => xa_10_ok q h
  | 11, h => xa_11_ok q h
  | 12, h => xa_12_ok q h
  | _ + 13, h => absurd h List.not_mem_nil
def xi_0 : List Nat := [3]
theorem xi_0_ok : ∀ q ∈ xi_0, xk_ow 0 q ∈ xw_T := fun q hq => xk_pl_ok (ws := xi_0.map (xk_ow 0)) (ps := [139]) (by decide +kernel) _ (List.mem_map.mpr ⟨q, hq, rfl⟩)
def xi_1 : List Nat := [3]
theorem xi_1_ok : ∀ q ∈ xi_1, xk_ow 1 q ∈ xw_T := fun q hq => xk_pl_ok (ws := xi_1.map (xk_ow 1)) (ps := [470]) (by decide +kernel) _ (List.mem_map.mpr ⟨q, hq, rfl⟩)
def xi_2 : List Nat := [5]
theorem xi_2_ok : ∀ q ∈ xi_2, xk_ow 2 q ∈ xw_T := fun q hq => xk_pl_ok (ws := xi_2.map (xk_ow 2)) (ps := [449]) (by decide +kernel) _ (List.mem_map.mpr ⟨q, hq, rfl⟩)
def xi_3 : List Nat := [3]
theorem xi_3_ok : ∀ q ∈ xi_3, xk_ow 3 q ∈ xw_T := fun q hq => xk_pl_ok (ws := xi_3.map (xk_ow 3)) (ps := [289]) (by decide +kernel) _ (List.mem_map.mpr ⟨q, hq, rfl⟩)
def xi_4 : List Nat := [3]
theorem xi_4_ok : ∀ q ∈ xi_4, xk_ow 4 q ∈ xw_T := fun q hq => xk_pl_ok (ws := xi_4.map (xk_ow 4)) (ps := [349]) (by decide +kernel) _ (List.mem_map.mpr ⟨q, hq, rfl⟩)
def xi_5 : List Nat := [3]
theorem xi_5_ok : ∀ q ∈ xi_5, xk_ow 5 q ∈ xw_T := fun q hq => xk_pl_ok (ws := xi_5.map (xk_ow 5)) (ps := [238]) (by decide +kernel) _ (List.mem_map.mpr ⟨q, hq, rfl⟩)
def xi_6 : List Nat := [3]
theorem xi_6_ok : ∀ q ∈ xi_6, xk_ow 6 q ∈ xw_T := fun q hq => xk_pl_ok (ws := xi_6.map (xk_ow 6)) (ps := [295]) (by decide +kernel) _ (List.mem_map.mpr ⟨q, hq, rfl⟩)
def xi_7 : List Nat := [3]
theorem xi_7_ok : ∀ q ∈ xi_7, xk_ow 7 q ∈ xw_T := fun q hq => xk_pl_ok (ws := xi_7.map (xk_ow 7)) (ps := [343]) (by decide +kernel) _ (List.mem_map.mpr ⟨q, hq, rfl⟩)
def xi_8 : List Nat := [1]
theorem xi_8_ok : ∀ q ∈ xi_8, xk_ow 8 q ∈ xw_T := fun q hq => xk_pl_ok (ws := xi_8.map (xk_ow 8)) (ps := [131]) (by decide +kernel) _ (List.mem_map.mpr ⟨q, hq, rfl⟩)
def xi_9 : List Nat := [1]
theorem xi_9_ok : ∀ q ∈ xi_9, xk_ow 9 q ∈ xw_T := fun q hq => xk_pl_ok (ws := xi_9.map (xk_ow 9)) (ps := [1339]) (by decide +kernel) _ (List.mem_map.mpr ⟨q, hq, rfl⟩)
def xi_10 : List Nat := []
theorem xi_10_ok : ∀ q ∈ xi_10, xk_ow 10 q ∈ xw_T := fun q hq => xk_pl_ok (ws := xi_10.map (xk_ow 10)) (ps := []) (by decide +kernel) _ (List.mem_map.mpr ⟨q, hq, rfl⟩)
def xi_11 : List Nat := []
theorem xi_11_ok : ∀ q ∈ xi_11, xk_ow 11 q ∈ xw_T := fun q hq => xk_pl_ok (ws := xi_11.map (xk_ow 11)) (ps := []) (by decide +kernel) _ (List.mem_map.mpr ⟨q, hq, rfl⟩)
def xi_12 : List Nat := []
theorem xi_12_ok : ∀ q ∈ xi_12, xk_ow 12 q ∈ xw_T := fun q hq => xk_pl_ok (ws := xi_12.map (xk_ow 12)) (ps := []) (by decide +kernel) _ (List.mem_map.mpr ⟨q, hq, rfl⟩)
def xi (o : Nat) : List Nat := match o with
  | 0 => xi_0
  | 1 => xi_1
  | 2 => xi_2
  | 3 => xi_3
  | 4 => xi_4
  | 5 => xi_5
  | 6 => xi_6
  | 7 => xi_7
  | 8 => xi_8
  | 9 => xi_9
  | 10 => xi_10
  | 11 => xi_11
  | 12 => xi_12
  | _ => []
theorem xi_ok (o : Nat) (q : Nat) (h : q ∈ xi o) : xk_ow o q ∈ xw_T := match o, h with
  | 0, h => xi_0_ok q h
  | 1, h => xi_1_ok q h
  | 2, h => xi_2_ok q h
  | 3, h => xi_3_ok q h
  | 4, h => xi_4_ok q h
  | 5, h => xi_5_ok q h
  | 6, h => xi_6_ok q h
  | 7, h => xi_7_ok q h
  | 8, h => xi_8_ok q h
  | 9, h => xi_9_ok q h
  | 10, h => xi_10_ok q h
  | 11, h => xi_11_ok q h
  | 12, h => xi_12_ok q h
  | _ + 13, h => absurd h List.not_mem_nil
def xhk : List (Nat × Nat × Nat) := [(10, 13, 0), (10, 18, 1)]
theorem xhk_ok : ∀ q ∈ xhk, xk_hw q ∈ xw_T := fun q hq => xk_pl_ok (ws := xhk.map xk_hw) (ps := [713, 992]) (by decide +kernel) _ (List.mem_map.mpr ⟨q, hq, rfl⟩)
def xk_cw (ci : Nat) : List Cond := match vwCl[ci]? with
  | some q => [.instantiable q.1 q.2.2, .initialized q.1]
  | none => []
def xk_cn : List Nat := [0, 1, 2, 3, 4, 5, 6, 7, 8, 9]
theorem xk_cn_ok : ∀ ci ∈ xk_cn, ∀ w ∈ xk_cw ci, w ∈ xw_T := fun ci hc w hw => xk_pl_ok (ws := xk_cn.flatMap xk_cw) (ps := [135, 105, 466, 112, 445, 111, 285, 107, 345, 110, 234, 106, 291, 108, 339, 109, 127, 104, 1335, 114]) (by decide +kernel) w (List.mem_flatMap.mpr ⟨ci, hc, hw⟩)
theorem xk_cls3 (ci : Nat) (q : vw_C) (h : vwCl[ci]? = some q) : xo_n ci = q.1 := match ci, h with
  | 0, h => by cases h; rfl
  | 1, h => by cases h; rfl
  | 2, h => by cases h; rfl
  | 3, h => by cases h; rfl
  | 4, h => by cases h; rfl
  | 5, h => by cases h; rfl
  | 6, h => by cases h; rfl
  | 7, h => by cases h; rfl
  | 8, h => by cases h; rfl
  | 9, h => by cases h; rfl
  | k + 10, h => by simp [vwCl] at h
def xk_ik0 : Nat × Nat := (86, 90)
def xk_ik1 : Nat × Nat := (144, 148)
end
section
noncomputable def xk_l3 (l : List (Nat × Nat × Nat)) (a b c : Nat) : Bool := List.rec (motive := fun _ => Bool) false (fun q _ ih => bif Nat.beq q.1 a then Nat.beq q.2.1 b && Nat.beq q.2.2 c else ih) l
noncomputable def xk_l2 (l : List (Nat × Nat)) (a b : Nat) : Bool := List.rec (motive := fun _ => Bool) false (fun q _ ih => bif Nat.beq q.1 a then Nat.beq q.2 b else ih) l
noncomputable def xk_l1 (l : List Nat) (a : Nat) : Bool := List.rec (motive := fun _ => Bool) false (fun q _ ih => bif Nat.beq q a then true else ih) l
theorem xk_l3_ok {l : List (Nat × Nat × Nat)} {a b c : Nat} (h : xk_l3 l a b c = true) : (a, b, c) ∈ l := by
  induction l with
  | nil => cases h
  | cons q t ih =>
    have h : (bif Nat.beq q.1 a then Nat.beq q.2.1 b && Nat.beq q.2.2 c else xk_l3 t a b c) = true := h
    cases hb : Nat.beq q.1 a with
    | true =>
      rw [hb] at h
      have h : (Nat.beq q.2.1 b && Nat.beq q.2.2 c) = true := h
      rw [Bool.and_eq_true] at h
      have e1 := Nat.eq_of_beq_eq_true hb
      have e2 := Nat.eq_of_beq_eq_true h.1
      have e3 := Nat.eq_of_beq_eq_true h.2
      rw [← e1, ← e2, ← e3]
      exact List.mem_cons_self
    | false => rw [hb] at h; exact List.mem_cons_of_mem _ (ih h)
theorem xk_l2_ok {l : List (Nat × Nat)} {a b : Nat} (h : xk_l2 l a b = true) : (a, b) ∈ l := by
  induction l with
  | nil => cases h
  | cons q t ih =>
    have h : (bif Nat.beq q.1 a then Nat.beq q.2 b else xk_l2 t a b) = true := h
    cases hb : Nat.beq q.1 a with
    | true =>
      rw [hb] at h
      have e1 := Nat.eq_of_beq_eq_true hb
      have e2 := Nat.eq_of_beq_eq_true h
      rw [← e1, ← e2]
      exact List.mem_cons_self
    | false => rw [hb] at h; exact List.mem_cons_of_mem _ (ih h)
theorem xk_l1_ok {l : List Nat} {a : Nat} (h : xk_l1 l a = true) : a ∈ l := by
  induction l with
  | nil => cases h
  | cons q t ih =>
    have h : (bif Nat.beq q a then true else xk_l1 t a) = true := h
    cases hb : Nat.beq q a with
    | true => rw [← Nat.eq_of_beq_eq_true hb]; exact List.mem_cons_self
    | false => rw [hb] at h; exact List.mem_cons_of_mem _ (ih h)
theorem xt_eq {ci k : Nat} {q : vw_C} (h : vwCl[ci]? = some q) : xt ci k = q.2.1 k := by unfold xt; rw [h]
theorem xk_arr0 : Cond.arrayClass (newarray.typeOf .byte) ∈ xw_T := xk_has_in (by decide +kernel)
theorem xk_arr1 : Cond.arrayClass (newarray.typeOf .int) ∈ xw_T := xk_has_in (by decide +kernel)
theorem xk_arr2 : Cond.arrayClass (newarray.typeOf .long) ∈ xw_T := xk_has_in (by decide +kernel)
theorem xk_arr3 : Cond.arrayClass (newarray.typeOf .boolean) ∈ xw_T := xk_has_in (by decide +kernel)
def xk_arrb : ArrayType → Bool
  | .byte => true
  | .int => true
  | .long => true
  | .boolean => true
  | _ => false
theorem xk_arrb_ok {t : ArrayType} (h : xk_arrb t = true) : Cond.arrayClass (newarray.typeOf t) ∈ xw_T := by
  cases t <;> first | exact xk_arr0 | exact xk_arr1 | exact xk_arr2 | exact xk_arr3 | cases h
noncomputable def xk_Lb (o nL : Nat) (ini : Bool) (i : Instr) (res : List Nat) : Bool := match i, res with
  | .getfield idx, [10, ci, k] => match vwCl[ci]?, xk_tyL[ci]? with
    | some q, some _ => Nat.blt k q.2.2 && xk_l3 (xf o) idx ci k
    | _, _ => false
  | .putfield idx, [11, ci, k, tc, _] => match vwCl[ci]?, xk_tyL[ci]? with
    | some q, some ty => Nat.blt k q.2.2 && xk_l3 (xf o) idx ci k && xk_tcb tc (ty k) && (!(q.2.1 k).2.2.2 || (decide ((q.2.1 k).1 = xo_n o) && ini))
    | _, _ => false
  | .new idx, [12, ci, n] => match vwCl[ci]?, xk_tyL[ci]? with
    | some q, some _ => Nat.beq q.2.2 n && xk_l2 (xn o) idx ci && xk_l1 xk_cn ci
    | _, _ => false
  | .ldc idx, [13, n] => xk_l2 (xq o) idx n
  | .ldc_w idx, [13, n] => xk_l2 (xq o) idx n
  | .getstatic idx, _ => Nat.beq o 0 && Nat.beq idx 27
  | .newarray t, _ => xk_arrb t
  | .istore_n k, _ => Nat.blt k nL
  | .istore k, _ => Nat.blt k nL
  | .astore_n k, _ => Nat.blt k nL
  | .astore k, _ => Nat.blt k nL
  | .lstore_n k, _ => Nat.blt (k + 1) nL
  | .lstore k, _ => Nat.blt (k + 1) nL
  | .iinc k _, _ => Nat.blt k nL
  | .ldc _, _ => false
  | .ldc_w _, _ => false
  | .getfield _, _ => false
  | .putfield _, _ => false
  | .new _, _ => false
  | _, _ => true
theorem xk_Lb_ok {o nL : Nat} {ini : Bool} {i : Instr} {res : List Nat} (h : xk_Lb o nL ini i res = true) : xk_L (xo_n o) nL ini i res := by
  unfold xk_Lb at h
  split at h
  · next idx ci k =>
    split at h
    · next q ty hq hty =>
      rw [Bool.and_eq_true] at h
      have h2 := xf_ok o _ (xk_l3_ok h.2)
      unfold xk_fw at h2
      rw [xt_eq hq] at h2
      exact ⟨_, _, _, _, xk_cls2 hq hty, Nat.ble_eq.mp h.1, h2⟩
    · cases h
  · next idx ci k tc z =>
    split at h
    · next q ty hq hty =>
      simp only [Bool.and_eq_true, Bool.or_eq_true, decide_eq_true_eq] at h
      obtain ⟨⟨⟨h1, h2⟩, h3⟩, h4⟩ := h
      have h2 := xf_ok o _ (xk_l3_ok h2)
      unfold xk_fw at h2
      rw [xt_eq hq] at h2
      refine ⟨_, _, _, _, xk_cls2 hq hty, Nat.ble_eq.mp h1, h2, xk_tcb_ok h3, ?_⟩
      cases hf : (q.2.1 k).2.2.2 with
      | false => exact Or.inl rfl
      | true =>
        rw [hf] at h4
        rcases h4 with h4 | h4
        · cases h4
        · exact Or.inr ⟨rfl, h4.1, h4.2⟩
    · cases h
  · next idx ci n =>
    split at h
    · next q ty hq hty =>
      simp only [Bool.and_eq_true] at h
      obtain ⟨⟨h1, h2⟩, h3⟩ := h
      have e := Nat.eq_of_beq_eq_true h1
      subst e
      have h2 := xn_ok o _ (xk_l2_ok h2)
      unfold xk_nw at h2
      rw [xk_cls3 ci q hq] at h2
      have h4 := xk_cn_ok ci (xk_l1_ok h3)
      unfold xk_cw at h4
      rw [hq] at h4
      exact ⟨_, _, _, xk_cls2 hq hty, h2, h4 _ List.mem_cons_self, h4 _ (List.mem_cons_of_mem _ List.mem_cons_self)⟩
    · cases h
  · exact xq_ok o _ (xk_l2_ok h)
  · exact xq_ok o _ (xk_l2_ok h)
  · rw [Bool.and_eq_true] at h
    have e := Nat.eq_of_beq_eq_true h.1
    subst e
    exact ⟨rfl, Nat.eq_of_beq_eq_true h.2⟩
  · exact xk_arrb_ok h
  · exact Nat.ble_eq.mp h
  · exact Nat.ble_eq.mp h
  · exact Nat.ble_eq.mp h
  · exact Nat.ble_eq.mp h
  · exact Nat.ble_eq.mp h
  · exact Nat.ble_eq.mp h
  · exact Nat.ble_eq.mp h
  · cases h
  · cases h
  · cases h
  · cases h
  · cases h
  · unfold xk_L
    split <;> first | trivial | (exfalso; simp_all)
def xk_pn (y : MethodName) (n : Nat) : Bool := decide ((parseMethodDescriptor y.desc).map (fun d => d.parameters.length) = some n)
/-- a callee's own words: of kind 0 called by its object, 1 a constructor, 2 static, 4 static with handlers -/
def xk_yw (d : xd_D) (k : Nat) : List Cond := match k with
  | 0 => [.code d.2.1 d.2.2.1 d.2.2.2.1 d.2.2.2.2.1, .initialized d.2.1.cls, .instanceMethod d.2.1, .selects d.2.1.cls d.2.1 d.2.1]
  | 1 => [.code d.2.1 d.2.2.1 d.2.2.2.1 d.2.2.2.2.1, .initialized d.2.1.cls, .instanceMethod d.2.1]
  | 2 => [.code d.2.1 d.2.2.1 d.2.2.2.1 d.2.2.2.2.1, .initialized d.2.1.cls, .static d.2.1]
  | 4 => [.codeWith d.2.1 d.2.2.1 d.2.2.2.1 d.2.2.2.2.1 d.2.2.2.2.2.2.2, .initialized d.2.1.cls, .static d.2.1]
  | _ => []
def xk_yb (M : xe_M) (d : xd_D) (q : Nat × Nat × Nat) : Bool := Nat.ble d.2.2.2.1 21 && Nat.beq d.2.2.2.1 M.2.1 && plainName d.2.1.cls && decide (d.2.1.cls = d.1) && decide (d.2.1.cls ≠ "java/lang/invoke/MethodHandle") && decide (d.2.1.cls ≠ "java/lang/invoke/VarHandle") && xk_pn d.2.1 q.2.1 && match q.1 with
  | 0 => d.2.2.2.2.2.2.2.isEmpty && decide (vwCl[q.2.2]?.map (fun z => z.1) = some d.2.1.cls)
  | 1 => d.2.2.2.2.2.2.2.isEmpty && decide (d.2.2.2.2.1 = none) && decide (d.2.1.name = "<init>")
  | 2 => d.2.2.2.2.2.2.2.isEmpty
  | 4 => true
  | _ => false
def xk_Y (M : xe_M) (d : xd_D) (q : Nat × Nat × Nat) : Prop := q.1 = 9 ∨ ((∀ w ∈ xk_yw d q.1, w ∈ xw_T) ∧ xk_yb M d q = true)
theorem xk_Y9 {M : xe_M} {d : xd_D} {n c : Nat} : xk_Y M d (9, n, c) := Or.inl rfl
theorem xk_Y1 {M : xe_M} {d : xd_D} {q : Nat × Nat × Nat} {ps : List Nat} (h : (xk_pl (xk_yw d q.1) ps && xk_yb M d q) = true) : xk_Y M d q := by
  rw [Bool.and_eq_true] at h
  exact Or.inr ⟨xk_pl_ok h.1, h.2⟩
def xk_YP (l1 : List xe_M) (l2 : List xd_D) (l3 : List (Nat × Nat × Nat)) : Prop := ∀ (j : Nat) (M : xe_M) (d : xd_D) (q : Nat × Nat × Nat), l1[j]? = some M → l2[j]? = some d → l3[j]? = some q → xk_Y M d q
theorem xk_Yn : xk_YP [] [] [] := fun j M d q h => by simp at h
theorem xk_Yc {a : xe_M} {b : xd_D} {c : Nat × Nat × Nat} {t : List xe_M} {u : List xd_D} {v : List (Nat × Nat × Nat)} (h : xk_Y a b c) (ht : xk_YP t u v) : xk_YP (a :: t) (b :: u) (c :: v) := by
  intro j M d q hM hd hq
  cases j with
  | zero =>
    have e1 : a = M := by simpa using hM
    have e2 : b = d := by simpa using hd
    have e3 : c = q := by simpa using hq
    subst e1; subst e2; subst e3
    exact h
  | succ j => exact ht j M d q (by simpa using hM) (by simpa using hd) (by simpa using hq)
end
section
theorem xk_y0 : xk_Y xm_0 xd_0 (2, 1, 0) := xk_Y1 (ps := [1223, 125, 1222]) (by decide +kernel)
theorem xk_y1 : xk_Y xm_1 xd_1 (0, 0, 0) := xk_Y1 (ps := [604, 105, 602, 603]) (by decide +kernel)
theorem xk_y2 : xk_Y xm_2 xd_2 (1, 0, 0) := xk_Y1 (ps := [138, 105, 137]) (by decide +kernel)
theorem xk_y3 : xk_Y xm_3 xd_3 (0, 0, 0) := xk_Y1 (ps := [791, 105, 789, 790]) (by decide +kernel)
theorem xk_y4 : xk_Y xm_4 xd_4 (0, 1, 0) := xk_Y1 (ps := [1032, 105, 1030, 1031]) (by decide +kernel)
theorem xk_y5 : xk_Y xm_5 xd_5 (0, 1, 0) := xk_Y1 (ps := [1028, 105, 1026, 1027]) (by decide +kernel)
theorem xk_y6 : xk_Y xm_6 xd_6 (0, 2, 1) := xk_Y1 (ps := [1322, 112, 1320, 1321]) (by decide +kernel)
theorem xk_y7 : xk_Y xm_7 xd_7 (0, 1, 1) := xk_Y1 (ps := [1313, 112, 1311, 1312]) (by decide +kernel)
theorem xk_y8 : xk_Y xm_8 xd_8 (1, 0, 0) := xk_Y1 (ps := [469, 112, 468]) (by decide +kernel)
theorem xk_y9 : xk_Y xm_9 xd_9 (0, 2, 1) := xk_Y1 (ps := [1318, 112, 1316, 1317]) (by decide +kernel)
theorem xk_y10 : xk_Y xm_10 xd_10 (0, 2, 1) := xk_Y1 (ps := [1326, 112, 1324, 1325]) (by decide +kernel)
theorem xk_y11 : xk_Y xm_11 xd_11 (0, 2, 2) := xk_Y1 (ps := [1125, 111, 1124, 42]) (by decide +kernel)
theorem xk_y12 : xk_Y xm_12 xd_12 (0, 4, 2) := xk_Y1 (ps := [1118, 111, 1117, 41]) (by decide +kernel)
theorem xk_y13 : xk_Y xm_13 xd_13 (1, 0, 0) := xk_Y1 (ps := [448, 111, 447]) (by decide +kernel)
theorem xk_y14 : xk_Y xm_14 xd_14 (0, 1, 2) := xk_Y1 (ps := [1129, 111, 1127, 1128]) (by decide +kernel)
theorem xk_y15 : xk_Y xm_15 xd_15 (1, 0, 0) := xk_Y1 (ps := [348, 110, 347]) (by decide +kernel)
theorem xk_y16 : xk_Y xm_16 xd_16 (0, 0, 5) := xk_Y1 (ps := [673, 106, 671, 672]) (by decide +kernel)
theorem xk_y17 : xk_Y xm_17 xd_17 (0, 1, 5) := xk_Y1 (ps := [705, 106, 703, 704]) (by decide +kernel)
theorem xk_y18 : xk_Y xm_18 xd_18 (1, 0, 0) := xk_Y1 (ps := [237, 106, 236]) (by decide +kernel)
theorem xk_y19 : xk_Y xm_19 xd_19 (0, 3, 5) := xk_Y1 (ps := [576, 106, 574, 575]) (by decide +kernel)
theorem xk_y20 : xk_Y xm_20 xd_20 (0, 3, 5) := xk_Y1 (ps := [1209, 106, 1207, 1208]) (by decide +kernel)
theorem xk_y21 : xk_Y xm_21 xd_21 (0, 1, 5) := xk_Y1 (ps := [497, 106, 495, 496]) (by decide +kernel)
theorem xk_y22 : xk_Y xm_22 xd_22 (0, 0, 6) := xk_Y1 (ps := [801, 108, 799, 800]) (by decide +kernel)
theorem xk_y23 : xk_Y xm_23 xd_23 (1, 1, 0) := xk_Y1 (ps := [294, 108, 293]) (by decide +kernel)
theorem xk_y24 : xk_Y xm_24 xd_24 (0, 1, 7) := xk_Y1 (ps := [1249, 109, 1247, 1248]) (by decide +kernel)
theorem xk_y25 : xk_Y xm_25 xd_25 (0, 1, 7) := xk_Y1 (ps := [689, 109, 687, 688]) (by decide +kernel)
theorem xk_y26 : xk_Y xm_26 xd_26 (0, 1, 7) := xk_Y1 (ps := [1133, 109, 1131, 1132]) (by decide +kernel)
theorem xk_y27 : xk_Y xm_27 xd_27 (0, 0, 7) := xk_Y1 (ps := [642, 109, 641, 4]) (by decide +kernel)
theorem xk_y28 : xk_Y xm_28 xd_28 (0, 0, 7) := xk_Y1 (ps := [1262, 109, 1260, 1261]) (by decide +kernel)
theorem xk_y29 : xk_Y xm_29 xd_29 (0, 2, 7) := xk_Y1 (ps := [1152, 109, 1150, 1151]) (by decide +kernel)
theorem xk_y30 : xk_Y xm_30 xd_30 (0, 2, 7) := xk_Y1 (ps := [646, 109, 645, 5]) (by decide +kernel)
theorem xk_y31 : xk_Y xm_31 xd_31 (0, 1, 7) := xk_Y1 (ps := [1078, 109, 1076, 1077]) (by decide +kernel)
theorem xk_y32 : xk_Y xm_32 xd_32 (0, 0, 7) := xk_Y1 (ps := [1177, 109, 1175, 1176]) (by decide +kernel)
theorem xk_y33 : xk_Y xm_33 xd_33 (0, 1, 8) := xk_Y1 (ps := [1044, 104, 1043, 37]) (by decide +kernel)
theorem xk_y34 : xk_Y xm_34 xd_34 (0, 1, 8) := xk_Y1 (ps := [1023, 104, 1022, 36]) (by decide +kernel)
theorem xk_y35 : xk_Y xm_35 xd_35 (0, 2, 8) := xk_Y1 (ps := [1057, 104, 1056, 38]) (by decide +kernel)
theorem xk_y36 : xk_Y xm_36 xd_36 (0, 0, 8) := xk_Y1 (ps := [564, 104, 562, 563]) (by decide +kernel)
theorem xk_y37 : xk_Y xm_37 xd_37 (0, 0, 8) := xk_Y1 (ps := [693, 104, 691, 692]) (by decide +kernel)
theorem xk_y38 : xk_Y xm_38 xd_38 (0, 1, 8) := xk_Y1 (ps := [1220, 104, 1219, 44]) (by decide +kernel)
theorem xk_y39 : xk_Y xm_39 xd_39 (0, 1, 8) := xk_Y1 (ps := [572, 104, 571, 1]) (by decide +kernel)
theorem xk_y40 : xk_Y xm_40 xd_40 (0, 2, 8) := xk_Y1 (ps := [677, 104, 676, 8]) (by decide +kernel)
theorem xk_y41 : xk_Y xm_41 xd_41 (0, 1, 8) := xk_Y1 (ps := [560, 104, 559, 0]) (by decide +kernel)
theorem xk_y42 : xk_Y xm_42 xd_42 (0, 0, 8) := xk_Y1 (ps := [709, 104, 707, 708]) (by decide +kernel)
theorem xk_y43 : xk_Y xm_43 xd_43 (0, 0, 8) := xk_Y1 (ps := [580, 104, 579, 2]) (by decide +kernel)
theorem xk_y44 : xk_Y xm_44 xd_44 (0, 0, 8) := xk_Y1 (ps := [584, 104, 582, 583]) (by decide +kernel)
theorem xk_y45 : xk_Y xm_45 xd_45 (0, 0, 9) := xk_Y1 (ps := [1951, 114, 1950, 98]) (by decide +kernel)
theorem xk_y46 : xk_Y xm_46 xd_46 (0, 1, 9) := xk_Y1 (ps := [1756, 114, 1755, 75]) (by decide +kernel)
theorem xk_y47 : xk_Y xm_47 xd_47 (0, 0, 9) := xk_Y1 (ps := [1907, 114, 1905, 1906]) (by decide +kernel)
theorem xk_y48 : xk_Y xm_48 xd_48 (0, 1, 9) := xk_Y1 (ps := [1618, 114, 1617, 49]) (by decide +kernel)
theorem xk_y49 : xk_Y xm_49 xd_49 (0, 2, 9) := xk_Y1 (ps := [1721, 114, 1720, 70]) (by decide +kernel)
theorem xk_y50 : xk_Y xm_50 xd_50 (0, 0, 9) := xk_Y1 (ps := [1744, 114, 1743, 72]) (by decide +kernel)
theorem xk_y51 : xk_Y xm_51 xd_51 (0, 1, 9) := xk_Y1 (ps := [1798, 114, 1797, 84]) (by decide +kernel)
theorem xk_y52 : xk_Y xm_52 xd_52 (0, 0, 9) := xk_Y1 (ps := [1725, 114, 1723, 1724]) (by decide +kernel)
theorem xk_y53 : xk_Y xm_53 xd_53 (0, 0, 9) := xk_Y1 (ps := [1975, 114, 1973, 1974]) (by decide +kernel)
theorem xk_y54 : xk_Y xm_54 xd_54 (0, 0, 9) := xk_Y1 (ps := [1806, 114, 1805, 86]) (by decide +kernel)
theorem xk_y55 : xk_Y xm_55 xd_55 (1, 0, 0) := xk_Y1 (ps := [1338, 114, 1337]) (by decide +kernel)
theorem xk_y56 : xk_Y xm_56 xd_56 (0, 1, 9) := xk_Y1 (ps := [1983, 114, 1982, 101]) (by decide +kernel)
theorem xk_y57 : xk_Y xm_57 xd_57 (0, 0, 9) := xk_Y1 (ps := [1628, 114, 1627, 50]) (by decide +kernel)
theorem xk_y58 : xk_Y xm_58 xd_58 (0, 1, 9) := xk_Y1 (ps := [1866, 114, 1865, 93]) (by decide +kernel)
theorem xk_y59 : xk_Y xm_59 xd_59 (0, 1, 9) := xk_Y1 (ps := [1602, 114, 1601, 46]) (by decide +kernel)
end
section
theorem xk_y60 : xk_Y xm_60 xd_60 (0, 1, 9) := xk_Y1 (ps := [1886, 114, 1885, 95]) (by decide +kernel)
theorem xk_y61 : xk_Y xm_61 xd_61 (0, 4, 9) := xk_Y1 (ps := [1760, 114, 1759, 76]) (by decide +kernel)
theorem xk_y62 : xk_Y xm_62 xd_62 (2, 3, 0) := xk_Y1 (ps := [1963, 114, 1962]) (by decide +kernel)
theorem xk_y63 : xk_Y xm_63 xd_63 (0, 1, 9) := xk_Y1 (ps := [1862, 114, 1861, 92]) (by decide +kernel)
theorem xk_y64 : xk_Y xm_64 xd_64 (0, 0, 9) := xk_Y1 (ps := [2004, 114, 2002, 2003]) (by decide +kernel)
theorem xk_y65 : xk_Y xm_65 xd_65 (0, 2, 9) := xk_Y1 (ps := [1610, 114, 1609, 47]) (by decide +kernel)
theorem xk_y66 : xk_Y xm_66 xd_66 (0, 0, 9) := xk_Y1 (ps := [1959, 114, 1958, 100]) (by decide +kernel)
theorem xk_y67 : xk_Y xm_67 xd_67 (0, 0, 9) := xk_Y1 (ps := [1594, 114, 1592, 1593]) (by decide +kernel)
theorem xk_y68 : xk_Y xm_68 xd_68 (0, 0, 9) := xk_Y1 (ps := [1729, 114, 1727, 1728]) (by decide +kernel)
theorem xk_y69 : xk_Y xm_69 xd_69 (2, 3, 0) := xk_Y1 (ps := [1736, 114, 1735]) (by decide +kernel)
theorem xk_y70 : xk_Y xm_70 xd_70 (0, 1, 2) := xk_Y1 (ps := [1112, 111, 1110, 1111]) (by decide +kernel)
theorem xk_y71 : xk_Y xm_71 xd_71 (1, 2, 0) := xk_Y1 (ps := [288, 107, 287]) (by decide +kernel)
theorem xk_y72 : xk_Y xm_72 xd_72 (0, 1, 6) := xk_Y1 (ps := [796, 108, 794, 795]) (by decide +kernel)
theorem xk_y73 : xk_Y xm_73 xd_73 (1, 1, 0) := xk_Y1 (ps := [342, 109, 341]) (by decide +kernel)
theorem xk_y74 : xk_Y xm_74 xd_74 (0, 2, 7) := xk_Y1 (ps := [600, 109, 598, 599]) (by decide +kernel)
theorem xk_y75 : xk_Y xm_75 xd_75 (0, 0, 7) := xk_Y1 (ps := [638, 109, 636, 637]) (by decide +kernel)
theorem xk_y76 : xk_Y xm_76 xd_76 (0, 2, 8) := xk_Y1 (ps := [1290, 104, 1288, 1289]) (by decide +kernel)
theorem xk_y77 : xk_Y xm_77 xd_77 (0, 3, 8) := xk_Y1 (ps := [1166, 104, 1165, 43]) (by decide +kernel)
theorem xk_y78 : xk_Y xm_78 xd_78 (0, 5, 8) := xk_Y1 (ps := [556, 104, 554, 555]) (by decide +kernel)
theorem xk_y79 : xk_Y xm_79 xd_79 (0, 3, 8) := xk_Y1 (ps := [1233, 104, 1231, 1232]) (by decide +kernel)
theorem xk_y80 : xk_Y xm_80 xd_80 (0, 3, 8) := xk_Y1 (ps := [1205, 104, 1203, 1204]) (by decide +kernel)
theorem xk_y81 : xk_Y xm_81 xd_81 (0, 2, 8) := xk_Y1 (ps := [1085, 104, 1083, 1084]) (by decide +kernel)
theorem xk_y82 : xk_Y xm_82 xd_82 (0, 0, 8) := xk_Y1 (ps := [701, 104, 699, 700]) (by decide +kernel)
theorem xk_y83 : xk_Y xm_83 xd_83 (0, 2, 8) := xk_Y1 (ps := [1305, 104, 1303, 1304]) (by decide +kernel)
theorem xk_y84 : xk_Y xm_84 xd_84 (0, 1, 8) := xk_Y1 (ps := [568, 104, 566, 567]) (by decide +kernel)
theorem xk_y85 : xk_Y xm_85 xd_85 (0, 2, 8) := xk_Y1 (ps := [1053, 104, 1051, 1052]) (by decide +kernel)
theorem xk_y86 : xk_Y xm_86 xd_86 (0, 2, 8) := xk_Y1 (ps := [1040, 104, 1038, 1039]) (by decide +kernel)
theorem xk_y87 : xk_Y xm_87 xd_87 (0, 3, 8) := xk_Y1 (ps := [1092, 104, 1090, 1091]) (by decide +kernel)
theorem xk_y88 : xk_Y xm_88 xd_88 (0, 2, 8) := xk_Y1 (ps := [1065, 104, 1063, 1064]) (by decide +kernel)
theorem xk_y89 : xk_Y xm_89 xd_89 (0, 1, 8) := xk_Y1 (ps := [1298, 104, 1296, 1297]) (by decide +kernel)
theorem xk_y90 : xk_Y xm_90 xd_90 (0, 5, 9) := xk_Y1 (ps := [1598, 114, 1596, 1597]) (by decide +kernel)
theorem xk_y91 : xk_Y xm_91 xd_91 (0, 0, 9) := xk_Y1 (ps := [1614, 114, 1613, 48]) (by decide +kernel)
theorem xk_y92 : xk_Y xm_92 xd_92 (0, 0, 9) := xk_Y1 (ps := [2000, 114, 1998, 1999]) (by decide +kernel)
theorem xk_y93 : xk_Y xm_93 xd_93 (0, 1, 9) := xk_Y1 (ps := [1830, 114, 1829, 90]) (by decide +kernel)
theorem xk_y94 : xk_Y xm_94 xd_94 (0, 1, 9) := xk_Y1 (ps := [1814, 114, 1813, 87]) (by decide +kernel)
theorem xk_y95 : xk_Y xm_95 xd_95 (0, 2, 9) := xk_Y1 (ps := [1818, 114, 1817, 88]) (by decide +kernel)
theorem xk_y96 : xk_Y xm_96 xd_96 (0, 0, 9) := xk_Y1 (ps := [1846, 114, 1845, 91]) (by decide +kernel)
theorem xk_y97 : xk_Y xm_97 xd_97 (0, 1, 9) := xk_Y1 (ps := [1878, 114, 1876, 1877]) (by decide +kernel)
theorem xk_y98 : xk_Y xm_98 xd_98 (0, 1, 9) := xk_Y1 (ps := [1895, 114, 1893, 1894]) (by decide +kernel)
theorem xk_y99 : xk_Y xm_99 xd_99 (0, 1, 9) := xk_Y1 (ps := [1790, 114, 1789, 82]) (by decide +kernel)
theorem xk_y100 : xk_Y xm_100 xd_100 (4, 4, 0) := xk_Y1 (ps := [1286, 103, 1285]) (by decide +kernel)
theorem xk_y101 : xk_Y xm_101 xd_101 (4, 5, 0) := xk_Y1 (ps := [1229, 103, 1228]) (by decide +kernel)
theorem xk_y102 : xk_Y xm_102 xd_102 (4, 5, 0) := xk_Y1 (ps := [1201, 103, 1200]) (by decide +kernel)
theorem xk_y103 : xk_Y xm_103 xd_103 (4, 4, 0) := xk_Y1 (ps := [1081, 103, 1080]) (by decide +kernel)
theorem xk_y104 : xk_Y xm_104 xd_104 (4, 4, 0) := xk_Y1 (ps := [1301, 103, 1300]) (by decide +kernel)
theorem xk_y105 : xk_Y xm_105 xd_105 (4, 4, 0) := xk_Y1 (ps := [1049, 103, 1048]) (by decide +kernel)
theorem xk_y106 : xk_Y xm_106 xd_106 (4, 4, 0) := xk_Y1 (ps := [1036, 103, 1035]) (by decide +kernel)
theorem xk_y107 : xk_Y xm_107 xd_107 (4, 5, 0) := xk_Y1 (ps := [1088, 103, 1087]) (by decide +kernel)
theorem xk_y108 : xk_Y xm_108 xd_108 (4, 4, 0) := xk_Y1 (ps := [1061, 103, 1060]) (by decide +kernel)
theorem xk_y109 : xk_Y xm_109 xd_109 (4, 3, 0) := xk_Y1 (ps := [1294, 103, 1293]) (by decide +kernel)
theorem xk_y110 : xk_Y xm_110 xd_110 (0, 2, 3) := xk_Y1 (ps := [787, 107, 785, 786]) (by decide +kernel)
theorem xk_y111 : xk_Y xm_111 xd_111 (0, 2, 8) := xk_Y1 (ps := [1148, 104, 1146, 1147]) (by decide +kernel)
theorem xk_y112 : xk_Y xm_112 xd_112 (1, 0, 0) := xk_Y1 (ps := [130, 104, 129]) (by decide +kernel)
theorem xk_y113 : xk_Y xm_113 xd_113 (0, 1, 8) := xk_Y1 (ps := [596, 104, 595, 3]) (by decide +kernel)
theorem xk_y114 : xk_Y xm_114 xd_114 (0, 1, 8) := xk_Y1 (ps := [1108, 104, 1107, 40]) (by decide +kernel)
theorem xk_y115 : xk_Y xm_115 xd_115 (0, 0, 8) := xk_Y1 (ps := [1309, 104, 1308, 45]) (by decide +kernel)
theorem xk_y116 : xk_Y xm_116 xd_116 (0, 0, 8) := xk_Y1 (ps := [685, 104, 684, 9]) (by decide +kernel)
theorem xk_y117 : xk_Y xm_117 xd_117 (0, 3, 8) := xk_Y1 (ps := [1244, 104, 1242, 1243]) (by decide +kernel)
theorem xk_y118 : xk_Y xm_118 xd_118 (0, 1, 9) := xk_Y1 (ps := [1606, 114, 1604, 1605]) (by decide +kernel)
theorem xk_y119 : xk_Y xm_119 xd_119 (0, 2, 9) := xk_Y1 (ps := [1939, 114, 1937, 1938]) (by decide +kernel)
theorem xk_y120 : xk_Y xm_120 xd_120 (0, 1, 9) := xk_Y1 (ps := [1979, 114, 1977, 1978]) (by decide +kernel)
theorem xk_y121 : xk_Y xm_121 xd_121 (0, 3, 9) := xk_Y1 (ps := [1987, 114, 1985, 1986]) (by decide +kernel)
theorem xk_y122 : xk_Y xm_122 xd_122 (0, 3, 9) := xk_Y1 (ps := [1971, 114, 1969, 1970]) (by decide +kernel)
theorem xk_y123 : xk_Y xm_123 xd_123 (0, 2, 9) := xk_Y1 (ps := [1858, 114, 1856, 1857]) (by decide +kernel)
theorem xk_y124 : xk_Y xm_124 xd_124 (0, 2, 9) := xk_Y1 (ps := [1947, 114, 1945, 1946]) (by decide +kernel)
theorem xk_y125 : xk_Y xm_125 xd_125 (0, 1, 9) := xk_Y1 (ps := [1882, 114, 1880, 1881]) (by decide +kernel)
theorem xk_y126 : xk_Y xm_126 xd_126 (0, 2, 9) := xk_Y1 (ps := [1834, 114, 1832, 1833]) (by decide +kernel)
theorem xk_y127 : xk_Y xm_127 xd_127 (0, 2, 9) := xk_Y1 (ps := [1826, 114, 1824, 1825]) (by decide +kernel)
theorem xk_y128 : xk_Y xm_128 xd_128 (0, 2, 9) := xk_Y1 (ps := [1752, 114, 1751, 74]) (by decide +kernel)
theorem xk_y129 : xk_Y xm_129 xd_129 (0, 3, 9) := xk_Y1 (ps := [1870, 114, 1868, 1869]) (by decide +kernel)
end
section
theorem xk_y130 : xk_Y xm_130 xd_130 (0, 2, 9) := xk_Y1 (ps := [1810, 114, 1808, 1809]) (by decide +kernel)
theorem xk_y131 : xk_Y xm_131 xd_131 (0, 2, 9) := xk_Y1 (ps := [1838, 114, 1836, 1837]) (by decide +kernel)
theorem xk_y132 : xk_Y xm_132 xd_132 (0, 1, 9) := xk_Y1 (ps := [1943, 114, 1941, 1942]) (by decide +kernel)
theorem xk_y133 : xk_Y xm_133 xd_133 (4, 4, 0) := xk_Y1 (ps := [1144, 103, 1143]) (by decide +kernel)
theorem xk_y134 : xk_Y xm_134 xd_134 (4, 5, 0) := xk_Y1 (ps := [1240, 103, 1239]) (by decide +kernel)
theorem xk_y135 : xk_Y xm_135 xd_135 (0, 1, 8) := xk_Y1 (ps := [1193, 104, 1191, 1192]) (by decide +kernel)
theorem xk_y136 : xk_Y xm_136 xd_136 (0, 0, 8) := xk_Y1 (ps := [592, 104, 590, 591]) (by decide +kernel)
theorem xk_y137 : xk_Y xm_137 xd_137 (0, 1, 8) := xk_Y1 (ps := [717, 104, 715, 716]) (by decide +kernel)
theorem xk_y138 : xk_Y xm_138 xd_138 (0, 1, 8) := xk_Y1 (ps := [1140, 104, 1138, 1139]) (by decide +kernel)
theorem xk_y139 : xk_Y xm_139 xd_139 (0, 1, 8) := xk_Y1 (ps := [996, 104, 994, 995]) (by decide +kernel)
theorem xk_y140 : xk_Y xm_140 xd_140 (0, 1, 8) := xk_Y1 (ps := [1159, 104, 1157, 1158]) (by decide +kernel)
theorem xk_y141 : xk_Y xm_141 xd_141 (0, 1, 8) := xk_Y1 (ps := [1216, 104, 1214, 1215]) (by decide +kernel)
theorem xk_y142 : xk_Y xm_142 xd_142 (0, 0, 8) := xk_Y1 (ps := [681, 104, 679, 680]) (by decide +kernel)
theorem xk_y143 : xk_Y xm_143 xd_143 (0, 1, 8) := xk_Y1 (ps := [1184, 104, 1182, 1183]) (by decide +kernel)
theorem xk_y144 : xk_Y xm_144 xd_144 (0, 1, 8) := xk_Y1 (ps := [1333, 104, 1331, 1332]) (by decide +kernel)
theorem xk_y145 : xk_Y xm_145 xd_145 (0, 1, 8) := xk_Y1 (ps := [1104, 104, 1102, 1103]) (by decide +kernel)
theorem xk_y146 : xk_Y xm_146 xd_146 (0, 0, 8) := xk_Y1 (ps := [697, 104, 695, 696]) (by decide +kernel)
theorem xk_y147 : xk_Y xm_147 xd_147 (0, 1, 8) := xk_Y1 (ps := [1281, 104, 1279, 1280]) (by decide +kernel)
theorem xk_y148 : xk_Y xm_148 xd_148 (0, 2, 8) := xk_Y1 (ps := [1019, 104, 1017, 1018]) (by decide +kernel)
theorem xk_y149 : xk_Y xm_149 xd_149 (0, 1, 8) := xk_Y1 (ps := [1269, 104, 1267, 1268]) (by decide +kernel)
theorem xk_y150 : xk_Y xm_150 xd_150 (0, 1, 8) := xk_Y1 (ps := [1173, 104, 1171, 1172]) (by decide +kernel)
theorem xk_y151 : xk_Y xm_151 xd_151 (0, 1, 8) := xk_Y1 (ps := [1258, 104, 1256, 1257]) (by decide +kernel)
theorem xk_y152 : xk_Y xm_152 xd_152 (0, 1, 8) := xk_Y1 (ps := [1073, 104, 1071, 1072]) (by decide +kernel)
theorem xk_y153 : xk_Y xm_153 xd_153 (0, 1, 9) := xk_Y1 (ps := [1935, 114, 1933, 1934]) (by decide +kernel)
theorem xk_y154 : xk_Y xm_154 xd_154 (0, 1, 9) := xk_Y1 (ps := [1931, 114, 1929, 1930]) (by decide +kernel)
theorem xk_y155 : xk_Y xm_155 xd_155 (0, 1, 9) := xk_Y1 (ps := [1748, 114, 1747, 73]) (by decide +kernel)
theorem xk_y156 : xk_Y xm_156 xd_156 (0, 1, 9) := xk_Y1 (ps := [1854, 114, 1852, 1853]) (by decide +kernel)
theorem xk_y157 : xk_Y xm_157 xd_157 (0, 1, 9) := xk_Y1 (ps := [1850, 114, 1848, 1849]) (by decide +kernel)
theorem xk_y158 : xk_Y xm_158 xd_158 (0, 1, 9) := xk_Y1 (ps := [1842, 114, 1840, 1841]) (by decide +kernel)
theorem xk_y159 : xk_Y xm_159 xd_159 (4, 3, 0) := xk_Y1 (ps := [1189, 103, 1188]) (by decide +kernel)
theorem xk_y160 : xk_Y xm_160 xd_160 (4, 3, 0) := xk_Y1 (ps := [712, 103, 711]) (by decide +kernel)
theorem xk_y161 : xk_Y xm_161 xd_161 (4, 3, 0) := xk_Y1 (ps := [1136, 103, 1135]) (by decide +kernel)
theorem xk_y162 : xk_Y xm_162 xd_162 (4, 3, 0) := xk_Y1 (ps := [991, 103, 990]) (by decide +kernel)
theorem xk_y163 : xk_Y xm_163 xd_163 (4, 3, 0) := xk_Y1 (ps := [1155, 103, 1154]) (by decide +kernel)
theorem xk_y164 : xk_Y xm_164 xd_164 (4, 3, 0) := xk_Y1 (ps := [1212, 103, 1211]) (by decide +kernel)
theorem xk_y165 : xk_Y xm_165 xd_165 (4, 3, 0) := xk_Y1 (ps := [1180, 103, 1179]) (by decide +kernel)
theorem xk_y166 : xk_Y xm_166 xd_166 (4, 3, 0) := xk_Y1 (ps := [1329, 103, 1328]) (by decide +kernel)
theorem xk_y167 : xk_Y xm_167 xd_167 (4, 3, 0) := xk_Y1 (ps := [1100, 103, 1099]) (by decide +kernel)
theorem xk_y168 : xk_Y xm_168 xd_168 (4, 3, 0) := xk_Y1 (ps := [1277, 103, 1276]) (by decide +kernel)
theorem xk_y169 : xk_Y xm_169 xd_169 (4, 4, 0) := xk_Y1 (ps := [1015, 103, 1014]) (by decide +kernel)
theorem xk_y170 : xk_Y xm_170 xd_170 (4, 3, 0) := xk_Y1 (ps := [1265, 103, 1264]) (by decide +kernel)
theorem xk_y171 : xk_Y xm_171 xd_171 (4, 3, 0) := xk_Y1 (ps := [1169, 103, 1168]) (by decide +kernel)
theorem xk_y172 : xk_Y xm_172 xd_172 (4, 3, 0) := xk_Y1 (ps := [1254, 103, 1253]) (by decide +kernel)
theorem xk_y173 : xk_Y xm_173 xd_173 (4, 3, 0) := xk_Y1 (ps := [1069, 103, 1068]) (by decide +kernel)
theorem xk_y174 : xk_Y xm_174 xd_174 (0, 0, 9) := xk_Y1 (ps := [1740, 114, 1739, 71]) (by decide +kernel)
theorem xk_y175 : xk_Y xm_175 xd_175 (0, 3, 9) := xk_Y1 (ps := [1991, 114, 1989, 1990]) (by decide +kernel)
theorem xk_y176 : xk_Y xm_176 xd_176 (0, 1, 9) := xk_Y1 (ps := [1955, 114, 1954, 99]) (by decide +kernel)
theorem xk_y177 : xk_Y xm_177 xd_177 (0, 1, 9) := xk_Y1 (ps := [1915, 114, 1913, 1914]) (by decide +kernel)
theorem xk_y178 : xk_Y xm_178 xd_178 (0, 0, 9) := xk_Y1 (ps := [1923, 114, 1921, 1922]) (by decide +kernel)
theorem xk_y179 : xk_Y xm_179 xd_179 (0, 1, 9) := xk_Y1 (ps := [1967, 114, 1965, 1966]) (by decide +kernel)
theorem xk_y180 : xk_Y xm_180 xd_180 (0, 0, 9) := xk_Y1 (ps := [1802, 114, 1801, 85]) (by decide +kernel)
theorem xk_y181 : xk_Y xm_181 xd_181 (0, 0, 9) := xk_Y1 (ps := [1927, 114, 1925, 1926]) (by decide +kernel)
theorem xk_y182 : xk_Y xm_182 xd_182 (0, 1, 9) := xk_Y1 (ps := [1919, 114, 1917, 1918]) (by decide +kernel)
theorem xk_y183 : xk_Y xm_183 xd_183 (0, 2, 9) := xk_Y1 (ps := [1911, 114, 1909, 1910]) (by decide +kernel)
theorem xk_y184 : xk_Y xm_184 xd_184 (0, 1, 9) := xk_Y1 (ps := [1733, 114, 1731, 1732]) (by decide +kernel)
theorem xk_y185 : xk_Y xm_185 xd_185 (0, 1, 9) := xk_Y1 (ps := [1903, 114, 1902, 97]) (by decide +kernel)
theorem xk_y186 : xk_Y xm_186 xd_186 (0, 1, 9) := xk_Y1 (ps := [1899, 114, 1897, 1898]) (by decide +kernel)
theorem xk_y187 : xk_Y xm_187 xd_187 (9, 1, 0) := xk_Y9

def xd_K : List (Nat × Nat × Nat) := [(2, 1, 0), (0, 0, 0), (1, 0, 0), (0, 0, 0), (0, 1, 0), (0, 1, 0), (0, 2, 1), (0, 1, 1), (1, 0, 0), (0, 2, 1), (0, 2, 1), (0, 2, 2), (0, 4, 2), (1, 0, 0), (0, 1, 2), (1, 0, 0), (0, 0, 5), (0, 1, 5), (1, 0, 0), (0, 3, 5), (0, 3, 5), (0, 1, 5), (0, 0, 6), (1, 1, 0), (0, 1, 7), (0, 1, 7), (0, 1, 7), (0, 0, 7), (0, 0, 7), (0, 2, 7), (0, 2, 7), (0, 1, 7), (0, 0, 7), (0, 1, 8), (0, 1, 8), (0, 2, 8), (0, 0, 8), (0, 0, 8), (0, 1, 8), (0, 1, 8), (0, 2, 8), (0, 1, 8), (0, 0, 8), (0, 0, 8), (0, 0, 8), (0, 0, 9), (0, 1, 9), (0, 0, 9), (0, 1, 9), (0, 2, 9), (0, 0, 9), (0, 1, 9), (0, 0, 9), (0, 0, 9), (0, 0, 9), (1, 0, 0), (0, 1, 9), (0, 0, 9), (0, 1, 9), (0, 1, 9), (0, 1, 9), (0, 4, 9), (2, 3, 0), (0, 1, 9), (0, 0, 9), (0, 2, 9), (0, 0, 9), (0, 0, 9), (0, 0, 9), (2, 3, 0), (0, 1, 2), (1, 2, 0), (0, 1, 6), (1, 1, 0), (0, 2, 7), (0, 0, 7), (0, 2, 8), (0, 3, 8), (0, 5, 8), (0, 3, 8), (0, 3, 8), (0, 2, 8), (0, 0, 8), (0, 2, 8), (0, 1, 8), (0, 2, 8), (0, 2, 8), (0, 3, 8), (0, 2, 8), (0, 1, 8), (0, 5, 9), (0, 0, 9), (0, 0, 9), (0, 1, 9), (0, 1, 9), (0, 2, 9), (0, 0, 9), (0, 1, 9), (0, 1, 9), (0, 1, 9), (4, 4, 0), (4, 5, 0), (4, 5, 0), (4, 4, 0), (4, 4, 0), (4, 4, 0), (4, 4, 0), (4, 5, 0), (4, 4, 0), (4, 3, 0), (0, 2, 3), (0, 2, 8), (1, 0, 0), (0, 1, 8), (0, 1, 8), (0, 0, 8), (0, 0, 8), (0, 3, 8), (0, 1, 9), (0, 2, 9), (0, 1, 9), (0, 3, 9), (0, 3, 9), (0, 2, 9), (0, 2, 9), (0, 1, 9), (0, 2, 9), (0, 2, 9), (0, 2, 9), (0, 3, 9), (0, 2, 9), (0, 2, 9), (0, 1, 9), (4, 4, 0), (4, 5, 0), (0, 1, 8), (0, 0, 8), (0, 1, 8), (0, 1, 8), (0, 1, 8), (0, 1, 8), (0, 1, 8), (0, 0, 8), (0, 1, 8), (0, 1, 8), (0, 1, 8), (0, 0, 8), (0, 1, 8), (0, 2, 8), (0, 1, 8), (0, 1, 8), (0, 1, 8), (0, 1, 8), (0, 1, 9), (0, 1, 9), (0, 1, 9), (0, 1, 9), (0, 1, 9), (0, 1, 9), (4, 3, 0), (4, 3, 0), (4, 3, 0), (4, 3, 0), (4, 3, 0), (4, 3, 0), (4, 3, 0), (4, 3, 0), (4, 3, 0), (4, 3, 0), (4, 4, 0), (4, 3, 0), (4, 3, 0), (4, 3, 0), (4, 3, 0), (0, 0, 9), (0, 3, 9), (0, 1, 9), (0, 1, 9), (0, 0, 9), (0, 1, 9), (0, 0, 9), (0, 0, 9), (0, 1, 9), (0, 2, 9), (0, 1, 9), (0, 1, 9), (0, 1, 9), (9, 1, 0)]
theorem xk_Yall : xk_YP xe_P xd_P xd_K := xk_Yc xk_y0 (xk_Yc xk_y1 (xk_Yc xk_y2 (xk_Yc xk_y3 (xk_Yc xk_y4 (xk_Yc xk_y5 (xk_Yc xk_y6 (xk_Yc xk_y7 (xk_Yc xk_y8 (xk_Yc xk_y9 (xk_Yc xk_y10 (xk_Yc xk_y11 (xk_Yc xk_y12 (xk_Yc xk_y13 (xk_Yc xk_y14 (xk_Yc xk_y15 (xk_Yc xk_y16 (xk_Yc xk_y17 (xk_Yc xk_y18 (xk_Yc xk_y19 (xk_Yc xk_y20 (xk_Yc xk_y21 (xk_Yc xk_y22 (xk_Yc xk_y23 (xk_Yc xk_y24 (xk_Yc xk_y25 (xk_Yc xk_y26 (xk_Yc xk_y27 (xk_Yc xk_y28 (xk_Yc xk_y29 (xk_Yc xk_y30 (xk_Yc xk_y31 (xk_Yc xk_y32 (xk_Yc xk_y33 (xk_Yc xk_y34 (xk_Yc xk_y35 (xk_Yc xk_y36 (xk_Yc xk_y37 (xk_Yc xk_y38 (xk_Yc xk_y39 (xk_Yc xk_y40 (xk_Yc xk_y41 (xk_Yc xk_y42 (xk_Yc xk_y43 (xk_Yc xk_y44 (xk_Yc xk_y45 (xk_Yc xk_y46 (xk_Yc xk_y47 (xk_Yc xk_y48 (xk_Yc xk_y49 (xk_Yc xk_y50 (xk_Yc xk_y51 (xk_Yc xk_y52 (xk_Yc xk_y53 (xk_Yc xk_y54 (xk_Yc xk_y55 (xk_Yc xk_y56 (xk_Yc xk_y57 (xk_Yc xk_y58 (xk_Yc xk_y59 (xk_Yc xk_y60 (xk_Yc xk_y61 (xk_Yc xk_y62 (xk_Yc xk_y63 (xk_Yc xk_y64 (xk_Yc xk_y65 (xk_Yc xk_y66 (xk_Yc xk_y67 (xk_Yc xk_y68 (xk_Yc xk_y69 (xk_Yc xk_y70 (xk_Yc xk_y71 (xk_Yc xk_y72 (xk_Yc xk_y73 (xk_Yc xk_y74 (xk_Yc xk_y75 (xk_Yc xk_y76 (xk_Yc xk_y77 (xk_Yc xk_y78 (xk_Yc xk_y79 (xk_Yc xk_y80 (xk_Yc xk_y81 (xk_Yc xk_y82 (xk_Yc xk_y83 (xk_Yc xk_y84 (xk_Yc xk_y85 (xk_Yc xk_y86 (xk_Yc xk_y87 (xk_Yc xk_y88 (xk_Yc xk_y89 (xk_Yc xk_y90 (xk_Yc xk_y91 (xk_Yc xk_y92 (xk_Yc xk_y93 (xk_Yc xk_y94 (xk_Yc xk_y95 (xk_Yc xk_y96 (xk_Yc xk_y97 (xk_Yc xk_y98 (xk_Yc xk_y99 (xk_Yc xk_y100 (xk_Yc xk_y101 (xk_Yc xk_y102 (xk_Yc xk_y103 (xk_Yc xk_y104 (xk_Yc xk_y105 (xk_Yc xk_y106 (xk_Yc xk_y107 (xk_Yc xk_y108 (xk_Yc xk_y109 (xk_Yc xk_y110 (xk_Yc xk_y111 (xk_Yc xk_y112 (xk_Yc xk_y113 (xk_Yc xk_y114 (xk_Yc xk_y115 (xk_Yc xk_y116 (xk_Yc xk_y117 (xk_Yc xk_y118 (xk_Yc xk_y119 (xk_Yc xk_y120 (xk_Yc xk_y121 (xk_Yc xk_y122 (xk_Yc xk_y123 (xk_Yc xk_y124 (xk_Yc xk_y125 (xk_Yc xk_y126 (xk_Yc xk_y127 (xk_Yc xk_y128 (xk_Yc xk_y129 (xk_Yc xk_y130 (xk_Yc xk_y131 (xk_Yc xk_y132 (xk_Yc xk_y133 (xk_Yc xk_y134 (xk_Yc xk_y135 (xk_Yc xk_y136 (xk_Yc xk_y137 (xk_Yc xk_y138 (xk_Yc xk_y139 (xk_Yc xk_y140 (xk_Yc xk_y141 (xk_Yc xk_y142 (xk_Yc xk_y143 (xk_Yc xk_y144 (xk_Yc xk_y145 (xk_Yc xk_y146 (xk_Yc xk_y147 (xk_Yc xk_y148 (xk_Yc xk_y149 (xk_Yc xk_y150 (xk_Yc xk_y151 (xk_Yc xk_y152 (xk_Yc xk_y153 (xk_Yc xk_y154 (xk_Yc xk_y155 (xk_Yc xk_y156 (xk_Yc xk_y157 (xk_Yc xk_y158 (xk_Yc xk_y159 (xk_Yc xk_y160 (xk_Yc xk_y161 (xk_Yc xk_y162 (xk_Yc xk_y163 (xk_Yc xk_y164 (xk_Yc xk_y165 (xk_Yc xk_y166 (xk_Yc xk_y167 (xk_Yc xk_y168 (xk_Yc xk_y169 (xk_Yc xk_y170 (xk_Yc xk_y171 (xk_Yc xk_y172 (xk_Yc xk_y173 (xk_Yc xk_y174 (xk_Yc xk_y175 (xk_Yc xk_y176 (xk_Yc xk_y177 (xk_Yc xk_y178 (xk_Yc xk_y179 (xk_Yc xk_y180 (xk_Yc xk_y181 (xk_Yc xk_y182 (xk_Yc xk_y183 (xk_Yc xk_y184 (xk_Yc xk_y185 (xk_Yc xk_y186 (xk_Yc xk_y187 (xk_Yn))))))))))))))))))))))))))))))))))))))))))))))))))))))))))))))))))))))))))))))))))))))))))))))))))))))))))))))))))))))))))))))))))))))))))))))))))))))))))))))))))))))))))))))))))))))))))))
end
section
noncomputable def xk_Callb (o : Nat) (d : xd_D) (i : Instr) (len y n kd : Nat) : Bool := match xe_nth xd_P y, xe_nth xd_K y with
  | some d', some q => Nat.beq len 3 && Nat.ble (d'.2.2.2.2.2.2.1 + 1) d.2.2.2.2.2.2.1 && match i with
    | .invokevirtual idx => Nat.beq q.1 0 && Nat.beq n (q.2.1 + 1) && Nat.beq kd (q.2.2 + 10) && xk_l2 (xj o) idx y
    | .invokespecial idx => Nat.beq q.1 1 && Nat.beq n (q.2.1 + 1) && ((Nat.beq kd 1 && xk_l2 (xj o) idx y) || (Nat.beq kd 3 && (decide ((d.1, idx, d'.2.1) = ("TingDecks", 29, yX5_init)) || decide ((d.1, idx, d'.2.1) = ("TingDecks$Trip", 11, yX4_init)) || decide ((d.1, idx, d'.2.1) = ("TingDecks", 60, yX2_init)) || decide ((d.1, idx, d'.2.1) = ("TingDecks", 67, yX1_init)))))
    | .invokestatic idx => Nat.beq n q.2.1 && xk_l2 (xj o) idx y && ((Nat.beq kd 2 && Nat.beq q.1 2) || (Nat.beq kd 4 && Nat.beq q.1 4))
    | _ => false
  | _, _ => false
theorem xk_dy_eq {y : Nat} {d : xd_D} (h : xd_P[y]? = some d) : xk_dy y = d := by unfold xk_dy; rw [h]
theorem xk_Callb_ok {o : Nat} {d : xd_D} {i : Instr} {len y n kd : Nat} (ho : d.1 = xo_n o) (h : xk_Callb o d i len y n kd = true) : xk_Call d i len y n kd := by
  unfold xk_Callb at h
  rw [xe_nth_eq, xe_nth_eq] at h
  split at h
  · next d' q hd hq =>
    have hlt : y < xe_P.length := by
      have h1 := (List.getElem?_eq_some_iff.mp hd).1
      have h2 : xe_P.length = xd_P.length := rfl
      rw [h2]; exact h1
    have hM : xe_P[y]? = some xe_P[y] := List.getElem?_eq_getElem hlt
    generalize xe_P[y] = M' at hM
    simp only [Bool.and_eq_true, Nat.ble_eq] at h
    obtain ⟨⟨c1, c2⟩, h⟩ := h
    have c1 := Nat.eq_of_beq_eq_true c1
    have hY := xk_Yall y M' d' q hM hd hq
    have hyd := xk_dy_eq hd
    obtain ⟨k, np, ci⟩ := q
    split at h
    · next idx =>
      simp only [Bool.and_eq_true] at h
      obtain ⟨⟨⟨g1, g2⟩, g3⟩, g4⟩ := h
      have e := Nat.eq_of_beq_eq_true g1
      subst e
      have g2 := Nat.eq_of_beq_eq_true g2
      have g3 := Nat.eq_of_beq_eq_true g3
      have g4 := xj_ok o _ (xk_l2_ok g4)
      unfold xk_mw at g4
      rw [hyd, ← ho] at g4
      rcases hY with hY | ⟨hw, hb⟩
      · cases hY
      simp only [xk_yb, xk_pn, Bool.and_eq_true, decide_eq_true_eq, Nat.ble_eq, List.isEmpty_iff] at hb
      obtain ⟨⟨⟨⟨⟨⟨⟨b1, b2⟩, b3⟩, b4⟩, b5⟩, b6⟩, b7⟩, b8, b9⟩ := hb
      obtain ⟨q, hq9, hq8⟩ := Option.map_eq_some_iff.mp b9
      exact Or.inl ⟨M', d', hM, hd, c1, c2, b1, Nat.eq_of_beq_eq_true b2, b8, b3, b4, b5, b6, hw _ (by simp [xk_yw]), hw _ (by simp [xk_yw]), Or.inl ⟨idx, np, ci, q, rfl, g3, g2, hq9, hq8, b7, g4, hw _ (by simp [xk_yw]), hw _ (by simp [xk_yw])⟩⟩
    · next idx =>
      simp only [Bool.and_eq_true, Bool.or_eq_true, decide_eq_true_eq] at h
      obtain ⟨⟨g1, g2⟩, g8⟩ := h
      have e := Nat.eq_of_beq_eq_true g1
      subst e
      have g2 := Nat.eq_of_beq_eq_true g2
      rcases hY with hY | ⟨hw, hb⟩
      · cases hY
      simp only [xk_yb, xk_pn, Bool.and_eq_true, decide_eq_true_eq, Nat.ble_eq, List.isEmpty_iff] at hb
      obtain ⟨⟨⟨⟨⟨⟨⟨b1, b2⟩, b3⟩, b4⟩, b5⟩, b6⟩, b7⟩, ⟨b8, b9⟩, b10⟩ := hb
      refine Or.inl ⟨M', d', hM, hd, c1, c2, b1, Nat.eq_of_beq_eq_true b2, b8, b3, b4, b5, b6, hw _ (by simp [xk_yw]), hw _ (by simp [xk_yw]), ?_⟩
      rcases g8 with ⟨k1, k2⟩ | ⟨k1, k2⟩
      · have k2 := xj_ok o _ (xk_l2_ok k2)
        unfold xk_mw at k2
        rw [hyd, ← ho] at k2
        exact Or.inr (Or.inl ⟨idx, np, rfl, Nat.eq_of_beq_eq_true k1, g2, b9, b7, b10, k2, hw _ (by simp [xk_yw])⟩)
      · refine Or.inr (Or.inr (Or.inr ⟨idx, np, rfl, Nat.eq_of_beq_eq_true k1, g2, b9, b7, b10, hw _ (by simp [xk_yw]), ?_⟩))
        rcases k2 with ((k2 | k2) | k2) | k2
        · exact Or.inl k2
        · exact Or.inr (Or.inl k2)
        · exact Or.inr (Or.inr (Or.inl k2))
        · exact Or.inr (Or.inr (Or.inr k2))
    · next idx =>
      simp only [Bool.and_eq_true, Bool.or_eq_true] at h
      obtain ⟨⟨g1, g2⟩, g4⟩ := h
      have g1 := Nat.eq_of_beq_eq_true g1
      have g2 := xj_ok o _ (xk_l2_ok g2)
      unfold xk_mw at g2
      rw [hyd, ← ho] at g2
      rcases g4 with ⟨k1, k2⟩ | ⟨k1, k2⟩
      · have e := Nat.eq_of_beq_eq_true k2
        subst e
        rcases hY with hY | ⟨hw, hb⟩
        · cases hY
        simp only [xk_yb, xk_pn, Bool.and_eq_true, decide_eq_true_eq, Nat.ble_eq, List.isEmpty_iff] at hb
        obtain ⟨⟨⟨⟨⟨⟨⟨b1, b2⟩, b3⟩, b4⟩, b5⟩, b6⟩, b7⟩, b8⟩ := hb
        rw [g1]
        exact Or.inl ⟨M', d', hM, hd, c1, c2, b1, Nat.eq_of_beq_eq_true b2, b8, b3, b4, b5, b6, hw _ (by simp [xk_yw]), hw _ (by simp [xk_yw]), Or.inr (Or.inr (Or.inl ⟨idx, rfl, Nat.eq_of_beq_eq_true k1, b7, g2, hw _ (by simp [xk_yw])⟩))⟩
      · have e := Nat.eq_of_beq_eq_true k2
        subst e
        rcases hY with hY | ⟨hw, hb⟩
        · cases hY
        simp only [xk_yb, xk_pn, Bool.and_eq_true, decide_eq_true_eq, Nat.ble_eq, List.isEmpty_iff] at hb
        obtain ⟨⟨⟨⟨⟨⟨⟨b1, b2⟩, b3⟩, b4⟩, b5⟩, b6⟩, b7⟩, -⟩ := hb
        rw [g1]
        exact Or.inr ⟨M', d', hM, hd, c1, c2, b1, Nat.eq_of_beq_eq_true b2, b3, b4, b5, b6, hw _ (by simp [xk_yw]), hw _ (by simp [xk_yw]), Nat.eq_of_beq_eq_true k1, idx, rfl, b7, g2, hw _ (by simp [xk_yw])⟩
    · cases h
  · cases h
def xk_strOf (is : Nat) : String := match xw_Str.find? (fun q => Nat.beq q.1 is) with
  | some q => q.2
  | none => ""
def xk_strb (is : Nat) : Bool := (xw_Str.find? (fun q => Nat.beq q.1 is)).isSome
theorem xk_strb_ok {is : Nat} (h : xk_strb is = true) : (is, xk_strOf is) ∈ xw_Str := by
  unfold xk_strb at h
  obtain ⟨q, hq⟩ := Option.isSome_iff_exists.mp h
  have h1 := List.find?_some hq
  have h2 := List.mem_of_find?_eq_some hq
  have e1 := Nat.eq_of_beq_eq_true h1
  unfold xk_strOf
  rw [hq, ← e1]
  exact h2
def xk_thw (k ik ic : Nat) : Bool := xk_has (.classLink "TingDecks" ik (xd_ex k)) && xk_has (.initialized (xd_ex k)) && (Cond.classLink "TingDecks" ik (xd_ex k) :: Cond.initialized (xd_ex k) :: xd_at k ic).all vx_ot && (xd_at k ic).all (fun w => decide (w ∈ xw_N) || xk_has w)
theorem xk_th0 : xk_thw 0 xk_ik0.1 xk_ik0.2 = true := by decide +kernel
theorem xk_th1 : xk_thw 1 xk_ik1.1 xk_ik1.2 = true := by decide +kernel
def xk_ikb (k ik ic : Nat) : Bool := (Nat.beq k 0 && Nat.beq ik xk_ik0.1 && Nat.beq ic xk_ik0.2) || (Nat.beq k 1 && Nat.beq ik xk_ik1.1 && Nat.beq ic xk_ik1.2)
theorem xk_ikb_ok {k ik ic : Nat} (h : xk_ikb k ik ic = true) : k < 2 ∧ xk_thw k ik ic = true := by
  simp only [xk_ikb, Bool.and_eq_true, Bool.or_eq_true] at h
  rcases h with ⟨⟨h1, h2⟩, h3⟩ | ⟨⟨h1, h2⟩, h3⟩
  · rw [Nat.eq_of_beq_eq_true h1, Nat.eq_of_beq_eq_true h2, Nat.eq_of_beq_eq_true h3]
    exact ⟨by omega, xk_th0⟩
  · rw [Nat.eq_of_beq_eq_true h1, Nat.eq_of_beq_eq_true h2, Nat.eq_of_beq_eq_true h3]
    exact ⟨by omega, xk_th1⟩
def xk_Thrb (o : Nat) (d : xd_D) (pc : Nat) (i : Instr) (k is ic x : Nat) : Bool := match i with
  | .new ik => Nat.beq o 8 && d.2.2.2.2.2.2.2.isEmpty && decide (decode d.2.2.1 (pc + 3) = .ok (.dup, 1)) && xk_strb is && xk_ikb k ik ic &&
      ((Nat.beq x 2 && decide (decode d.2.2.1 (pc + 4) = .ok (.ldc is, 2)) && decide (decode d.2.2.1 (pc + 6) = .ok (.invokespecial ic, 3)) && decide (decode d.2.2.1 (pc + 9) = .ok (.athrow, 1))) || (Nat.beq x 3 && decide (decode d.2.2.1 (pc + 4) = .ok (.ldc_w is, 3)) && decide (decode d.2.2.1 (pc + 7) = .ok (.invokespecial ic, 3)) && decide (decode d.2.2.1 (pc + 10) = .ok (.athrow, 1))))
  | _ => false
theorem xk_Thrb_ok {o : Nat} {d : xd_D} {pc : Nat} {i : Instr} {k is ic x : Nat} (ho : d.1 = xo_n o) (h : xk_Thrb o d pc i k is ic x = true) : xk_Thr d pc i k is ic x := by
  unfold xk_Thrb at h
  split at h
  · next ik =>
    simp only [Bool.and_eq_true, Bool.or_eq_true, decide_eq_true_eq, List.isEmpty_iff] at h
    obtain ⟨⟨⟨⟨⟨g1, g2⟩, g4⟩, g5⟩, g6⟩, g10⟩ := h
    have e := Nat.eq_of_beq_eq_true g1
    subst e
    obtain ⟨g3, g6⟩ := xk_ikb_ok g6
    simp only [xk_thw, Bool.and_eq_true] at g6
    obtain ⟨⟨⟨g6, g7⟩, g8⟩, g9⟩ := g6
    refine ⟨ho, g2, g3, g4, ⟨ik, _, rfl, xk_strb_ok g5, xk_has_in g6, xk_has_in g7, fun w hw => List.all_eq_true.mp g8 w hw⟩, fun w hw => ?_, ?_⟩
    · have h1 := List.all_eq_true.mp g9 w hw
      rw [Bool.or_eq_true, decide_eq_true_eq] at h1
      exact h1.elim Or.inr (fun z => Or.inl (xk_has_in z))
    · rcases g10 with ⟨⟨⟨k1, k2⟩, k3⟩, k4⟩ | ⟨⟨⟨k1, k2⟩, k3⟩, k4⟩
      · exact Or.inl ⟨Nat.eq_of_beq_eq_true k1, k2, k3, k4⟩
      · exact Or.inr ⟨Nat.eq_of_beq_eq_true k1, k2, k3, k4⟩
  · cases h
theorem xk_ob1 : Cond.instanceMethod Lib.objectInit ∈ xw_T := xk_has_in (by decide +kernel)
theorem xk_ob2 : Cond.code Lib.objectInit ⟨#[0xb1]⟩ 1 none ∈ xw_T := xk_has_in (by decide +kernel)
theorem xk_ac1 : Cond.native arraycopyName ∈ xw_T := xk_has_in (by decide +kernel)
theorem xk_ac2 : Cond.static arraycopyName ∈ xw_T := xk_has_in (by decide +kernel)
theorem xk_ac3 : Cond.initialized "java/lang/System" ∈ xw_T := xk_has_in (by decide +kernel)
theorem xk_mi0 : Cond.initialized "java/lang/Math" ∈ xw_T := xk_has_in (by decide +kernel)
theorem xk_mx1 : Cond.static Lib.Math.max.name ∈ xw_T := xk_has_in (by decide +kernel)
theorem xk_mx2 : Cond.code Lib.Math.max.name Lib.Math.max.code 2 (some .int) ∈ xw_T := xk_has_in (by decide +kernel)
theorem xk_mi1 : Cond.static Lib.Math.min.name ∈ xw_T := xk_has_in (by decide +kernel)
theorem xk_mi2 : Cond.code Lib.Math.min.name Lib.Math.min.code 2 (some .int) ∈ xw_T := xk_has_in (by decide +kernel)
def xk_Zb (d : xd_D) : Bool := decide (decode d.2.2.1 2 = .ok (.iload_n 3, 1)) && decide (decode d.2.2.1 3 = .ok (.aload_n 1, 1)) && decide (decode d.2.2.1 4 = .ok (.arraylength, 1)) && decide (decode d.2.2.1 5 = .ok (.if_icmp .ge 15, 3)) && decide (decode d.2.2.1 8 = .ok (.aload_n 2, 1)) && decide (decode d.2.2.1 9 = .ok (.iload_n 3, 1)) && decide (decode d.2.2.1 10 = .ok (.aload_n 1, 1)) && decide (decode d.2.2.1 11 = .ok (.iload_n 3, 1)) && decide (decode d.2.2.1 12 = .ok (.iaload, 1)) && decide (decode d.2.2.1 13 = .ok (.iastore, 1)) && decide (decode d.2.2.1 14 = .ok (.iinc 3 1, 3)) && decide (decode d.2.2.1 17 = .ok (.goto (-15), 3)) && Nat.blt 3 d.2.2.2.1
theorem xk_Zb_ok {d : xd_D} (h : xk_Zb d = true) : xk_Z d := by
  unfold xk_Zb at h
  simp only [Bool.and_eq_true, decide_eq_true_eq] at h
  obtain ⟨⟨⟨⟨⟨⟨⟨⟨⟨⟨⟨⟨h1, h2⟩, h3⟩, h4⟩, h5⟩, h6⟩, h7⟩, h8⟩, h9⟩, h10⟩, h11⟩, h12⟩, h13⟩ := h
  exact ⟨h1, h2, h3, h4, h5, h6, h7, h8, h9, h10, h11, h12, Nat.ble_eq.mp h13⟩
noncomputable def xk_Eb (o : Nat) (d : xd_D) (e : xe_I) : Bool := match e.2.2.2 with
  | [0, y, n, kd] => xk_Callb o d e.2.1 e.2.2.1 y n kd
  | [1, k, is, ic, x] => Nat.beq e.2.2.1 3 && xk_Thrb o d e.1 e.2.1 k is ic x
  | [2] => match e.2.1 with
    | .invokespecial idx => Nat.beq e.2.2.1 3 && xk_l1 (xi o) idx
    | _ => false
  | [3] => match e.2.1 with
    | .invokestatic idx => Nat.beq e.2.2.1 3 && xk_l1 (xa o) idx
    | _ => false
  | [4] => match e.2.1 with
    | .invokevirtual idx => Nat.beq e.2.2.1 3 && xk_has (.methodLink d.1 idx xd_cl) && xk_has (.sameMethod "[I" "java/lang/Object" "clone" "()Ljava/lang/Object;") && xk_has (.native xd_oc) && xk_has (.instanceMethod xd_oc) && xk_has (.selects "[I" xd_cl xd_oc)
    | _ => false
  | [5] => match e.2.1 with
    | .checkcast idx => xk_has (.classLink d.1 idx "[I")
    | _ => false
  | [6] => match e.2.1 with
    | .invokestatic idx => Nat.beq e.2.2.1 3 && xk_has (.methodLink d.1 idx Lib.Math.max.name)
    | _ => false
  | [7] => match e.2.1 with
    | .invokestatic idx => Nat.beq e.2.2.1 3 && xk_has (.methodLink d.1 idx Lib.Math.min.name)
    | _ => false
  | [8] => Nat.beq e.1 2 && decide (e.2.1 = .iload_n 3) && Nat.beq e.2.2.1 1 && xk_Zb d
  | res => Nat.beq e.2.2.1 (xk_ln e.2.1 e.2.2.1) && xk_Lb o d.2.2.2.1 d.2.2.2.2.2.1 e.2.1 res
theorem xk_Eb_ok {o : Nat} {d : xd_D} {e : xe_I} (ho : d.1 = xo_n o) (h : xk_Eb o d e = true) : xk_E d e := by
  obtain ⟨pc, i, len, res⟩ := e
  unfold xk_Eb at h
  unfold xk_E
  dsimp only at h ⊢
  split at h
  · exact xk_Callb_ok ho h
  · rw [Bool.and_eq_true] at h
    exact ⟨Nat.eq_of_beq_eq_true h.1, xk_Thrb_ok ho h.2⟩
  · split at h
    · next idx =>
      simp only [Bool.and_eq_true] at h
      exact ⟨idx, rfl, Nat.eq_of_beq_eq_true h.1, by rw [ho]; exact xi_ok o _ (xk_l1_ok h.2), xk_ob1, xk_ob2⟩
    · cases h
  · split at h
    · next idx =>
      simp only [Bool.and_eq_true] at h
      exact ⟨idx, rfl, Nat.eq_of_beq_eq_true h.1, by rw [ho]; exact xa_ok o _ (xk_l1_ok h.2), xk_ac1, xk_ac2, xk_ac3⟩
    · cases h
  · split at h
    · next idx =>
      simp only [Bool.and_eq_true] at h
      obtain ⟨⟨⟨⟨⟨h1, h2⟩, h3⟩, h4⟩, h5⟩, h6⟩ := h
      exact ⟨idx, rfl, Nat.eq_of_beq_eq_true h1, xk_has_in h2, xk_has_in h3, xk_has_in h4, xk_has_in h5, xk_has_in h6⟩
    · cases h
  · split at h
    · next idx => exact ⟨idx, rfl, xk_has_in h⟩
    · cases h
  · split at h
    · next idx =>
      simp only [Bool.and_eq_true] at h
      exact ⟨idx, rfl, Nat.eq_of_beq_eq_true h.1, xk_has_in h.2, xk_mx1, xk_mi0, xk_mx2⟩
    · cases h
  · split at h
    · next idx =>
      simp only [Bool.and_eq_true] at h
      exact ⟨idx, rfl, Nat.eq_of_beq_eq_true h.1, xk_has_in h.2, xk_mi1, xk_mi0, xk_mi2⟩
    · cases h
  · simp only [Bool.and_eq_true, decide_eq_true_eq] at h
    exact ⟨Nat.eq_of_beq_eq_true h.1.1.1, h.1.1.2, Nat.eq_of_beq_eq_true h.1.2, xk_Zb_ok h.2⟩
  · next n1 n2 n3 n4 n5 n6 n7 n8 n9 =>
    rw [Bool.and_eq_true] at h
    have h2 : len = xk_ln i len ∧ xk_L d.1 d.2.2.2.1 d.2.2.2.2.2.1 i res := ⟨Nat.eq_of_beq_eq_true h.1, by rw [ho]; exact xk_Lb_ok h.2⟩
    split
    · exact absurd rfl (n1 _ _ _)
    · exact absurd rfl (n2 _ _ _ _)
    · exact absurd rfl n3
    · exact absurd rfl n4
    · exact absurd rfl n5
    · exact absurd rfl n6
    · exact absurd rfl n7
    · exact absurd rfl n8
    · exact absurd rfl n9
    · exact h2
def xk_retb (k : Nat) (r : Option FieldType) : Bool := match k, r with
  | 0, none => true
  | 1, some .int => true
  | 2, some .long => true
  | 3, some (.object _) => true
  | 4, some .boolean => true
  | _, _ => false
theorem xk_retb_ok {k : Nat} {r : Option FieldType} (h : xk_retb k r = true) : xk_ret k r := by
  unfold xk_retb at h
  split at h
  · exact Or.inl ⟨rfl, rfl⟩
  · exact Or.inr (Or.inl ⟨rfl, rfl⟩)
  · exact Or.inr (Or.inr (Or.inl ⟨rfl, rfl⟩))
  · exact Or.inr (Or.inr (Or.inr (Or.inl ⟨rfl, _, rfl⟩)))
  · exact Or.inr (Or.inr (Or.inr (Or.inr ⟨rfl, rfl⟩)))
  · cases h
noncomputable def xk_hb (o : Nat) (a b : Nat × Nat × Nat × Nat) : Bool := Nat.beq a.1 b.1 && Nat.beq a.2.1 b.2.1 && Nat.beq a.2.2.1 b.2.2.1 && Nat.blt a.2.2.2 2 && !(Nat.beq b.2.2.2 0) && decide ((o, b.2.2.2, a.2.2.2) ∈ xhk)
noncomputable def xk_hhb (o : Nat) : List (Nat × Nat × Nat × Nat) → List (Nat × Nat × Nat × Nat) → Bool
  | [], [] => true
  | a :: t, b :: u => xk_hb o a b && xk_hhb o t u
  | _, _ => false
theorem xk_hhb_ok {o : Nat} : ∀ (l1 l2 : List (Nat × Nat × Nat × Nat)), xk_hhb o l1 l2 = true → l1.length = l2.length ∧ ∀ (j : Nat) (a b : Nat × Nat × Nat × Nat), l1[j]? = some a → l2[j]? = some b → a.1 = b.1 ∧ a.2.1 = b.2.1 ∧ a.2.2.1 = b.2.2.1 ∧ a.2.2.2 < 2 ∧ b.2.2.2 ≠ 0 ∧ Cond.classLink (xo_n o) b.2.2.2 (xd_ex a.2.2.2) ∈ xw_T := by
  intro l1
  induction l1 with
  | nil =>
    intro l2 h
    cases l2 with
    | nil => exact ⟨rfl, fun j a b h1 => by simp at h1⟩
    | cons b u => simp [xk_hhb] at h
  | cons a t ih =>
    intro l2 h
    cases l2 with
    | nil => simp [xk_hhb] at h
    | cons b u =>
      have h : (xk_hb o a b && xk_hhb o t u) = true := by simpa only [xk_hhb] using h
      rw [Bool.and_eq_true] at h
      obtain ⟨h1, h2⟩ := ih u h.2
      refine ⟨by rw [List.length_cons, List.length_cons, h1], fun j x y hx hy => ?_⟩
      cases j with
      | zero =>
        have e1 : a = x := by simpa using hx
        have e2 : b = y := by simpa using hy
        subst e1; subst e2
        have h3 := h.1
        simp only [xk_hb, Bool.and_eq_true, Bool.not_eq_true', decide_eq_true_eq] at h3
        obtain ⟨⟨⟨⟨⟨k1, k2⟩, k3⟩, k4⟩, k5⟩, k6⟩ := h3
        exact ⟨Nat.eq_of_beq_eq_true k1, Nat.eq_of_beq_eq_true k2, Nat.eq_of_beq_eq_true k3, Nat.ble_eq.mp k4, (fun z => by rw [z] at k5; cases k5), xhk_ok _ k6⟩
      | succ j => exact h2 j x y (by simpa using hx) (by simpa using hy)
noncomputable def xk_eb (o : Nat) (d : xd_D) (e : xe_I) : Bool := decide (decode d.2.2.1 e.1 = .ok (e.2.1, e.2.2.1)) && xk_Eb o d e
noncomputable def xk_mh (o : Nat) (M : xe_M) (d : xd_D) : Bool := decide (d.1 = xo_n o) && xk_retb M.2.2.1 d.2.2.2.2.1 && (!d.2.2.2.2.2.1 || decide (d.2.1.name = "<init>")) && xk_hhb o M.2.2.2.2.2 d.2.2.2.2.2.2.2
theorem xk_mb_ok (o : Nat) {M : xe_M} {d : xd_D} (h : xk_mh o M d = true) (hh : ∀ e ∈ M.1, xk_eb o d e = true) : xk_Meth M d := by
  unfold xk_mh at h
  simp only [Bool.and_eq_true, Bool.or_eq_true, decide_eq_true_eq] at h
  obtain ⟨⟨⟨h0, h2⟩, h3⟩, h4⟩ := h
  refine ⟨fun e he => ?_, xk_retb_ok h2, fun z => ?_, ?_⟩
  · have h5 := hh e he
    unfold xk_eb at h5
    rw [Bool.and_eq_true, decide_eq_true_eq] at h5
    exact ⟨h5.1, xk_Eb_ok h0 h5.2⟩
  · rw [z] at h3
    rcases h3 with h3 | h3
    · cases h3
    · exact h3
  · have h5 := xk_hhb_ok _ _ h4
    unfold xk_hh
    rw [h0]
    exact h5
noncomputable def xk_bb (o : Nat) (d : xd_D) (l : List xe_I) : Bool := List.rec (motive := fun _ => Bool) true (fun e _ ih => xk_eb o d e && ih) l
theorem xk_bb_ok {o : Nat} {d : xd_D} {l : List xe_I} (h : xk_bb o d l = true) : ∀ e ∈ l, xk_eb o d e = true := by
  induction l with
  | nil => intro e he; cases he
  | cons a t ih =>
    have h : (xk_eb o d a && xk_bb o d t) = true := h
    rw [Bool.and_eq_true] at h
    intro e he
    rcases List.mem_cons.mp he with rfl | he
    · exact h.1
    · exact ih h.2 e he
theorem xk_one (o : Nat) {M : xe_M} {d : xd_D} (h : (xk_mh o M d && xk_bb o d M.1) = true) : xk_Meth M d := by
  rw [Bool.and_eq_true] at h
  exact xk_mb_ok o h.1 (xk_bb_ok h.2)
def xk_allP (l1 : List xe_M) (l2 : List xd_D) : Prop := ∀ (j : Nat) (M : xe_M) (d : xd_D), l1[j]? = some M → l2[j]? = some d → xk_Meth M d
theorem xk_nil : xk_allP [] [] := fun j M d h => by simp at h
theorem xk_cons {a : xe_M} {b : xd_D} {t : List xe_M} {u : List xd_D} (h : xk_Meth a b) (ht : xk_allP t u) : xk_allP (a :: t) (b :: u) := by
  intro j M d hM hd
  cases j with
  | zero =>
    have e1 : a = M := by simpa using hM
    have e2 : b = d := by simpa using hd
    subst e1; subst e2
    exact h
  | succ j => exact ht j M d (by simpa using hM) (by simpa using hd)
end
section
theorem xk_td {Pr : xe_I → Prop} {l : List xe_I} (k : Nat) (h1 : ∀ e ∈ l.take k, Pr e) (h2 : ∀ e ∈ l.drop k, Pr e) : ∀ e ∈ l, Pr e := by
  intro e he
  rw [← List.take_append_drop k l] at he
  rcases List.mem_append.mp he with he | he
  · exact h1 e he
  · exact h2 e he
theorem xk_m0 : xk_Meth xm_0 xd_0 := xk_one 11 (by decide +kernel)
theorem xk_m1 : xk_Meth xm_1 xd_1 := xk_one 0 (by decide +kernel)
theorem xk_m2 : xk_Meth xm_2 xd_2 := xk_one 0 (by decide +kernel)
theorem xk_m3 : xk_Meth xm_3 xd_3 := xk_one 0 (by decide +kernel)
theorem xk_m4 : xk_Meth xm_4 xd_4 := xk_one 0 (by decide +kernel)
theorem xk_m5 : xk_Meth xm_5 xd_5 := xk_one 0 (by decide +kernel)
theorem xk_m6 : xk_Meth xm_6 xd_6 := xk_one 1 (by decide +kernel)
theorem xk_m7 : xk_Meth xm_7 xd_7 := xk_one 1 (by decide +kernel)
theorem xk_m8 : xk_Meth xm_8 xd_8 := xk_one 1 (by decide +kernel)
theorem xk_m9 : xk_Meth xm_9 xd_9 := xk_one 1 (by decide +kernel)
theorem xk_m10 : xk_Meth xm_10 xd_10 := xk_one 1 (by decide +kernel)
theorem xk_m11 : xk_Meth xm_11 xd_11 := xk_one 2 (by decide +kernel)
theorem xk_m12 : xk_Meth xm_12 xd_12 := xk_one 2 (by decide +kernel)
theorem xk_m13 : xk_Meth xm_13 xd_13 := xk_one 2 (by decide +kernel)
theorem xk_m14 : xk_Meth xm_14 xd_14 := xk_one 2 (by decide +kernel)
theorem xk_m15 : xk_Meth xm_15 xd_15 := xk_one 4 (by decide +kernel)
theorem xk_m16 : xk_Meth xm_16 xd_16 := xk_one 5 (by decide +kernel)
theorem xk_m17 : xk_Meth xm_17 xd_17 := xk_mb_ok 5 (by decide +kernel) (xk_td 60 (xk_bb_ok (by decide +kernel)) (xk_bb_ok (by decide +kernel)))
theorem xk_m18 : xk_Meth xm_18 xd_18 := xk_one 5 (by decide +kernel)
theorem xk_m19 : xk_Meth xm_19 xd_19 := xk_one 5 (by decide +kernel)
theorem xk_m20 : xk_Meth xm_20 xd_20 := xk_one 5 (by decide +kernel)
theorem xk_m21 : xk_Meth xm_21 xd_21 := xk_one 5 (by decide +kernel)
theorem xk_m22 : xk_Meth xm_22 xd_22 := xk_one 6 (by decide +kernel)
theorem xk_m23 : xk_Meth xm_23 xd_23 := xk_one 6 (by decide +kernel)
theorem xk_m24 : xk_Meth xm_24 xd_24 := xk_one 7 (by decide +kernel)
theorem xk_m25 : xk_Meth xm_25 xd_25 := xk_one 7 (by decide +kernel)
theorem xk_m26 : xk_Meth xm_26 xd_26 := xk_one 7 (by decide +kernel)
theorem xk_m27 : xk_Meth xm_27 xd_27 := xk_one 7 (by decide +kernel)
theorem xk_m28 : xk_Meth xm_28 xd_28 := xk_one 7 (by decide +kernel)
theorem xk_m29 : xk_Meth xm_29 xd_29 := xk_one 7 (by decide +kernel)
theorem xk_m30 : xk_Meth xm_30 xd_30 := xk_one 7 (by decide +kernel)
theorem xk_m31 : xk_Meth xm_31 xd_31 := xk_one 7 (by decide +kernel)
theorem xk_m32 : xk_Meth xm_32 xd_32 := xk_one 7 (by decide +kernel)
theorem xk_m33 : xk_Meth xm_33 xd_33 := xk_one 8 (by decide +kernel)
theorem xk_m34 : xk_Meth xm_34 xd_34 := xk_one 8 (by decide +kernel)
theorem xk_m35 : xk_Meth xm_35 xd_35 := xk_one 8 (by decide +kernel)
theorem xk_m36 : xk_Meth xm_36 xd_36 := xk_one 8 (by decide +kernel)
theorem xk_m37 : xk_Meth xm_37 xd_37 := xk_one 8 (by decide +kernel)
theorem xk_m38 : xk_Meth xm_38 xd_38 := xk_one 8 (by decide +kernel)
theorem xk_m39 : xk_Meth xm_39 xd_39 := xk_one 8 (by decide +kernel)
theorem xk_m40 : xk_Meth xm_40 xd_40 := xk_one 8 (by decide +kernel)
theorem xk_m41 : xk_Meth xm_41 xd_41 := xk_one 8 (by decide +kernel)
theorem xk_m42 : xk_Meth xm_42 xd_42 := xk_one 8 (by decide +kernel)
theorem xk_m43 : xk_Meth xm_43 xd_43 := xk_one 8 (by decide +kernel)
theorem xk_m44 : xk_Meth xm_44 xd_44 := xk_one 8 (by decide +kernel)
theorem xk_m45 : xk_Meth xm_45 xd_45 := xk_one 9 (by decide +kernel)
theorem xk_m46 : xk_Meth xm_46 xd_46 := xk_one 9 (by decide +kernel)
theorem xk_m47 : xk_Meth xm_47 xd_47 := xk_one 9 (by decide +kernel)
theorem xk_m48 : xk_Meth xm_48 xd_48 := xk_one 9 (by decide +kernel)
theorem xk_m49 : xk_Meth xm_49 xd_49 := xk_one 9 (by decide +kernel)
theorem xk_m50 : xk_Meth xm_50 xd_50 := xk_one 9 (by decide +kernel)
theorem xk_m51 : xk_Meth xm_51 xd_51 := xk_one 9 (by decide +kernel)
theorem xk_m52 : xk_Meth xm_52 xd_52 := xk_one 9 (by decide +kernel)
theorem xk_m53 : xk_Meth xm_53 xd_53 := xk_one 9 (by decide +kernel)
theorem xk_m54 : xk_Meth xm_54 xd_54 := xk_one 9 (by decide +kernel)
end
section
theorem xk_m55 : xk_Meth xm_55 xd_55 := xk_mb_ok 9 (by decide +kernel) (xk_td 60 (xk_bb_ok (by decide +kernel)) (xk_td 60 (xk_bb_ok (by decide +kernel)) (xk_td 60 (xk_bb_ok (by decide +kernel)) (xk_td 60 (xk_bb_ok (by decide +kernel)) (xk_td 60 (xk_bb_ok (by decide +kernel)) (xk_bb_ok (by decide +kernel)))))))
theorem xk_m56 : xk_Meth xm_56 xd_56 := xk_one 9 (by decide +kernel)
theorem xk_m57 : xk_Meth xm_57 xd_57 := xk_one 9 (by decide +kernel)
theorem xk_m58 : xk_Meth xm_58 xd_58 := xk_one 9 (by decide +kernel)
theorem xk_m59 : xk_Meth xm_59 xd_59 := xk_one 9 (by decide +kernel)
theorem xk_m60 : xk_Meth xm_60 xd_60 := xk_one 9 (by decide +kernel)
theorem xk_m61 : xk_Meth xm_61 xd_61 := xk_one 9 (by decide +kernel)
theorem xk_m62 : xk_Meth xm_62 xd_62 := xk_one 9 (by decide +kernel)
theorem xk_m63 : xk_Meth xm_63 xd_63 := xk_one 9 (by decide +kernel)
theorem xk_m64 : xk_Meth xm_64 xd_64 := xk_one 9 (by decide +kernel)
theorem xk_m65 : xk_Meth xm_65 xd_65 := xk_one 9 (by decide +kernel)
theorem xk_m66 : xk_Meth xm_66 xd_66 := xk_one 9 (by decide +kernel)
theorem xk_m67 : xk_Meth xm_67 xd_67 := xk_one 9 (by decide +kernel)
theorem xk_m68 : xk_Meth xm_68 xd_68 := xk_one 9 (by decide +kernel)
theorem xk_m69 : xk_Meth xm_69 xd_69 := xk_one 9 (by decide +kernel)
theorem xk_m70 : xk_Meth xm_70 xd_70 := xk_one 2 (by decide +kernel)
theorem xk_m71 : xk_Meth xm_71 xd_71 := xk_one 3 (by decide +kernel)
theorem xk_m72 : xk_Meth xm_72 xd_72 := xk_one 6 (by decide +kernel)
theorem xk_m73 : xk_Meth xm_73 xd_73 := xk_one 7 (by decide +kernel)
theorem xk_m74 : xk_Meth xm_74 xd_74 := xk_mb_ok 7 (by decide +kernel) (xk_td 60 (xk_bb_ok (by decide +kernel)) (xk_bb_ok (by decide +kernel)))
theorem xk_m75 : xk_Meth xm_75 xd_75 := xk_mb_ok 7 (by decide +kernel) (xk_td 60 (xk_bb_ok (by decide +kernel)) (xk_bb_ok (by decide +kernel)))
theorem xk_m76 : xk_Meth xm_76 xd_76 := xk_one 8 (by decide +kernel)
theorem xk_m77 : xk_Meth xm_77 xd_77 := xk_one 8 (by decide +kernel)
theorem xk_m78 : xk_Meth xm_78 xd_78 := xk_one 8 (by decide +kernel)
end
section
theorem xk_m79 : xk_Meth xm_79 xd_79 := xk_one 8 (by decide +kernel)
theorem xk_m80 : xk_Meth xm_80 xd_80 := xk_one 8 (by decide +kernel)
theorem xk_m81 : xk_Meth xm_81 xd_81 := xk_one 8 (by decide +kernel)
theorem xk_m82 : xk_Meth xm_82 xd_82 := xk_one 8 (by decide +kernel)
theorem xk_m83 : xk_Meth xm_83 xd_83 := xk_one 8 (by decide +kernel)
theorem xk_m84 : xk_Meth xm_84 xd_84 := xk_one 8 (by decide +kernel)
theorem xk_m85 : xk_Meth xm_85 xd_85 := xk_one 8 (by decide +kernel)
theorem xk_m86 : xk_Meth xm_86 xd_86 := xk_one 8 (by decide +kernel)
theorem xk_m87 : xk_Meth xm_87 xd_87 := xk_one 8 (by decide +kernel)
theorem xk_m88 : xk_Meth xm_88 xd_88 := xk_one 8 (by decide +kernel)
theorem xk_m89 : xk_Meth xm_89 xd_89 := xk_one 8 (by decide +kernel)
theorem xk_m90 : xk_Meth xm_90 xd_90 := xk_one 9 (by decide +kernel)
theorem xk_m91 : xk_Meth xm_91 xd_91 := xk_one 9 (by decide +kernel)
theorem xk_m92 : xk_Meth xm_92 xd_92 := xk_one 9 (by decide +kernel)
theorem xk_m93 : xk_Meth xm_93 xd_93 := xk_one 9 (by decide +kernel)
theorem xk_m94 : xk_Meth xm_94 xd_94 := xk_one 9 (by decide +kernel)
theorem xk_m95 : xk_Meth xm_95 xd_95 := xk_one 9 (by decide +kernel)
theorem xk_m96 : xk_Meth xm_96 xd_96 := xk_one 9 (by decide +kernel)
theorem xk_m97 : xk_Meth xm_97 xd_97 := xk_one 9 (by decide +kernel)
theorem xk_m98 : xk_Meth xm_98 xd_98 := xk_one 9 (by decide +kernel)
theorem xk_m99 : xk_Meth xm_99 xd_99 := xk_one 9 (by decide +kernel)
theorem xk_m100 : xk_Meth xm_100 xd_100 := xk_one 10 (by decide +kernel)
theorem xk_m101 : xk_Meth xm_101 xd_101 := xk_one 10 (by decide +kernel)
theorem xk_m102 : xk_Meth xm_102 xd_102 := xk_one 10 (by decide +kernel)
theorem xk_m103 : xk_Meth xm_103 xd_103 := xk_one 10 (by decide +kernel)
theorem xk_m104 : xk_Meth xm_104 xd_104 := xk_one 10 (by decide +kernel)
theorem xk_m105 : xk_Meth xm_105 xd_105 := xk_one 10 (by decide +kernel)
theorem xk_m106 : xk_Meth xm_106 xd_106 := xk_one 10 (by decide +kernel)
theorem xk_m107 : xk_Meth xm_107 xd_107 := xk_one 10 (by decide +kernel)
theorem xk_m108 : xk_Meth xm_108 xd_108 := xk_one 10 (by decide +kernel)
theorem xk_m109 : xk_Meth xm_109 xd_109 := xk_one 10 (by decide +kernel)
theorem xk_m110 : xk_Meth xm_110 xd_110 := xk_one 3 (by decide +kernel)
theorem xk_m111 : xk_Meth xm_111 xd_111 := xk_mb_ok 8 (by decide +kernel) (xk_td 60 (xk_bb_ok (by decide +kernel)) (xk_bb_ok (by decide +kernel)))
theorem xk_m112 : xk_Meth xm_112 xd_112 := xk_mb_ok 8 (by decide +kernel) (xk_td 60 (xk_bb_ok (by decide +kernel)) (xk_bb_ok (by decide +kernel)))
theorem xk_m113 : xk_Meth xm_113 xd_113 := xk_one 8 (by decide +kernel)
theorem xk_m114 : xk_Meth xm_114 xd_114 := xk_one 8 (by decide +kernel)
theorem xk_m115 : xk_Meth xm_115 xd_115 := xk_one 8 (by decide +kernel)
theorem xk_m116 : xk_Meth xm_116 xd_116 := xk_one 8 (by decide +kernel)
theorem xk_m117 : xk_Meth xm_117 xd_117 := xk_mb_ok 8 (by decide +kernel) (xk_td 60 (xk_bb_ok (by decide +kernel)) (xk_bb_ok (by decide +kernel)))
end
section
theorem xk_m118 : xk_Meth xm_118 xd_118 := xk_mb_ok 9 (by decide +kernel) (xk_td 60 (xk_bb_ok (by decide +kernel)) (xk_td 60 (xk_bb_ok (by decide +kernel)) (xk_td 60 (xk_bb_ok (by decide +kernel)) (xk_bb_ok (by decide +kernel)))))
theorem xk_m119 : xk_Meth xm_119 xd_119 := xk_one 9 (by decide +kernel)
theorem xk_m120 : xk_Meth xm_120 xd_120 := xk_one 9 (by decide +kernel)
theorem xk_m121 : xk_Meth xm_121 xd_121 := xk_one 9 (by decide +kernel)
theorem xk_m122 : xk_Meth xm_122 xd_122 := xk_mb_ok 9 (by decide +kernel) (xk_td 60 (xk_bb_ok (by decide +kernel)) (xk_bb_ok (by decide +kernel)))
theorem xk_m123 : xk_Meth xm_123 xd_123 := xk_one 9 (by decide +kernel)
theorem xk_m124 : xk_Meth xm_124 xd_124 := xk_one 9 (by decide +kernel)
theorem xk_m125 : xk_Meth xm_125 xd_125 := xk_one 9 (by decide +kernel)
theorem xk_m126 : xk_Meth xm_126 xd_126 := xk_one 9 (by decide +kernel)
theorem xk_m127 : xk_Meth xm_127 xd_127 := xk_one 9 (by decide +kernel)
theorem xk_m128 : xk_Meth xm_128 xd_128 := xk_mb_ok 9 (by decide +kernel) (xk_td 60 (xk_bb_ok (by decide +kernel)) (xk_bb_ok (by decide +kernel)))
theorem xk_m129 : xk_Meth xm_129 xd_129 := xk_one 9 (by decide +kernel)
theorem xk_m130 : xk_Meth xm_130 xd_130 := xk_one 9 (by decide +kernel)
theorem xk_m131 : xk_Meth xm_131 xd_131 := xk_one 9 (by decide +kernel)
theorem xk_m132 : xk_Meth xm_132 xd_132 := xk_one 9 (by decide +kernel)
theorem xk_m133 : xk_Meth xm_133 xd_133 := xk_one 10 (by decide +kernel)
theorem xk_m134 : xk_Meth xm_134 xd_134 := xk_one 10 (by decide +kernel)
theorem xk_m135 : xk_Meth xm_135 xd_135 := xk_one 8 (by decide +kernel)
theorem xk_m136 : xk_Meth xm_136 xd_136 := xk_one 8 (by decide +kernel)
theorem xk_m137 : xk_Meth xm_137 xd_137 := xk_one 8 (by decide +kernel)
theorem xk_m138 : xk_Meth xm_138 xd_138 := xk_one 8 (by decide +kernel)
theorem xk_m139 : xk_Meth xm_139 xd_139 := xk_mb_ok 8 (by decide +kernel) (xk_td 60 (xk_bb_ok (by decide +kernel)) (xk_bb_ok (by decide +kernel)))
theorem xk_m140 : xk_Meth xm_140 xd_140 := xk_one 8 (by decide +kernel)
end
section
theorem xk_m141 : xk_Meth xm_141 xd_141 := xk_one 8 (by decide +kernel)
theorem xk_m142 : xk_Meth xm_142 xd_142 := xk_one 8 (by decide +kernel)
theorem xk_m143 : xk_Meth xm_143 xd_143 := xk_one 8 (by decide +kernel)
theorem xk_m144 : xk_Meth xm_144 xd_144 := xk_one 8 (by decide +kernel)
theorem xk_m145 : xk_Meth xm_145 xd_145 := xk_one 8 (by decide +kernel)
theorem xk_m146 : xk_Meth xm_146 xd_146 := xk_one 8 (by decide +kernel)
theorem xk_m147 : xk_Meth xm_147 xd_147 := xk_one 8 (by decide +kernel)
theorem xk_m148 : xk_Meth xm_148 xd_148 := xk_one 8 (by decide +kernel)
theorem xk_m149 : xk_Meth xm_149 xd_149 := xk_one 8 (by decide +kernel)
theorem xk_m150 : xk_Meth xm_150 xd_150 := xk_one 8 (by decide +kernel)
theorem xk_m151 : xk_Meth xm_151 xd_151 := xk_one 8 (by decide +kernel)
theorem xk_m152 : xk_Meth xm_152 xd_152 := xk_one 8 (by decide +kernel)
theorem xk_m153 : xk_Meth xm_153 xd_153 := xk_one 9 (by decide +kernel)
theorem xk_m154 : xk_Meth xm_154 xd_154 := xk_one 9 (by decide +kernel)
theorem xk_m155 : xk_Meth xm_155 xd_155 := xk_one 9 (by decide +kernel)
theorem xk_m156 : xk_Meth xm_156 xd_156 := xk_one 9 (by decide +kernel)
theorem xk_m157 : xk_Meth xm_157 xd_157 := xk_one 9 (by decide +kernel)
theorem xk_m158 : xk_Meth xm_158 xd_158 := xk_one 9 (by decide +kernel)
theorem xk_m159 : xk_Meth xm_159 xd_159 := xk_one 10 (by decide +kernel)
theorem xk_m160 : xk_Meth xm_160 xd_160 := xk_one 10 (by decide +kernel)
theorem xk_m161 : xk_Meth xm_161 xd_161 := xk_one 10 (by decide +kernel)
theorem xk_m162 : xk_Meth xm_162 xd_162 := xk_one 10 (by decide +kernel)
theorem xk_m163 : xk_Meth xm_163 xd_163 := xk_one 10 (by decide +kernel)
theorem xk_m164 : xk_Meth xm_164 xd_164 := xk_one 10 (by decide +kernel)
theorem xk_m165 : xk_Meth xm_165 xd_165 := xk_one 10 (by decide +kernel)
theorem xk_m166 : xk_Meth xm_166 xd_166 := xk_one 10 (by decide +kernel)
theorem xk_m167 : xk_Meth xm_167 xd_167 := xk_one 10 (by decide +kernel)
theorem xk_m168 : xk_Meth xm_168 xd_168 := xk_one 10 (by decide +kernel)
theorem xk_m169 : xk_Meth xm_169 xd_169 := xk_one 10 (by decide +kernel)
theorem xk_m170 : xk_Meth xm_170 xd_170 := xk_one 10 (by decide +kernel)
theorem xk_m171 : xk_Meth xm_171 xd_171 := xk_one 10 (by decide +kernel)
theorem xk_m172 : xk_Meth xm_172 xd_172 := xk_one 10 (by decide +kernel)
theorem xk_m173 : xk_Meth xm_173 xd_173 := xk_one 10 (by decide +kernel)
theorem xk_m174 : xk_Meth xm_174 xd_174 := xk_one 9 (by decide +kernel)
theorem xk_m175 : xk_Meth xm_175 xd_175 := xk_mb_ok 9 (by decide +kernel) (xk_td 60 (xk_bb_ok (by decide +kernel)) (xk_bb_ok (by decide +kernel)))
theorem xk_m176 : xk_Meth xm_176 xd_176 := xk_one 9 (by decide +kernel)
theorem xk_m177 : xk_Meth xm_177 xd_177 := xk_mb_ok 9 (by decide +kernel) (xk_td 60 (xk_bb_ok (by decide +kernel)) (xk_bb_ok (by decide +kernel)))
theorem xk_m178 : xk_Meth xm_178 xd_178 := xk_one 9 (by decide +kernel)
theorem xk_m179 : xk_Meth xm_179 xd_179 := xk_one 9 (by decide +kernel)
theorem xk_m180 : xk_Meth xm_180 xd_180 := xk_one 9 (by decide +kernel)
theorem xk_m181 : xk_Meth xm_181 xd_181 := xk_one 9 (by decide +kernel)
theorem xk_m182 : xk_Meth xm_182 xd_182 := xk_one 9 (by decide +kernel)
theorem xk_m183 : xk_Meth xm_183 xd_183 := xk_mb_ok 9 (by decide +kernel) (xk_td 60 (xk_bb_ok (by decide +kernel)) (xk_bb_ok (by decide +kernel)))
end
section
theorem xk_m184 : xk_Meth xm_184 xd_184 := xk_mb_ok 9 (by decide +kernel) (xk_td 60 (xk_bb_ok (by decide +kernel)) (xk_bb_ok (by decide +kernel)))
theorem xk_m185 : xk_Meth xm_185 xd_185 := xk_one 9 (by decide +kernel)
theorem xk_m186 : xk_Meth xm_186 xd_186 := xk_one 9 (by decide +kernel)
end
section
theorem xk_m187 : xk_Meth xm_187 xd_187 := xk_mb_ok 10 (by decide +kernel) (xk_td 60 (xk_bb_ok (by decide +kernel)) (xk_td 60 (xk_bb_ok (by decide +kernel)) (xk_td 60 (xk_bb_ok (by decide +kernel)) (xk_td 60 (xk_bb_ok (by decide +kernel)) (xk_td 60 (xk_bb_ok (by decide +kernel)) (xk_td 60 (xk_bb_ok (by decide +kernel)) (xk_td 60 (xk_bb_ok (by decide +kernel)) (xk_td 60 (xk_bb_ok (by decide +kernel)) (xk_td 60 (xk_bb_ok (by decide +kernel)) (xk_td 60 (xk_bb_ok (by decide +kernel)) (xk_td 60 (xk_bb_ok (by decide +kernel)) (xk_td 60 (xk_bb_ok (by decide +kernel)) (xk_td 60 (xk_bb_ok (by decide +kernel)) (xk_td 60 (xk_bb_ok (by decide +kernel)) (xk_td 60 (xk_bb_ok (by decide +kernel)) (xk_td 60 (xk_bb_ok (by decide +kernel)) (xk_td 60 (xk_bb_ok (by decide +kernel)) (xk_bb_ok (by decide +kernel)))))))))))))))))))
theorem xk_all : xk_All := show xk_allP xe_P xd_P from xk_cons xk_m0 (xk_cons xk_m1 (xk_cons xk_m2 (xk_cons xk_m3 (xk_cons xk_m4 (xk_cons xk_m5 (xk_cons xk_m6 (xk_cons xk_m7 (xk_cons xk_m8 (xk_cons xk_m9 (xk_cons xk_m10 (xk_cons xk_m11 (xk_cons xk_m12 (xk_cons xk_m13 (xk_cons xk_m14 (xk_cons xk_m15 (xk_cons xk_m16 (xk_cons xk_m17 (xk_cons xk_m18 (xk_cons xk_m19 (xk_cons xk_m20 (xk_cons xk_m21 (xk_cons xk_m22 (xk_cons xk_m23 (xk_cons xk_m24 (xk_cons xk_m25 (xk_cons xk_m26 (xk_cons xk_m27 (xk_cons xk_m28 (xk_cons xk_m29 (xk_cons xk_m30 (xk_cons xk_m31 (xk_cons xk_m32 (xk_cons xk_m33 (xk_cons xk_m34 (xk_cons xk_m35 (xk_cons xk_m36 (xk_cons xk_m37 (xk_cons xk_m38 (xk_cons xk_m39 (xk_cons xk_m40 (xk_cons xk_m41 (xk_cons xk_m42 (xk_cons xk_m43 (xk_cons xk_m44 (xk_cons xk_m45 (xk_cons xk_m46 (xk_cons xk_m47 (xk_cons xk_m48 (xk_cons xk_m49 (xk_cons xk_m50 (xk_cons xk_m51 (xk_cons xk_m52 (xk_cons xk_m53 (xk_cons xk_m54 (xk_cons xk_m55 (xk_cons xk_m56 (xk_cons xk_m57 (xk_cons xk_m58 (xk_cons xk_m59 (xk_cons xk_m60 (xk_cons xk_m61 (xk_cons xk_m62 (xk_cons xk_m63 (xk_cons xk_m64 (xk_cons xk_m65 (xk_cons xk_m66 (xk_cons xk_m67 (xk_cons xk_m68 (xk_cons xk_m69 (xk_cons xk_m70 (xk_cons xk_m71 (xk_cons xk_m72 (xk_cons xk_m73 (xk_cons xk_m74 (xk_cons xk_m75 (xk_cons xk_m76 (xk_cons xk_m77 (xk_cons xk_m78 (xk_cons xk_m79 (xk_cons xk_m80 (xk_cons xk_m81 (xk_cons xk_m82 (xk_cons xk_m83 (xk_cons xk_m84 (xk_cons xk_m85 (xk_cons xk_m86 (xk_cons xk_m87 (xk_cons xk_m88 (xk_cons xk_m89 (xk_cons xk_m90 (xk_cons xk_m91 (xk_cons xk_m92 (xk_cons xk_m93 (xk_cons xk_m94 (xk_cons xk_m95 (xk_cons xk_m96 (xk_cons xk_m97 (xk_cons xk_m98 (xk_cons xk_m99 (xk_cons xk_m100 (xk_cons xk_m101 (xk_cons xk_m102 (xk_cons xk_m103 (xk_cons xk_m104 (xk_cons xk_m105 (xk_cons xk_m106 (xk_cons xk_m107 (xk_cons xk_m108 (xk_cons xk_m109 (xk_cons xk_m110 (xk_cons xk_m111 (xk_cons xk_m112 (xk_cons xk_m113 (xk_cons xk_m114 (xk_cons xk_m115 (xk_cons xk_m116 (xk_cons xk_m117 (xk_cons xk_m118 (xk_cons xk_m119 (xk_cons xk_m120 (xk_cons xk_m121 (xk_cons xk_m122 (xk_cons xk_m123 (xk_cons xk_m124 (xk_cons xk_m125 (xk_cons xk_m126 (xk_cons xk_m127 (xk_cons xk_m128 (xk_cons xk_m129 (xk_cons xk_m130 (xk_cons xk_m131 (xk_cons xk_m132 (xk_cons xk_m133 (xk_cons xk_m134 (xk_cons xk_m135 (xk_cons xk_m136 (xk_cons xk_m137 (xk_cons xk_m138 (xk_cons xk_m139 (xk_cons xk_m140 (xk_cons xk_m141 (xk_cons xk_m142 (xk_cons xk_m143 (xk_cons xk_m144 (xk_cons xk_m145 (xk_cons xk_m146 (xk_cons xk_m147 (xk_cons xk_m148 (xk_cons xk_m149 (xk_cons xk_m150 (xk_cons xk_m151 (xk_cons xk_m152 (xk_cons xk_m153 (xk_cons xk_m154 (xk_cons xk_m155 (xk_cons xk_m156 (xk_cons xk_m157 (xk_cons xk_m158 (xk_cons xk_m159 (xk_cons xk_m160 (xk_cons xk_m161 (xk_cons xk_m162 (xk_cons xk_m163 (xk_cons xk_m164 (xk_cons xk_m165 (xk_cons xk_m166 (xk_cons xk_m167 (xk_cons xk_m168 (xk_cons xk_m169 (xk_cons xk_m170 (xk_cons xk_m171 (xk_cons xk_m172 (xk_cons xk_m173 (xk_cons xk_m174 (xk_cons xk_m175 (xk_cons xk_m176 (xk_cons xk_m177 (xk_cons xk_m178 (xk_cons xk_m179 (xk_cons xk_m180 (xk_cons xk_m181 (xk_cons xk_m182 (xk_cons xk_m183 (xk_cons xk_m184 (xk_cons xk_m185 (xk_cons xk_m186 (xk_cons xk_m187 (xk_nil))))))))))))))))))))))))))))))))))))))))))))))))))))))))))))))))))))))))))))))))))))))))))))))))))))))))))))))))))))))))))))))))))))))))))))))))))))))))))))))))))))))))))))))))))))))))))))
end
section
/-! the law's entry: what the Statement gives of the start is what the evaluator stands on -/
theorem xl_sf (j : Nat) (h : j < 5) : xs_sf j = ([1, 11, 5, 6, 10] : List Int32).getD j 0 := by
  match j, h with
  | 0, _ => rfl
  | 1, _ => rfl
  | 2, _ => rfl
  | 3, _ => rfl
  | 4, _ => rfl
theorem xl_SA {args : Array Value} {s : State} (hgv : (Jvm.Cond.and given_1 narrow_1).before args s = true) {A : Nat → Prop} (hA : ∀ a : Nat, a < s.heap.size → ¬ A a) : ∃ t : Nat, (Term.static "TingDecks" "SETTING_FIRST" "[I").eval args s none [] s = some (.ref t) ∧ xs_SA t A s s.heap := by
  have hs := flat_of_before _ hgv
  have harr : (Cond.arrayOf (.static "TingDecks" "SETTING_FIRST" "[I") .int).before args s = true := hs _ (by decide +kernel)
  have hlen : (Term.length (.static "TingDecks" "SETTING_FIRST" "[I")).eval args s none [] s = some (.int (Int32.ofNat 5)) := va_eqt (hs (.eq (.length (.static "TingDecks" "SETTING_FIRST" "[I")) (.int 5)) (by decide +kernel))
  have e0 : (Term.elem (.static "TingDecks" "SETTING_FIRST" "[I") (.int (Int32.ofNat 0))).eval args s none [] s = some (.int (xs_sf 0)) := by
    rw [xl_sf 0 (by decide)]
    exact va_eqt (hs (.eq (.elem (.static "TingDecks" "SETTING_FIRST" "[I") (.int 0)) (.int 1)) (by decide +kernel))
  have e1 : (Term.elem (.static "TingDecks" "SETTING_FIRST" "[I") (.int (Int32.ofNat 1))).eval args s none [] s = some (.int (xs_sf 1)) := by
    rw [xl_sf 1 (by decide)]
    exact va_eqt (hs (.eq (.elem (.static "TingDecks" "SETTING_FIRST" "[I") (.int 1)) (.int 11)) (by decide +kernel))
  have e2 : (Term.elem (.static "TingDecks" "SETTING_FIRST" "[I") (.int (Int32.ofNat 2))).eval args s none [] s = some (.int (xs_sf 2)) := by
    rw [xl_sf 2 (by decide)]
    exact va_eqt (hs (.eq (.elem (.static "TingDecks" "SETTING_FIRST" "[I") (.int 2)) (.int 5)) (by decide +kernel))
  have e3 : (Term.elem (.static "TingDecks" "SETTING_FIRST" "[I") (.int (Int32.ofNat 3))).eval args s none [] s = some (.int (xs_sf 3)) := by
    rw [xl_sf 3 (by decide)]
    exact va_eqt (hs (.eq (.elem (.static "TingDecks" "SETTING_FIRST" "[I") (.int 3)) (.int 6)) (by decide +kernel))
  have e4 : (Term.elem (.static "TingDecks" "SETTING_FIRST" "[I") (.int (Int32.ofNat 4))).eval args s none [] s = some (.int (xs_sf 4)) := by
    rw [xl_sf 4 (by decide)]
    exact va_eqt (hs (.eq (.elem (.static "TingDecks" "SETTING_FIRST" "[I") (.int 4)) (.int 10)) (by decide +kernel))
  obtain ⟨t, ht, cell, h1, h2, h3, h4, h5, h6, h7⟩ := va_Tof (N := 5) (f := fun j => .int (xs_sf j)) (A := A) (by decide) harr hlen (fun j hj => match j, hj with
    | 0, _ => e0
    | 1, _ => e1
    | 2, _ => e2
    | 3, _ => e3
    | 4, _ => e4) hA
  obtain ⟨b, cell2, hb, hat, -⟩ := Term.length_spec hlen
  have hsz : cell2.slots.size < 2 ^ 31 := by
    have hv := hlen
    simp only [Term.eval, Option.bind_eq_bind] at hv hb
    rw [hb] at hv
    simp only [hat, Option.bind_some] at hv
    by_cases hlt : cell2.slots.size < 2147483648
    · exact hlt
    · simp [hlt] at hv
  cases ht.symm.trans hb
  obtain ⟨hcell2, -, -, -⟩ := State.arrayAt?_spec hat
  cases h1.symm.trans hcell2
  have hs5 : cell.slots.size = 5 := by
    have h8 := congrArg Int32.toNatClampNeg h5
    have h9 : (cell.slots.size.toInt32).toNatClampNeg = cell.slots.size := Int32.toNatClampNeg_ofNat_of_lt hsz
    rw [h9] at h8
    exact h8
  obtain ⟨a, cc, cell3, k3, g1, g2, g3, g4, g5, g6, -⟩ := Cond.exactly_spec (show (Cond.exactly (.static "TingDecks" "SETTING_FIRST" "[I") "[I").holds args s none s [] = true from hs (.exactly (.static "TingDecks" "SETTING_FIRST" "[I") "[I") (by decide +kernel))
  cases ht.symm.trans g1
  cases h1.symm.trans g3
  exact ⟨t, ht, ⟨cell, h1, h2, h3, hs5, h6⟩, h7, cell, h1, by rw [g6]; exact g2⟩
theorem xl_Nm : ∀ w ∈ xw_N, w ∈ lw_tbl := by decide +kernel
theorem xl_Nt : xw_N.all (fun w => w.onTables) = true := by decide +kernel
theorem xl_Sm : ∀ q ∈ xw_Str, Cond.stringRef "TingDecks" q.1 q.2 ∈ lw_tbl := by decide +kernel
def xl_Sx : List Cond := xw_Str.map (fun q => .exactly (.string "TingDecks" q.1) "java/lang/String")
theorem xl_Nw {args : Array Value} {s : State} (hts : ∀ w ∈ lw_tbl, w.before args s = true) (hgv : (Jvm.Cond.and given_1 narrow_1).before args s = true) : xs_Nw s := by
  have hs := flat_of_before _ hgv
  refine ⟨va_Nw.of rfl (hts _ (by decide +kernel)), va_Nw.of rfl (hts _ (by decide +kernel)), va_Nw.of rfl (hts _ (by decide +kernel)), va_Nw.of rfl (hts _ (by decide +kernel)), va_Nw.of rfl (hts _ (by decide +kernel)), va_Nw.of rfl (hts _ (by decide +kernel)), fun w hw => va_Nw.of (List.all_eq_true.mp xl_Nt w hw) (hts w (xl_Nm w hw)), fun q hq => ?_, va_Nc.of (hs _ (by decide +kernel)), va_Nc.of (hs _ (by decide +kernel))⟩
  have h1 := hts _ (xl_Sm q hq)
  have h2 : (Cond.exactly (.string "TingDecks" q.1) "java/lang/String").before args s = true := by
    simp only [xw_Str, List.mem_cons, List.not_mem_nil, or_false] at hq
    rcases hq with rfl | rfl | rfl | rfl | rfl | rfl | rfl | rfl | rfl | rfl | rfl | rfl <;> exact hs _ (by decide +kernel)
  obtain ⟨a, c, cell, k, ha, -⟩ := Cond.exactly_spec (show (Cond.exactly (.string "TingDecks" q.1) "java/lang/String").holds args s none s [] = true from h2)
  exact ⟨a, vk_R.of h1 ha⟩
theorem xl_arr {args : Array Value} {s : State} {ty : FieldType} (h : (Cond.arrayClass ty).before args s = true) : ∃ cA : ClassId, ArrOfT s cA ty ∧ s.vm.findClass ("[" ++ ty.toString) = some cA := by
  obtain ⟨cA, kA, comp, h1, h2, h3⟩ := Cond.arrayClass_spec (show (Cond.arrayClass ty).holds args s none s [] = true from h)
  exact ⟨cA, fun n z => ⟨fun k h => (by cases h), kA, h2, comp, h3⟩, h1⟩
theorem xl_K {args : Array Value} {s : State} (hts : ∀ w ∈ lw_tbl, w.before args s = true) : ∃ (D : va_G) (dA : Nat → ClassId), va_K D vwCl (xs_tys dA) s := by
  have ht : ∀ w ∈ xw_T, w.before args s = true := fun w hw => hts w (xw_tb hw)
  obtain ⟨c0, i0, k0⟩ := u_known (C := RX0) (T := TX0) (N := 14) (n := 14) ht xk_u0 (hts (.instantiable RX0 14) (by decide +kernel))
  obtain ⟨c1, i1, k1⟩ := u_known (C := RX1) (T := TX1) (N := 6) (n := 6) ht xk_u1 (hts (.instantiable RX1 6) (by decide +kernel))
  obtain ⟨c2, i2, k2⟩ := u_known (C := RX2) (T := TX2) (N := 4) (n := 4) ht xk_u2 (hts (.instantiable RX2 4) (by decide +kernel))
  obtain ⟨c3, i3, k3⟩ := u_known (C := RX3) (T := TX3) (N := 6) (n := 6) ht xk_u3 (hts (.instantiable RX3 6) (by decide +kernel))
  obtain ⟨c4, i4, k4⟩ := u_known (C := RX4) (T := TX4) (N := 2) (n := 2) ht xk_u4 (hts (.instantiable RX4 2) (by decide +kernel))
  obtain ⟨c5, i5, k5⟩ := u_known (C := RX5) (T := TX5) (N := 11) (n := 11) ht xk_u5 (hts (.instantiable RX5 11) (by decide +kernel))
  obtain ⟨c6, i6, k6⟩ := u_known (C := RX6) (T := TX6) (N := 6) (n := 6) ht xk_u6 (hts (.instantiable RX6 6) (by decide +kernel))
  obtain ⟨c7, i7, k7⟩ := u_known (C := RX7) (T := TX7) (N := 21) (n := 21) ht xk_u7 (hts (.instantiable RX7 21) (by decide +kernel))
  obtain ⟨c8, i8, k8⟩ := u_known (C := RX8) (T := TX8) (N := 17) (n := 17) ht xk_u8 (hts (.instantiable RX8 17) (by decide +kernel))
  obtain ⟨c9, i9, k9⟩ := u_known (C := RX9) (T := TX9) (N := 83) (n := 83) ht xk_u9 (hts (.instantiable RX9 83) (by decide +kernel))
  obtain ⟨a0, r0, f0⟩ := xl_arr (hts (.arrayClass .byte) (by decide +kernel))
  obtain ⟨a1, r1, f1⟩ := xl_arr (hts (.arrayClass .int) (by decide +kernel))
  obtain ⟨a2, r2, f2⟩ := xl_arr (hts (.arrayClass .long) (by decide +kernel))
  obtain ⟨a3, r3, f3⟩ := xl_arr (hts (.arrayClass .boolean) (by decide +kernel))
  refine ⟨(fun k => match k with
    | 0 => c0
    | 1 => c1
    | 2 => c2
    | 3 => c3
    | 4 => c4
    | 5 => c5
    | 6 => c6
    | 7 => c7
    | 8 => c8
    | _ => c9, fun k => match k with
    | 0 => i0
    | 1 => i1
    | 2 => i2
    | 3 => i3
    | 4 => i4
    | 5 => i5
    | 6 => i6
    | 7 => i7
    | 8 => i8
    | _ => i9), fun k => match k with
    | 0 => a0
    | 1 => a1
    | 2 => a2
    | _ => a3, fun k q hq => ?_, fun k q hq => ?_⟩
  · match k, hq with
    | 0, hq => cases hq; exact k0
    | 1, hq => cases hq; exact k1
    | 2, hq => cases hq; exact k2
    | 3, hq => cases hq; exact k3
    | 4, hq => cases hq; exact k4
    | 5, hq => cases hq; exact k5
    | 6, hq => cases hq; exact k6
    | 7, hq => cases hq; exact k7
    | 8, hq => cases hq; exact k8
    | 9, hq => cases hq; exact k9
    | k + 10, hq => simp [vwCl] at hq
  · match k, hq with
    | 0, hq => cases hq; exact ⟨r0, f0⟩
    | 1, hq => cases hq; exact ⟨r1, f1⟩
    | 2, hq => cases hq; exact ⟨r2, f2⟩
    | 3, hq => cases hq; exact ⟨r3, f3⟩
    | k + 4, hq => simp [xs_tys] at hq
def R_law : String := "TingDecksLaw"
def lw_P (b : Addr) (xs : List Int32) (args : Array Value) (s : State) : Prop := args = #[.ref b] ∧ s.IntsAt b xs ∧ xs.length ≤ 6 ∧ (Jvm.Cond.and given_1 narrow_1).before args s = true
def lw_Q (_ : Array Value) (s : State) (o : Outcome) (t : State) : Prop := o = .returned (some (.int 1)) ∧ Framed s o t [] 600002 7302232
def lw_Z (below : List Frame) (a : Array Value) (s : State) : State → Prop := fun t => ∃ o, t.status = .running ∧ Ended t below o ∧ lw_Q a s o t
/-- what holds at the law's entry -/
def lw_At (p : Program) (s : State) (m : MethodId) (meth : Method) (c : Code) (b L : Nat) (xs : Nat → Int32) : Prop :=
  p.tables.exec = Jvm.exec ∧ c.code = code ∧ meth.sig.returnType = ret ∧ c.maxLocals = 8 ∧ s.vm.findClass R_law = some m.cls ∧ (∀ w ∈ lw_tbl, w.before #[Value.ref b] s = true) ∧ va_X b L xs s s.heap ∧ b < s.heap.size ∧ meth.locks = false ∧ (Jvm.Cond.and given_1 narrow_1).before #[Value.ref b] s = true ∧ c.exceptionTable.toList = []
/-- a run of the evaluator over the law's body that answers true is the machine's -/
theorem xl_go (hall : xk_All) {p : Program} {e : Env} {s : State} {m : MethodId} {below : List Frame} {meth : Method} {c : Code} {l : Launch} (hl : l.stackTraces = false) {b L : Nat} {xs : Nat → Int32} (C0 : lw_At p s m meth c b L xs) {G : xe_G} {ρ : Nat → Int32} (hG : xs_G G ρ) (hlen : G.2.2.1.length = L) (hρ : ∀ j, ρ (100 + j) = xs j) {f : Nat} {w : xe_W}
    (hrun : xe_run xe_P G xe_Z f xm_187 xm_187.1 0 [(0, .float 1)] [] [] 0 0 = some (1, .int 1, w)) : W p l e room_1 s m #[Value.ref b] below meth c s.heap [] 0 0 (lw_Z below #[Value.ref b] s) (entryFrame m ([Value.ref b] : List Value).toArray 8) := by
  obtain ⟨hx, hb, hr, hml, hown, hts, hX, hbl, hlocks, hgv, htab⟩ := C0
  have hA : ∀ a : Nat, a < s.heap.size → ¬ (fun q : Nat => s.heap.size ≤ q) a := fun a h => Nat.not_le.mpr h
  have ht : ∀ w ∈ xw_T, w.before #[Value.ref b] s = true := fun w hw => hts w (xw_tb hw)
  obtain ⟨D, dA, hK⟩ := xl_K hts
  obtain ⟨t0, ht0, hSA⟩ := xl_SA hgv hA
  have hs := flat_of_before _ hgv
  have hZ := va_Zof (A := fun q : Nat => s.heap.size ≤ q) (hts (.laysStatic "TingDecks" "SETTING_FIRST" "[I") (by decide +kernel)) (hts (.initialized "TingDecks") (by decide +kernel)) ht0 hA
  have hU := vx_Zqof (A := fun q : Nat => s.heap.size ≤ q) (hts (.laysStatic Bundle.tN "UNASSIGNED_STACK" Bundle.steD) (by decide +kernel)) (hts (.initialized Bundle.tN) (by decide +kernel)) (hs (.isRef (.static Bundle.tN "UNASSIGNED_STACK" Bundle.steD)) (by decide +kernel)) hA
  have hN := vx_Zqof (A := fun q : Nat => s.heap.size ≤ q) (hts (.laysStatic Bundle.tN "SUPPRESSED_SENTINEL" Bundle.listD) (by decide +kernel)) (hts (.initialized Bundle.tN) (by decide +kernel)) (hs (.isRef (.static Bundle.tN "SUPPRESSED_SENTINEL" Bundle.listD)) (by decide +kernel)) hA
  obtain ⟨sa, hsa⟩ : ∃ sa : UInt32 → Nat, sa = fun u => if u = 0 then t0 else b := ⟨_, rfl⟩
  have hs0 : sa 0 = t0 := by rw [hsa]; rfl
  have hs1 : sa 1 = b := by rw [hsa]; rfl
  have hXX : xs_X (xs_Ls G ρ) sa (fun q : Nat => s.heap.size ≤ q) s s.heap := by
    unfold xs_X xs_Ls
    rw [hs0, hs1]
    refine ⟨hZ, hSA, hU, hN, ?_, hA b hbl⟩
    dsimp only
    rw [hlen, show (fun j => ρ (100 + j)) = xs from funext hρ]
    exact hX
  have hl9 := lv_entry ([.ref b]) (n := 8) (Nat.le_of_ble_eq_true rfl)
  rw [lg_entry_eq]
  generalize (lg_sl ([.ref b]) ++ List.replicate (8 - (lg_sl ([.ref b])).length) Slot.unset).toArray = ls at hl9 ⊢
  have hl9 : lv_has ls 8 (xs_al (fun _ => 0) sa ρ [(0, .float 1)]) := by
    show lv_has ls 8 [(0, .ref (sa 1))]
    rw [hs1]; exact hl9
  have q := xs_run (l := l) hall hl hG f 187 xm_187 xd_187 rfl rfl xm_187.1 0 [(0, .float 1)] [] [] 0 0 (1, .int 1, w) (fun _ h => h) hrun p e room_1 s m #[Value.ref b] below meth c s.heap [] ls (fun _ => 0) (fun _ => 0) 0 (fun q : Nat => s.heap.size ≤ q) D dA sa
    ⟨hx, hb, hml, hown, ht, hK, fun _ h => h, hXX, xl_Nw hts hgv, (fun h => by cases h), hlocks⟩ hr (by rw [htab]; rfl) ⟨hl9, fun k q h => by simp [xs_w] at h, ⟨fun i j p q h => by simp [xs_w] at h, fun k q h => by simp [xs_w] at h⟩, va_S.rf⟩ (xs_ag_rf _ _ _) (Nat.le_refl _) (by decide)
  intro T hT X
  obtain ⟨t, a1, a2⟩ := q T hT X
  obtain ⟨o, b1, b2, b3, L9, b4, b5⟩ := (show MQ below (xs_Qc D dA sa ρ (fun _ => 0) 0 xm_187.2.2.2.1 (fun q : Nat => s.heap.size ≤ q) (1, .int 1, w)) #[Value.ref b] s xm_187.2.2.2.1 xm_187.2.2.2.2.1 (fun q : Nat => s.heap.size ≤ q) t from a2)
  obtain ⟨⟨ad', -, -, ho, -⟩, -⟩ := b3
  refine ⟨t, a1, o, b1, b2, ho, b4.1, b4.2.1, ?_⟩
  exact b4.2.2.weaken (fun y hy hlt => absurd (b5 y hy) (Nat.not_le.mpr hlt)) (by decide) (by decide)
end
section
/-! the cases of the script: by the operation, and by ranges of its arguments -/
/-- what the unknowns stand for: the script's numbers from 100 on; below 60 the bytes of a number that is fed, by a shift, as a byte, as a number of 0 to 255; at 90 the operation -/
def xl_rho (xs : Nat → Int32) (u : Nat) : Int32 := if 100 ≤ u then xs (u - 100) else if u < 20 then xe_op 7 (xs (1 + u / 4)) (Int32.ofNat (8 * (u % 4))) else if u < 40 then xe_op 10 (xe_op 7 (xs (1 + (u - 20) / 4)) (Int32.ofNat (8 * ((u - 20) % 4)))) 0 else if u < 60 then xe_op 3 (xe_op 7 (xs (1 + (u - 40) / 4)) (Int32.ofNat (8 * ((u - 40) % 4)))) 255 else xs 0 &&& 63
theorem xl_rho100 (xs : Nat → Int32) (j : Nat) : xl_rho xs (100 + j) = xs j := by
  unfold xl_rho
  rw [if_pos (by omega), Nat.add_sub_cancel_left]
def xl_sdk (xs : Nat → Int32) (q : (Nat × Value × Value) × Value) : Prop := xe_kd 0 q.2 = true ∧ xs_i (xl_rho xs) q.2 = xe_op q.1.1 (xs_i (xl_rho xs) q.1.2.1) (xs_i (xl_rho xs) q.1.2.2)
theorem xl_sd {xs : Nat → Int32} : ∀ (l : List ((Nat × Value × Value) × Value)), (∀ q ∈ l, xl_sdk xs q) → ∀ op a b v, xe_sd l op a b = some v → xe_kd 0 v = true ∧ xs_i (xl_rho xs) v = xe_op op (xs_i (xl_rho xs) a) (xs_i (xl_rho xs) b) := by
  intro l
  induction l with
  | nil => intro _ op a b v h; cases h
  | cons q t ih =>
    intro hq op a b v h
    have h : (if q.1 = (op, a, b) then some q.2 else xe_sd t op a b) = some v := h
    by_cases e : q.1 = (op, a, b)
    · rw [if_pos e] at h
      cases h
      have h1 := hq q List.mem_cons_self
      unfold xl_sdk at h1
      rw [e] at h1
      exact h1
    · rw [if_neg e] at h
      exact ih (fun q' h' => hq q' (List.mem_cons_of_mem _ h')) op a b v h
def xl_in (xs : Nat → Int32) : Nat → List (Int × Int) → Prop
  | _, [] => True
  | j, q :: t => (q.1 ≤ (xs j).toInt ∧ (xs j).toInt ≤ q.2) ∧ xl_in xs (j + 1) t
def xl_ints : Nat → List (Int × Int) → List (Nat × Int × Int)
  | _, [] => []
  | j, q :: t => (100 + j, q.1, q.2) :: xl_ints (j + 1) t
def xl_args : Nat → Nat → List (Int × Int) → List Value
  | _, 0, _ => []
  | j, n + 1, [] => .retAddr (100 + j) :: xl_args (j + 1) n []
  | j, n + 1, q :: t => (if q.1 = q.2 then .int (Int32.ofInt q.1) else .retAddr (100 + j)) :: xl_args (j + 1) n t
def xl_GI (v : Value) (I : List (Int × Int)) : xe_G := (xl_ints 1 I, [((3, .retAddr 100, .int 63), v)], .retAddr 100 :: xl_args 1 5 I, [])
theorem xl_ints_ok {xs : Nat → Int32} : ∀ (I : List (Int × Int)) (j : Nat), xl_in xs j I → ∀ u r, xe_rl (xl_ints j I) u = some r → r.1 ≤ (xl_rho xs u).toInt ∧ (xl_rho xs u).toInt ≤ r.2 := by
  intro I
  induction I with
  | nil => intro j _ u r h; cases h
  | cons q t ih =>
    intro j hI u r h
    have h : (bif Nat.beq (100 + j) u then some (q.1, q.2) else xe_rl (xl_ints (j + 1) t) u) = some r := h
    cases hb : Nat.beq (100 + j) u with
    | true =>
      rw [hb] at h
      cases h
      have e := Nat.eq_of_beq_eq_true hb
      subst e
      rw [xl_rho100]
      exact hI.1
    | false => rw [hb] at h; exact ih (j + 1) hI.2 u r h
theorem xl_args_ok {xs : Nat → Int32} : ∀ (n : Nat) (I : List (Int × Int)) (j : Nat), xl_in xs j I → ∀ i v, (xl_args j n I)[i]? = some v → xe_kd 0 v = true ∧ xs_i (xl_rho xs) v = xl_rho xs (100 + (j + i)) := by
  intro n
  induction n with
  | zero => intro I j _ i v h; simp [xl_args] at h
  | succ n ih =>
    intro I j hI i v h
    cases I with
    | nil =>
      cases i with
      | zero =>
        have e : Value.retAddr (100 + j) = v := by simpa [xl_args] using h
        subst e
        exact ⟨rfl, rfl⟩
      | succ i =>
        have h2 := ih [] (j + 1) trivial i v (by simpa [xl_args] using h)
        rw [show j + (i + 1) = j + 1 + i by omega]
        exact h2
    | cons q t =>
      cases i with
      | zero =>
        have e : (if q.1 = q.2 then Value.int (Int32.ofInt q.1) else .retAddr (100 + j)) = v := by simpa [xl_args] using h
        by_cases hq : q.1 = q.2
        · rw [if_pos hq] at e
          subst e
          refine ⟨rfl, ?_⟩
          show Int32.ofInt q.1 = xl_rho xs (100 + (j + 0))
          rw [Nat.add_zero, xl_rho100]
          have h1 := hI.1
          have h2 : (xs j).toInt = q.1 := by omega
          rw [← h2]
          exact Int32.ofInt_toInt _
        · rw [if_neg hq] at e
          subst e
          exact ⟨rfl, rfl⟩
      | succ i =>
        have h2 := ih t (j + 1) hI.2 i v (by simpa [xl_args] using h)
        rw [show j + (i + 1) = j + 1 + i by omega]
        exact h2
theorem xl_scr {xs : Nat → Int32} {as : List Value} (h : ∀ i v, as[i]? = some v → xe_kd 0 v = true ∧ xs_i (xl_rho xs) v = xl_rho xs (100 + (1 + i))) : ∀ j v, (Value.retAddr 100 :: as)[j]? = some v → xe_kd 0 v = true ∧ xs_i (xl_rho xs) v = xl_rho xs (100 + j) := by
  intro j v hv
  cases j with
  | zero =>
    have e : Value.retAddr 100 = v := by simpa using hv
    subst e
    exact ⟨rfl, rfl⟩
  | succ j =>
    have h2 := h j v (by simpa using hv)
    rw [show 1 + j = j + 1 by omega] at h2
    exact h2
theorem xl_GI_ok {xs : Nat → Int32} {v : Value} {I : List (Int × Int)} (hk : xe_kd 0 v = true) (hop : xs_i (xl_rho xs) v = xs 0 &&& 63) (hI : xl_in xs 1 I) : xs_G (xl_GI v I) (xl_rho xs) := by
  refine ⟨xl_ints_ok I 1 hI, xl_sd _ (fun q hq => ?_), (fun u hu => by cases hu), xl_scr (xl_args_ok 5 I 1 hI)⟩
  have e := List.mem_singleton.mp hq
  subst e
  refine ⟨hk, ?_⟩
  show xs_i (xl_rho xs) v = xe_op 3 (xl_rho xs 100) 63
  rw [hop, xl_rho100 xs 0]
  rfl
noncomputable def xl_run (G : xe_G) : Option xe_R := xe_run xe_P G xe_Z 100000 xm_187 xm_187.1 0 [(0, .float 1)] [] [] 0 0
def xl_is (r : Option xe_R) : Bool := match r with
  | some (1, .int x, _) => decide (x = 1)
  | _ => false
theorem xl_is_ok {r : Option xe_R} (h : xl_is r = true) : ∃ w, r = some (1, .int 1, w) := by
  unfold xl_is at h
  split at h
  · next x w =>
    rw [decide_eq_true_eq] at h
    subst h
    exact ⟨w, rfl⟩
  · cases h
/-- the law's answer, as it is owed -/
def xl_Goal (xs : Nat → Int32) (L : Nat) : Prop := ∀ (p : Program) (e : Env) (s : State) (m : MethodId) (below : List Frame) (meth : Method) (c : Code) (l : Launch) (b : Nat), l.stackTraces = false → lw_At p s m meth c b L xs → W p l e room_1 s m #[Value.ref b] below meth c s.heap [] 0 0 (lw_Z below #[Value.ref b] s) (entryFrame m ([Value.ref b] : List Value).toArray 8)
theorem xl_any {xs : Nat → Int32} {G : xe_G} {L : Nat} (hG : xs_G G (xl_rho xs)) (hlen : G.2.2.1.length = L) (h : xl_is (xl_run G) = true) : xl_Goal xs L := by
  intro p e s m below meth c l b hl C0
  obtain ⟨w, hw⟩ := xl_is_ok h
  exact xl_go xk_all hl C0 hG hlen (xl_rho100 xs) hw
theorem xl_argl : ∀ (n j : Nat) (I : List (Int × Int)), (xl_args j n I).length = n := by
  intro n
  induction n with
  | zero => intro j I; rfl
  | succ n ih =>
    intro j I
    cases I with
    | nil => show (xl_args (j + 1) n []).length + 1 = n + 1; rw [ih]
    | cons q t => show (xl_args (j + 1) n t).length + 1 = n + 1; rw [ih]
theorem xl_app {xs : Nat → Int32} {n : Nat} (hop : xs 0 &&& 63 = Int32.ofNat n) (I : List (Int × Int)) (hI : xl_in xs 1 I) (h : xl_is (xl_run (xl_GI (.int (Int32.ofNat n)) I)) = true) : xl_Goal xs 6 :=
  xl_any (xl_GI_ok (v := .int (Int32.ofNat n)) rfl hop.symm hI) (by show (xl_args 1 5 I).length + 1 = 6; rw [xl_argl]) h
theorem xl_lo (x : Int32) : -2147483648 ≤ x.toInt := Int32.le_toInt x
theorem xl_hi (x : Int32) : x.toInt ≤ 2147483647 := by have := Int32.toInt_lt x; omega
/-- scripts that are too short for a call -/
def xl_G0 (L : Nat) : xe_G := ([], [], (List.range L).map (fun j => .retAddr (100 + j)), [])
theorem xl_G0_ok (xs : Nat → Int32) (L : Nat) : xs_G (xl_G0 L) (xl_rho xs) := by
  refine ⟨(fun u r h => by cases h), (fun op a b v h => by cases h), (fun u hu => by cases hu), fun j v h => ?_⟩
  have h : ((List.range L).map (fun j => Value.retAddr (100 + j)))[j]? = some v := h
  rw [List.getElem?_map] at h
  obtain ⟨k, hk, e⟩ := Option.map_eq_some_iff.mp h
  have e2 : k = j := by
    have := List.getElem?_eq_some_iff.mp hk
    obtain ⟨h1, h2⟩ := this
    simpa using h2.symm
  subst e; subst e2
  exact ⟨rfl, rfl⟩
end
section
/-! the leaves' grounds: boxes of the arguments, numbers that are fed, operations that there are not -/
theorem xl_in0 {xs : Nat → Int32} : xl_in xs 1 [] := trivial
theorem xl_in1 {xs : Nat → Int32} {a b : Int} (h1 : a ≤ (xs 1).toInt) (h2 : (xs 1).toInt ≤ b) : xl_in xs 1 [(a, b)] := ⟨⟨h1, h2⟩, trivial⟩
theorem xl_in2 {xs : Nat → Int32} {a b a2 b2 : Int} (h1 : a ≤ (xs 1).toInt) (h2 : (xs 1).toInt ≤ b) (h3 : a2 ≤ (xs 2).toInt) (h4 : (xs 2).toInt ≤ b2) : xl_in xs 1 [(a, b), (a2, b2)] := ⟨⟨h1, h2⟩, ⟨h3, h4⟩, trivial⟩
theorem xl_in3 {xs : Nat → Int32} {a b a2 b2 a3 b3 : Int} (h1 : a ≤ (xs 1).toInt) (h2 : (xs 1).toInt ≤ b) (h3 : a2 ≤ (xs 2).toInt) (h4 : (xs 2).toInt ≤ b2) (h5 : a3 ≤ (xs 3).toInt) (h6 : (xs 3).toInt ≤ b3) : xl_in xs 1 [(a, b), (a2, b2), (a3, b3)] := ⟨⟨h1, h2⟩, ⟨h3, h4⟩, ⟨h5, h6⟩, trivial⟩
def xl_GX (v : Value) (I : List (Int × Int)) (S : List ((Nat × Value × Value) × Value)) : xe_G := (xl_ints 1 I, ((3, .retAddr 100, .int 63), v) :: S, .retAddr 100 :: xl_args 1 5 I, [])
def xl_SS : List ((Nat × Value × Value) × Value) := [((3, .retAddr 101, .int (-1)), .retAddr 101)]
theorem xl_opk {xs : Nat → Int32} {v : Value} (hk : xe_kd 0 v = true) (hop : xs_i (xl_rho xs) v = xs 0 &&& 63) : xl_sdk xs ((3, .retAddr 100, .int 63), v) := by
  refine ⟨hk, ?_⟩
  show xs_i (xl_rho xs) v = xe_op 3 (xl_rho xs 100) 63
  rw [hop, xl_rho100 xs 0]
  rfl
theorem xl_GX_ok {xs : Nat → Int32} {v : Value} {I : List (Int × Int)} {S : List ((Nat × Value × Value) × Value)} (hk : xe_kd 0 v = true) (hop : xs_i (xl_rho xs) v = xs 0 &&& 63) (hI : xl_in xs 1 I) (hS : ∀ q ∈ S, xl_sdk xs q) : xs_G (xl_GX v I S) (xl_rho xs) := by
  refine ⟨xl_ints_ok I 1 hI, xl_sd _ (fun q hq => ?_), (fun u hu => by cases hu), xl_scr (xl_args_ok 5 I 1 hI)⟩
  rcases List.mem_cons.mp hq with e | e
  · subst e
    exact xl_opk hk hop
  · exact hS q e
theorem xl_SS_ok (xs : Nat → Int32) : ∀ q ∈ xl_SS, xl_sdk xs q := by
  intro q hq
  have e := List.mem_singleton.mp hq
  subst e
  refine ⟨rfl, ?_⟩
  show xl_rho xs 101 = xl_rho xs 101 &&& (-1)
  rw [Int32.and_neg_one]
theorem xl_appS {xs : Nat → Int32} {n : Nat} (hop : xs 0 &&& 63 = Int32.ofNat n) (I : List (Int × Int)) (hI : xl_in xs 1 I) (h : xl_is (xl_run (xl_GX (.int (Int32.ofNat n)) I xl_SS)) = true) : xl_Goal xs 6 :=
  xl_any (xl_GX_ok (v := .int (Int32.ofNat n)) rfl hop.symm hI (xl_SS_ok xs)) (by show (xl_args 1 5 I).length + 1 = 6; rw [xl_argl]) h
/-- what is fed -/
def xl_SF : List ((Nat × Value × Value) × Value) := [((7, .retAddr 101, .int 0), .retAddr 0), ((7, .retAddr 101, .int 8), .retAddr 1), ((7, .retAddr 101, .int 16), .retAddr 2), ((7, .retAddr 101, .int 24), .retAddr 3), ((7, .retAddr 102, .int 0), .retAddr 4), ((7, .retAddr 102, .int 8), .retAddr 5), ((7, .retAddr 102, .int 16), .retAddr 6), ((7, .retAddr 102, .int 24), .retAddr 7), ((7, .retAddr 103, .int 0), .retAddr 8), ((7, .retAddr 103, .int 8), .retAddr 9), ((7, .retAddr 103, .int 16), .retAddr 10), ((7, .retAddr 103, .int 24), .retAddr 11), ((7, .retAddr 104, .int 0), .retAddr 12), ((7, .retAddr 104, .int 8), .retAddr 13), ((7, .retAddr 104, .int 16), .retAddr 14), ((7, .retAddr 104, .int 24), .retAddr 15), ((7, .retAddr 105, .int 0), .retAddr 16), ((7, .retAddr 105, .int 8), .retAddr 17), ((7, .retAddr 105, .int 16), .retAddr 18), ((7, .retAddr 105, .int 24), .retAddr 19), ((10, .retAddr 0, .int 0), .retAddr 20), ((10, .retAddr 1, .int 0), .retAddr 21), ((10, .retAddr 2, .int 0), .retAddr 22), ((10, .retAddr 3, .int 0), .retAddr 23), ((10, .retAddr 4, .int 0), .retAddr 24), ((10, .retAddr 5, .int 0), .retAddr 25), ((10, .retAddr 6, .int 0), .retAddr 26), ((10, .retAddr 7, .int 0), .retAddr 27), ((10, .retAddr 8, .int 0), .retAddr 28), ((10, .retAddr 9, .int 0), .retAddr 29), ((10, .retAddr 10, .int 0), .retAddr 30), ((10, .retAddr 11, .int 0), .retAddr 31), ((10, .retAddr 12, .int 0), .retAddr 32), ((10, .retAddr 13, .int 0), .retAddr 33), ((10, .retAddr 14, .int 0), .retAddr 34), ((10, .retAddr 15, .int 0), .retAddr 35), ((10, .retAddr 16, .int 0), .retAddr 36), ((10, .retAddr 17, .int 0), .retAddr 37), ((10, .retAddr 18, .int 0), .retAddr 38), ((10, .retAddr 19, .int 0), .retAddr 39), ((3, .retAddr 0, .int 255), .retAddr 40), ((3, .retAddr 1, .int 255), .retAddr 41), ((3, .retAddr 2, .int 255), .retAddr 42), ((3, .retAddr 3, .int 255), .retAddr 43), ((3, .retAddr 4, .int 255), .retAddr 44), ((3, .retAddr 5, .int 255), .retAddr 45), ((3, .retAddr 6, .int 255), .retAddr 46), ((3, .retAddr 7, .int 255), .retAddr 47), ((3, .retAddr 8, .int 255), .retAddr 48), ((3, .retAddr 9, .int 255), .retAddr 49), ((3, .retAddr 10, .int 255), .retAddr 50), ((3, .retAddr 11, .int 255), .retAddr 51), ((3, .retAddr 12, .int 255), .retAddr 52), ((3, .retAddr 13, .int 255), .retAddr 53), ((3, .retAddr 14, .int 255), .retAddr 54), ((3, .retAddr 15, .int 255), .retAddr 55), ((3, .retAddr 16, .int 255), .retAddr 56), ((3, .retAddr 17, .int 255), .retAddr 57), ((3, .retAddr 18, .int 255), .retAddr 58), ((3, .retAddr 19, .int 255), .retAddr 59)]
def xl_GF : xe_G := ([], ((3, .retAddr 100, .int 63), .int 0) :: xl_SF, (List.range 6).map (fun j => .retAddr (100 + j)), [20, 21, 22, 23, 24, 25, 26, 27, 28, 29, 30, 31, 32, 33, 34, 35, 36, 37, 38, 39])
theorem xl_sh (xs : Nat → Int32) (u : Nat) (h : u < 20) : xl_rho xs u = xe_op 7 (xs (1 + u / 4)) (Int32.ofNat (8 * (u % 4))) := by
  unfold xl_rho
  rw [if_neg (by omega), if_pos h]
theorem xl_by (xs : Nat → Int32) (u : Nat) (h : u < 20) : xl_rho xs (20 + u) = xe_op 10 (xl_rho xs u) 0 := by
  rw [xl_sh xs u h]
  unfold xl_rho
  rw [if_neg (by omega), if_neg (by omega), if_pos (by omega), Nat.add_sub_cancel_left]
theorem xl_ub (xs : Nat → Int32) (u : Nat) (h : u < 20) : xl_rho xs (40 + u) = xe_op 3 (xl_rho xs u) 255 := by
  rw [xl_sh xs u h]
  unfold xl_rho
  rw [if_neg (by omega), if_neg (by omega), if_neg (by omega), if_pos (by omega), Nat.add_sub_cancel_left]
theorem xl_SF_ok (xs : Nat → Int32) : ∀ q ∈ xl_SF, xl_sdk xs q := by
  intro q hq
  simp only [xl_SF, List.mem_cons, List.not_mem_nil, or_false] at hq
  rcases hq with rfl | rfl | rfl | rfl | rfl | rfl | rfl | rfl | rfl | rfl | rfl | rfl | rfl | rfl | rfl | rfl | rfl | rfl | rfl | rfl | rfl | rfl | rfl | rfl | rfl | rfl | rfl | rfl | rfl | rfl | rfl | rfl | rfl | rfl | rfl | rfl | rfl | rfl | rfl | rfl | rfl | rfl | rfl | rfl | rfl | rfl | rfl | rfl | rfl | rfl | rfl | rfl | rfl | rfl | rfl | rfl | rfl | rfl | rfl | rfl
  · exact ⟨rfl, rfl⟩
  · exact ⟨rfl, rfl⟩
  · exact ⟨rfl, rfl⟩
  · exact ⟨rfl, rfl⟩
  · exact ⟨rfl, rfl⟩
  · exact ⟨rfl, rfl⟩
  · exact ⟨rfl, rfl⟩
  · exact ⟨rfl, rfl⟩
  · exact ⟨rfl, rfl⟩
  · exact ⟨rfl, rfl⟩
  · exact ⟨rfl, rfl⟩
  · exact ⟨rfl, rfl⟩
  · exact ⟨rfl, rfl⟩
  · exact ⟨rfl, rfl⟩
  · exact ⟨rfl, rfl⟩
  · exact ⟨rfl, rfl⟩
  · exact ⟨rfl, rfl⟩
  · exact ⟨rfl, rfl⟩
  · exact ⟨rfl, rfl⟩
  · exact ⟨rfl, rfl⟩
  · exact ⟨rfl, xl_by xs 0 (by decide)⟩
  · exact ⟨rfl, xl_by xs 1 (by decide)⟩
  · exact ⟨rfl, xl_by xs 2 (by decide)⟩
  · exact ⟨rfl, xl_by xs 3 (by decide)⟩
  · exact ⟨rfl, xl_by xs 4 (by decide)⟩
  · exact ⟨rfl, xl_by xs 5 (by decide)⟩
  · exact ⟨rfl, xl_by xs 6 (by decide)⟩
  · exact ⟨rfl, xl_by xs 7 (by decide)⟩
  · exact ⟨rfl, xl_by xs 8 (by decide)⟩
  · exact ⟨rfl, xl_by xs 9 (by decide)⟩
  · exact ⟨rfl, xl_by xs 10 (by decide)⟩
  · exact ⟨rfl, xl_by xs 11 (by decide)⟩
  · exact ⟨rfl, xl_by xs 12 (by decide)⟩
  · exact ⟨rfl, xl_by xs 13 (by decide)⟩
  · exact ⟨rfl, xl_by xs 14 (by decide)⟩
  · exact ⟨rfl, xl_by xs 15 (by decide)⟩
  · exact ⟨rfl, xl_by xs 16 (by decide)⟩
  · exact ⟨rfl, xl_by xs 17 (by decide)⟩
  · exact ⟨rfl, xl_by xs 18 (by decide)⟩
  · exact ⟨rfl, xl_by xs 19 (by decide)⟩
  · exact ⟨rfl, xl_ub xs 0 (by decide)⟩
  · exact ⟨rfl, xl_ub xs 1 (by decide)⟩
  · exact ⟨rfl, xl_ub xs 2 (by decide)⟩
  · exact ⟨rfl, xl_ub xs 3 (by decide)⟩
  · exact ⟨rfl, xl_ub xs 4 (by decide)⟩
  · exact ⟨rfl, xl_ub xs 5 (by decide)⟩
  · exact ⟨rfl, xl_ub xs 6 (by decide)⟩
  · exact ⟨rfl, xl_ub xs 7 (by decide)⟩
  · exact ⟨rfl, xl_ub xs 8 (by decide)⟩
  · exact ⟨rfl, xl_ub xs 9 (by decide)⟩
  · exact ⟨rfl, xl_ub xs 10 (by decide)⟩
  · exact ⟨rfl, xl_ub xs 11 (by decide)⟩
  · exact ⟨rfl, xl_ub xs 12 (by decide)⟩
  · exact ⟨rfl, xl_ub xs 13 (by decide)⟩
  · exact ⟨rfl, xl_ub xs 14 (by decide)⟩
  · exact ⟨rfl, xl_ub xs 15 (by decide)⟩
  · exact ⟨rfl, xl_ub xs 16 (by decide)⟩
  · exact ⟨rfl, xl_ub xs 17 (by decide)⟩
  · exact ⟨rfl, xl_ub xs 18 (by decide)⟩
  · exact ⟨rfl, xl_ub xs 19 (by decide)⟩
theorem xl_nar (x : Int32) : vp_nar .byte (xe_op 10 x 0) = xe_op 10 x 0 := by
  show (x.toInt8.toInt32).toInt8.toInt32 = x.toInt8.toInt32
  rw [Int8.toInt8_toInt32]
theorem xl_GF_ok {xs : Nat → Int32} (hop : xs 0 &&& 63 = Int32.ofNat 0) : xs_G xl_GF (xl_rho xs) := by
  refine ⟨(fun u r h => by cases h), xl_sd _ (fun q hq => ?_), (fun u hu => ?_), (xl_G0_ok xs 6).2.2.2⟩
  · rcases List.mem_cons.mp hq with e | e
    · subst e
      exact xl_opk rfl hop.symm
    · exact xl_SF_ok xs q e
  · have h2 : ∀ u ∈ xl_GF.2.2.2, 20 ≤ u ∧ u < 40 := by decide
    obtain ⟨h3, h4⟩ := h2 u hu
    obtain ⟨k, rfl⟩ : ∃ k, u = 20 + k := ⟨u - 20, by omega⟩
    rw [xl_by xs k (by omega)]
    exact xl_nar _
/-- no such operation -/
def xl_GD : xe_G := ([(90, 37, 63)], [((3, .retAddr 100, .int 63), .retAddr 90)], (List.range 6).map (fun j => .retAddr (100 + j)), [])
theorem xl_GD_ok {xs : Nat → Int32} (h1 : 37 ≤ (xs 0 &&& 63).toInt) (h2 : (xs 0 &&& 63).toInt ≤ 63) : xs_G xl_GD (xl_rho xs) := by
  have e90 : xl_rho xs 90 = xs 0 &&& 63 := rfl
  refine ⟨(fun u r h => ?_), xl_sd _ (fun q hq => ?_), (fun u hu => by cases hu), (xl_G0_ok xs 6).2.2.2⟩
  · have h : (bif Nat.beq 90 u then some (37, 63) else none) = some r := h
    cases hb : Nat.beq 90 u with
    | true =>
      rw [hb] at h
      cases h
      rw [← Nat.eq_of_beq_eq_true hb, e90]
      exact ⟨h1, h2⟩
    | false => rw [hb] at h; cases h
  · have e := List.mem_singleton.mp hq
    subst e
    exact xl_opk rfl e90
end
section
/-! the leaves: short runs -/
theorem xl_tF : xl_is (xl_run xl_GF) = true := by decide +kernel
theorem xl_tD : xl_is (xl_run xl_GD) = true := by decide +kernel
theorem xl_tS0 : xl_is (xl_run (xl_G0 0)) = true := by decide +kernel
theorem xl_tS1 : xl_is (xl_run (xl_G0 1)) = true := by decide +kernel
theorem xl_tS2 : xl_is (xl_run (xl_G0 2)) = true := by decide +kernel
theorem xl_tS3 : xl_is (xl_run (xl_G0 3)) = true := by decide +kernel
theorem xl_tS4 : xl_is (xl_run (xl_G0 4)) = true := by decide +kernel
theorem xl_tS5 : xl_is (xl_run (xl_G0 5)) = true := by decide +kernel
theorem xl_t0 : xl_is (xl_run (xl_GI (.int (Int32.ofNat 1)) [((-2147483648), (-1))])) = true := by decide +kernel
theorem xl_t2 : xl_is (xl_run (xl_GI (.int (Int32.ofNat 1)) [(1, 2147483647)])) = true := by decide +kernel
theorem xl_t3 : xl_is (xl_run (xl_GI (.int (Int32.ofNat 2)) [])) = true := by decide +kernel
theorem xl_t4 : xl_is (xl_run (xl_GI (.int (Int32.ofNat 3)) [((-2147483648), (-1))])) = true := by decide +kernel
theorem xl_t5 : xl_is (xl_run (xl_GI (.int (Int32.ofNat 3)) [(0, 0)])) = true := by decide +kernel
theorem xl_t6 : xl_is (xl_run (xl_GI (.int (Int32.ofNat 3)) [(1, 1)])) = true := by decide +kernel
theorem xl_t7 : xl_is (xl_run (xl_GI (.int (Int32.ofNat 3)) [(2, 2)])) = true := by decide +kernel
theorem xl_t8 : xl_is (xl_run (xl_GI (.int (Int32.ofNat 3)) [(3, 3)])) = true := by decide +kernel
theorem xl_t9 : xl_is (xl_run (xl_GI (.int (Int32.ofNat 3)) [(4, 4)])) = true := by decide +kernel
theorem xl_t10 : xl_is (xl_run (xl_GI (.int (Int32.ofNat 3)) [(5, 5)])) = true := by decide +kernel
theorem xl_t11 : xl_is (xl_run (xl_GI (.int (Int32.ofNat 3)) [(6, 6)])) = true := by decide +kernel
theorem xl_t12 : xl_is (xl_run (xl_GI (.int (Int32.ofNat 3)) [(7, 7)])) = true := by decide +kernel
theorem xl_t13 : xl_is (xl_run (xl_GI (.int (Int32.ofNat 3)) [(8, 8)])) = true := by decide +kernel
theorem xl_t14 : xl_is (xl_run (xl_GI (.int (Int32.ofNat 3)) [(9, 9)])) = true := by decide +kernel
theorem xl_t15 : xl_is (xl_run (xl_GI (.int (Int32.ofNat 3)) [(10, 10)])) = true := by decide +kernel
theorem xl_t16 : xl_is (xl_run (xl_GI (.int (Int32.ofNat 3)) [(11, 11)])) = true := by decide +kernel
theorem xl_t17 : xl_is (xl_run (xl_GI (.int (Int32.ofNat 3)) [(12, 12)])) = true := by decide +kernel
theorem xl_t18 : xl_is (xl_run (xl_GI (.int (Int32.ofNat 3)) [(13, 13)])) = true := by decide +kernel
theorem xl_t19 : xl_is (xl_run (xl_GI (.int (Int32.ofNat 3)) [(14, 14)])) = true := by decide +kernel
theorem xl_t20 : xl_is (xl_run (xl_GI (.int (Int32.ofNat 3)) [(15, 15)])) = true := by decide +kernel
theorem xl_t21 : xl_is (xl_run (xl_GI (.int (Int32.ofNat 3)) [(16, 16)])) = true := by decide +kernel
theorem xl_t22 : xl_is (xl_run (xl_GI (.int (Int32.ofNat 3)) [(17, 17)])) = true := by decide +kernel
theorem xl_t23 : xl_is (xl_run (xl_GI (.int (Int32.ofNat 3)) [(18, 2147483647)])) = true := by decide +kernel
theorem xl_t24 : xl_is (xl_run (xl_GI (.int (Int32.ofNat 4)) [((-2147483648), (-1)), ((-2147483648), 2147483647)])) = true := by decide +kernel
theorem xl_t25 : xl_is (xl_run (xl_GI (.int (Int32.ofNat 4)) [(0, 0), ((-2147483648), (-1))])) = true := by decide +kernel
theorem xl_t26 : xl_is (xl_run (xl_GI (.int (Int32.ofNat 4)) [(0, 0), (0, 0)])) = true := by decide +kernel
theorem xl_t27 : xl_is (xl_run (xl_GI (.int (Int32.ofNat 4)) [(0, 0), (1, 1)])) = true := by decide +kernel
theorem xl_t28 : xl_is (xl_run (xl_GI (.int (Int32.ofNat 4)) [(0, 0), (2, 2)])) = true := by decide +kernel
theorem xl_t29 : xl_is (xl_run (xl_GI (.int (Int32.ofNat 4)) [(0, 0), (3, 3)])) = true := by decide +kernel
theorem xl_t30 : xl_is (xl_run (xl_GI (.int (Int32.ofNat 4)) [(0, 0), (4, 2147483647)])) = true := by decide +kernel
theorem xl_t31 : xl_is (xl_run (xl_GI (.int (Int32.ofNat 4)) [(1, 1), ((-2147483648), (-1))])) = true := by decide +kernel
theorem xl_t32 : xl_is (xl_run (xl_GI (.int (Int32.ofNat 4)) [(1, 1), (0, 0)])) = true := by decide +kernel
theorem xl_t33 : xl_is (xl_run (xl_GI (.int (Int32.ofNat 4)) [(1, 1), (1, 1)])) = true := by decide +kernel
theorem xl_t34 : xl_is (xl_run (xl_GI (.int (Int32.ofNat 4)) [(1, 1), (2, 2)])) = true := by decide +kernel
theorem xl_t35 : xl_is (xl_run (xl_GI (.int (Int32.ofNat 4)) [(1, 1), (3, 3)])) = true := by decide +kernel
theorem xl_t36 : xl_is (xl_run (xl_GI (.int (Int32.ofNat 4)) [(1, 1), (4, 2147483647)])) = true := by decide +kernel
theorem xl_t37 : xl_is (xl_run (xl_GI (.int (Int32.ofNat 4)) [(2, 2147483647), ((-2147483648), 2147483647)])) = true := by decide +kernel
theorem xl_t38 : xl_is (xl_run (xl_GI (.int (Int32.ofNat 5)) [((-2147483648), (-1)), ((-2147483648), 2147483647)])) = true := by decide +kernel
theorem xl_t39 : xl_is (xl_run (xl_GI (.int (Int32.ofNat 5)) [(0, 2147483647), ((-2147483648), 2147483647)])) = true := by decide +kernel
theorem xl_t40 : xl_is (xl_run (xl_GI (.int (Int32.ofNat 6)) [((-2147483648), (-1)), ((-2147483648), 2147483647)])) = true := by decide +kernel
theorem xl_t41 : xl_is (xl_run (xl_GI (.int (Int32.ofNat 6)) [(0, 2147483647), ((-2147483648), 2147483647)])) = true := by decide +kernel
theorem xl_t42 : xl_is (xl_run (xl_GI (.int (Int32.ofNat 7)) [((-2147483648), (-1)), ((-2147483648), 2147483647)])) = true := by decide +kernel
theorem xl_t43 : xl_is (xl_run (xl_GI (.int (Int32.ofNat 7)) [(0, 2147483647), ((-2147483648), 2147483647)])) = true := by decide +kernel
theorem xl_t44 : xl_is (xl_run (xl_GI (.int (Int32.ofNat 8)) [((-2147483648), (-1))])) = true := by decide +kernel
theorem xl_t45 : xl_is (xl_run (xl_GI (.int (Int32.ofNat 8)) [(0, 60)])) = true := by decide +kernel
theorem xl_t46 : xl_is (xl_run (xl_GI (.int (Int32.ofNat 8)) [(61, 2147483647)])) = true := by decide +kernel
theorem xl_t47 : xl_is (xl_run (xl_GI (.int (Int32.ofNat 9)) [((-2147483648), (-1)), ((-2147483648), 2147483647)])) = true := by decide +kernel
theorem xl_t48 : xl_is (xl_run (xl_GI (.int (Int32.ofNat 9)) [(0, 0), ((-2147483648), (-1))])) = true := by decide +kernel
theorem xl_t49 : xl_is (xl_run (xl_GI (.int (Int32.ofNat 9)) [(0, 0), (0, 60)])) = true := by decide +kernel
theorem xl_t50 : xl_is (xl_run (xl_GI (.int (Int32.ofNat 9)) [(0, 0), (61, 2147483647)])) = true := by decide +kernel
theorem xl_t51 : xl_is (xl_run (xl_GI (.int (Int32.ofNat 9)) [(1, 1), ((-2147483648), (-1))])) = true := by decide +kernel
theorem xl_t52 : xl_is (xl_run (xl_GI (.int (Int32.ofNat 9)) [(1, 1), (0, 60)])) = true := by decide +kernel
theorem xl_t53 : xl_is (xl_run (xl_GI (.int (Int32.ofNat 9)) [(1, 1), (61, 2147483647)])) = true := by decide +kernel
theorem xl_t54 : xl_is (xl_run (xl_GI (.int (Int32.ofNat 9)) [(2, 2147483647), ((-2147483648), 2147483647)])) = true := by decide +kernel
theorem xl_t55 : xl_is (xl_run (xl_GI (.int (Int32.ofNat 10)) [((-2147483648), (-1)), ((-2147483648), 2147483647), ((-2147483648), 2147483647)])) = true := by decide +kernel
theorem xl_t56 : xl_is (xl_run (xl_GI (.int (Int32.ofNat 10)) [(0, 2147483647), ((-2147483648), 2147483647), ((-2147483648), 2147483647)])) = true := by decide +kernel
theorem xl_t57 : xl_is (xl_run (xl_GI (.int (Int32.ofNat 11)) [((-2147483648), (-2))])) = true := by decide +kernel
theorem xl_t58 : xl_is (xl_run (xl_GI (.int (Int32.ofNat 11)) [((-1), (-1))])) = true := by decide +kernel
theorem xl_t59 : xl_is (xl_run (xl_GI (.int (Int32.ofNat 11)) [(0, 2147483647)])) = true := by decide +kernel
theorem xl_t60 : xl_is (xl_run (xl_GI (.int (Int32.ofNat 12)) [])) = true := by decide +kernel
theorem xl_t61 : xl_is (xl_run (xl_GI (.int (Int32.ofNat 13)) [((-2147483648), (-1))])) = true := by decide +kernel
theorem xl_t62 : xl_is (xl_run (xl_GI (.int (Int32.ofNat 13)) [(0, 0)])) = true := by decide +kernel
theorem xl_t63 : xl_is (xl_run (xl_GI (.int (Int32.ofNat 13)) [(1, 1)])) = true := by decide +kernel
theorem xl_t64 : xl_is (xl_run (xl_GI (.int (Int32.ofNat 13)) [(2, 2147483647)])) = true := by decide +kernel
theorem xl_t65 : xl_is (xl_run (xl_GI (.int (Int32.ofNat 14)) [((-2147483648), (-2))])) = true := by decide +kernel
theorem xl_t66 : xl_is (xl_run (xl_GI (.int (Int32.ofNat 14)) [((-1), (-1))])) = true := by decide +kernel
theorem xl_t67 : xl_is (xl_run (xl_GI (.int (Int32.ofNat 14)) [(0, 2147483647)])) = true := by decide +kernel
theorem xl_t68 : xl_is (xl_run (xl_GI (.int (Int32.ofNat 15)) [])) = true := by decide +kernel
theorem xl_t69 : xl_is (xl_run (xl_GI (.int (Int32.ofNat 16)) [((-2147483648), (-1)), ((-2147483648), 2147483647)])) = true := by decide +kernel
theorem xl_t70 : xl_is (xl_run (xl_GI (.int (Int32.ofNat 16)) [(0, 0), ((-2147483648), (-1))])) = true := by decide +kernel
theorem xl_t73 : xl_is (xl_run (xl_GI (.int (Int32.ofNat 16)) [(0, 0), (2, 2147483647)])) = true := by decide +kernel
theorem xl_t74 : xl_is (xl_run (xl_GI (.int (Int32.ofNat 16)) [(1, 1), ((-2147483648), (-1))])) = true := by decide +kernel
theorem xl_t77 : xl_is (xl_run (xl_GI (.int (Int32.ofNat 16)) [(1, 1), (2, 2147483647)])) = true := by decide +kernel
theorem xl_t78 : xl_is (xl_run (xl_GI (.int (Int32.ofNat 16)) [(2, 2147483647), ((-2147483648), 2147483647)])) = true := by decide +kernel
theorem xl_t79 : xl_is (xl_run (xl_GI (.int (Int32.ofNat 17)) [((-2147483648), (-1))])) = true := by decide +kernel
theorem xl_t80 : xl_is (xl_run (xl_GI (.int (Int32.ofNat 17)) [(0, 0)])) = true := by decide +kernel
theorem xl_t81 : xl_is (xl_run (xl_GI (.int (Int32.ofNat 17)) [(1, 1)])) = true := by decide +kernel
theorem xl_t82 : xl_is (xl_run (xl_GI (.int (Int32.ofNat 17)) [(2, 2)])) = true := by decide +kernel
theorem xl_t83 : xl_is (xl_run (xl_GI (.int (Int32.ofNat 17)) [(3, 2147483647)])) = true := by decide +kernel
theorem xl_t84 : xl_is (xl_run (xl_GI (.int (Int32.ofNat 18)) [((-2147483648), (-1))])) = true := by decide +kernel
theorem xl_t85 : xl_is (xl_run (xl_GI (.int (Int32.ofNat 18)) [(0, 0)])) = true := by decide +kernel
theorem xl_t86 : xl_is (xl_run (xl_GI (.int (Int32.ofNat 18)) [(1, 1)])) = true := by decide +kernel
theorem xl_t87 : xl_is (xl_run (xl_GI (.int (Int32.ofNat 18)) [(2, 2147483647)])) = true := by decide +kernel
theorem xl_t88 : xl_is (xl_run (xl_GI (.int (Int32.ofNat 19)) [])) = true := by decide +kernel
theorem xl_t89 : xl_is (xl_run (xl_GI (.int (Int32.ofNat 20)) [((-2147483648), (-1))])) = true := by decide +kernel
theorem xl_t90 : xl_is (xl_run (xl_GI (.int (Int32.ofNat 20)) [(0, 12)])) = true := by decide +kernel
theorem xl_t91 : xl_is (xl_run (xl_GI (.int (Int32.ofNat 20)) [(13, 2147483647)])) = true := by decide +kernel
theorem xl_t92 : xl_is (xl_run (xl_GI (.int (Int32.ofNat 21)) [((-2147483648), (-1))])) = true := by decide +kernel
theorem xl_t93 : xl_is (xl_run (xl_GI (.int (Int32.ofNat 21)) [(0, 0)])) = true := by decide +kernel
theorem xl_t94 : xl_is (xl_run (xl_GI (.int (Int32.ofNat 21)) [(1, 1)])) = true := by decide +kernel
theorem xl_t95 : xl_is (xl_run (xl_GI (.int (Int32.ofNat 21)) [(2, 2147483647)])) = true := by decide +kernel
theorem xl_t96 : xl_is (xl_run (xl_GI (.int (Int32.ofNat 22)) [((-2147483648), (-1)), ((-2147483648), 2147483647), ((-2147483648), 2147483647)])) = true := by decide +kernel
theorem xl_t97 : xl_is (xl_run (xl_GI (.int (Int32.ofNat 22)) [(0, 0), ((-2147483648), (-1)), ((-2147483648), 2147483647)])) = true := by decide +kernel
theorem xl_t98 : xl_is (xl_run (xl_GI (.int (Int32.ofNat 22)) [(0, 0), (0, 1), ((-2147483648), (-1))])) = true := by decide +kernel
theorem xl_t99 : xl_is (xl_run (xl_GI (.int (Int32.ofNat 22)) [(0, 0), (0, 1), (0, 12)])) = true := by decide +kernel
theorem xl_t100 : xl_is (xl_run (xl_GI (.int (Int32.ofNat 22)) [(0, 0), (0, 1), (13, 2147483647)])) = true := by decide +kernel
theorem xl_t101 : xl_is (xl_run (xl_GI (.int (Int32.ofNat 22)) [(0, 0), (2, 2147483647), ((-2147483648), 2147483647)])) = true := by decide +kernel
theorem xl_t102 : xl_is (xl_run (xl_GI (.int (Int32.ofNat 22)) [(1, 1), ((-2147483648), (-1)), ((-2147483648), 2147483647)])) = true := by decide +kernel
theorem xl_t103 : xl_is (xl_run (xl_GI (.int (Int32.ofNat 22)) [(1, 1), (0, 1), ((-2147483648), (-1))])) = true := by decide +kernel
theorem xl_t104 : xl_is (xl_run (xl_GI (.int (Int32.ofNat 22)) [(1, 1), (0, 1), (0, 12)])) = true := by decide +kernel
theorem xl_t105 : xl_is (xl_run (xl_GI (.int (Int32.ofNat 22)) [(1, 1), (0, 1), (13, 2147483647)])) = true := by decide +kernel
theorem xl_t106 : xl_is (xl_run (xl_GI (.int (Int32.ofNat 22)) [(1, 1), (2, 2147483647), ((-2147483648), 2147483647)])) = true := by decide +kernel
theorem xl_t107 : xl_is (xl_run (xl_GI (.int (Int32.ofNat 22)) [(2, 2147483647), ((-2147483648), 2147483647), ((-2147483648), 2147483647)])) = true := by decide +kernel
theorem xl_t108 : xl_is (xl_run (xl_GI (.int (Int32.ofNat 23)) [])) = true := by decide +kernel
theorem xl_t109 : xl_is (xl_run (xl_GI (.int (Int32.ofNat 24)) [((-2147483648), (-1))])) = true := by decide +kernel
theorem xl_t110 : xl_is (xl_run (xl_GI (.int (Int32.ofNat 24)) [(0, 0)])) = true := by decide +kernel
theorem xl_t111 : xl_is (xl_run (xl_GI (.int (Int32.ofNat 24)) [(1, 1)])) = true := by decide +kernel
theorem xl_t112 : xl_is (xl_run (xl_GI (.int (Int32.ofNat 24)) [(2, 2)])) = true := by decide +kernel
theorem xl_t113 : xl_is (xl_run (xl_GI (.int (Int32.ofNat 24)) [(3, 2147483647)])) = true := by decide +kernel
theorem xl_t114 : xl_is (xl_run (xl_GI (.int (Int32.ofNat 25)) [((-2147483648), (-1)), ((-2147483648), 2147483647), ((-2147483648), 2147483647)])) = true := by decide +kernel
theorem xl_t115 : xl_is (xl_run (xl_GI (.int (Int32.ofNat 25)) [(0, 0), ((-2147483648), (-1)), ((-2147483648), 2147483647)])) = true := by decide +kernel
theorem xl_t116 : xl_is (xl_run (xl_GI (.int (Int32.ofNat 25)) [(0, 0), (0, 2147483647), ((-2147483648), 2147483647)])) = true := by decide +kernel
theorem xl_t117 : xl_is (xl_run (xl_GI (.int (Int32.ofNat 25)) [(1, 1), ((-2147483648), (-1)), ((-2147483648), 2147483647)])) = true := by decide +kernel
theorem xl_t118 : xl_is (xl_run (xl_GI (.int (Int32.ofNat 25)) [(1, 1), (0, 2147483647), ((-2147483648), 2147483647)])) = true := by decide +kernel
theorem xl_t119 : xl_is (xl_run (xl_GI (.int (Int32.ofNat 25)) [(2, 2147483647), ((-2147483648), 2147483647), ((-2147483648), 2147483647)])) = true := by decide +kernel
theorem xl_t120 : xl_is (xl_run (xl_GI (.int (Int32.ofNat 26)) [((-2147483648), 2147483647), ((-2147483648), 2147483647), ((-2147483648), (-1))])) = true := by decide +kernel
theorem xl_t121 : xl_is (xl_run (xl_GI (.int (Int32.ofNat 26)) [((-2147483648), 2147483647), ((-2147483648), (-1)), (0, 2)])) = true := by decide +kernel
theorem xl_t122 : xl_is (xl_run (xl_GI (.int (Int32.ofNat 26)) [((-2147483648), 2147483647), (0, 0), (0, 2)])) = true := by decide +kernel
theorem xl_t123 : xl_is (xl_run (xl_GI (.int (Int32.ofNat 26)) [((-2147483648), 2147483647), (1, 1), (0, 2)])) = true := by decide +kernel
theorem xl_t124 : xl_is (xl_run (xl_GI (.int (Int32.ofNat 26)) [((-2147483648), 2147483647), (2, 2), (0, 2)])) = true := by decide +kernel
theorem xl_t125 : xl_is (xl_run (xl_GI (.int (Int32.ofNat 26)) [((-2147483648), 2147483647), (3, 3), (0, 2)])) = true := by decide +kernel
theorem xl_t126 : xl_is (xl_run (xl_GI (.int (Int32.ofNat 26)) [((-2147483648), 2147483647), (4, 4), (0, 2)])) = true := by decide +kernel
theorem xl_t127 : xl_is (xl_run (xl_GI (.int (Int32.ofNat 26)) [((-2147483648), 2147483647), (5, 5), (0, 2)])) = true := by decide +kernel
theorem xl_t128 : xl_is (xl_run (xl_GI (.int (Int32.ofNat 26)) [((-2147483648), 2147483647), (6, 6), (0, 2)])) = true := by decide +kernel
theorem xl_t129 : xl_is (xl_run (xl_GI (.int (Int32.ofNat 26)) [((-2147483648), 2147483647), (7, 7), (0, 2)])) = true := by decide +kernel
theorem xl_t183 : xl_is (xl_run (xl_GI (.int (Int32.ofNat 26)) [((-2147483648), 2147483647), (61, 2147483647), (0, 2)])) = true := by decide +kernel
theorem xl_t184 : xl_is (xl_run (xl_GI (.int (Int32.ofNat 26)) [((-2147483648), 2147483647), ((-2147483648), 2147483647), (3, 2147483647)])) = true := by decide +kernel
theorem xl_t185 : xl_is (xl_run (xl_GI (.int (Int32.ofNat 27)) [((-2147483648), (-1))])) = true := by decide +kernel
theorem xl_t186 : xl_is (xl_run (xl_GI (.int (Int32.ofNat 27)) [(0, 0)])) = true := by decide +kernel
theorem xl_t187 : xl_is (xl_run (xl_GI (.int (Int32.ofNat 27)) [(1, 1)])) = true := by decide +kernel
theorem xl_t188 : xl_is (xl_run (xl_GI (.int (Int32.ofNat 27)) [(2, 2)])) = true := by decide +kernel
theorem xl_t189 : xl_is (xl_run (xl_GI (.int (Int32.ofNat 27)) [(3, 3)])) = true := by decide +kernel
theorem xl_t190 : xl_is (xl_run (xl_GI (.int (Int32.ofNat 27)) [(4, 4)])) = true := by decide +kernel
theorem xl_t191 : xl_is (xl_run (xl_GI (.int (Int32.ofNat 27)) [(5, 5)])) = true := by decide +kernel
theorem xl_t192 : xl_is (xl_run (xl_GI (.int (Int32.ofNat 27)) [(6, 2147483647)])) = true := by decide +kernel
theorem xl_t193 : xl_is (xl_run (xl_GI (.int (Int32.ofNat 28)) [((-2147483648), (-1))])) = true := by decide +kernel
theorem xl_t194 : xl_is (xl_run (xl_GI (.int (Int32.ofNat 28)) [(0, 2147483647)])) = true := by decide +kernel
theorem xl_t195 : xl_is (xl_run (xl_GX (.int (Int32.ofNat 29)) [((-2147483648), (-1))] xl_SS)) = true := by decide +kernel
theorem xl_t196 : xl_is (xl_run (xl_GI (.int (Int32.ofNat 29)) [(0, 0)])) = true := by decide +kernel
theorem xl_t197 : xl_is (xl_run (xl_GX (.int (Int32.ofNat 29)) [(1, 2147483647)] xl_SS)) = true := by decide +kernel
theorem xl_t198 : xl_is (xl_run (xl_GI (.int (Int32.ofNat 30)) [((-2147483648), (-1)), ((-2147483648), 2147483647)])) = true := by decide +kernel
theorem xl_t199 : xl_is (xl_run (xl_GI (.int (Int32.ofNat 30)) [(0, 2147483647), ((-2147483648), 2147483647)])) = true := by decide +kernel
theorem xl_t200 : xl_is (xl_run (xl_GI (.int (Int32.ofNat 31)) [((-2147483648), (-1))])) = true := by decide +kernel
theorem xl_t201 : xl_is (xl_run (xl_GI (.int (Int32.ofNat 31)) [(0, 2147483647)])) = true := by decide +kernel
theorem xl_t202 : xl_is (xl_run (xl_GI (.int (Int32.ofNat 32)) [])) = true := by decide +kernel
theorem xl_t203 : xl_is (xl_run (xl_GI (.int (Int32.ofNat 33)) [((-2147483648), (-1)), ((-2147483648), 2147483647)])) = true := by decide +kernel
theorem xl_t204 : xl_is (xl_run (xl_GI (.int (Int32.ofNat 33)) [(0, 2147483647), ((-2147483648), 2147483647)])) = true := by decide +kernel
theorem xl_t205 : xl_is (xl_run (xl_GI (.int (Int32.ofNat 34)) [((-2147483648), (-1))])) = true := by decide +kernel
theorem xl_t206 : xl_is (xl_run (xl_GI (.int (Int32.ofNat 34)) [(0, 0)])) = true := by decide +kernel
theorem xl_t207 : xl_is (xl_run (xl_GI (.int (Int32.ofNat 34)) [(1, 1)])) = true := by decide +kernel
theorem xl_t208 : xl_is (xl_run (xl_GI (.int (Int32.ofNat 34)) [(2, 2147483647)])) = true := by decide +kernel
theorem xl_t209 : xl_is (xl_run (xl_GI (.int (Int32.ofNat 35)) [])) = true := by decide +kernel
theorem xl_t210 : xl_is (xl_run (xl_GI (.int (Int32.ofNat 36)) [])) = true := by decide +kernel
end
section
/-! the leaves: long runs -/
theorem xl_t1 : xl_is (xl_run (xl_GI (.int (Int32.ofNat 1)) [(0, 0)])) = true := by decide +kernel
theorem xl_t71 : xl_is (xl_run (xl_GI (.int (Int32.ofNat 16)) [(0, 0), (0, 0)])) = true := by decide +kernel
theorem xl_t72 : xl_is (xl_run (xl_GI (.int (Int32.ofNat 16)) [(0, 0), (1, 1)])) = true := by decide +kernel
theorem xl_t75 : xl_is (xl_run (xl_GI (.int (Int32.ofNat 16)) [(1, 1), (0, 0)])) = true := by decide +kernel
theorem xl_t76 : xl_is (xl_run (xl_GI (.int (Int32.ofNat 16)) [(1, 1), (1, 1)])) = true := by decide +kernel
theorem xl_t130 : xl_is (xl_run (xl_GI (.int (Int32.ofNat 26)) [((-2147483648), 2147483647), (8, 8), (0, 2)])) = true := by decide +kernel
theorem xl_t131 : xl_is (xl_run (xl_GI (.int (Int32.ofNat 26)) [((-2147483648), 2147483647), (9, 9), (0, 2)])) = true := by decide +kernel
theorem xl_t132 : xl_is (xl_run (xl_GI (.int (Int32.ofNat 26)) [((-2147483648), 2147483647), (10, 10), (0, 2)])) = true := by decide +kernel
theorem xl_t133 : xl_is (xl_run (xl_GI (.int (Int32.ofNat 26)) [((-2147483648), 2147483647), (11, 11), (0, 2)])) = true := by decide +kernel
theorem xl_t134 : xl_is (xl_run (xl_GI (.int (Int32.ofNat 26)) [((-2147483648), 2147483647), (12, 12), (0, 2)])) = true := by decide +kernel
theorem xl_t135 : xl_is (xl_run (xl_GI (.int (Int32.ofNat 26)) [((-2147483648), 2147483647), (13, 13), (0, 2)])) = true := by decide +kernel
theorem xl_t136 : xl_is (xl_run (xl_GI (.int (Int32.ofNat 26)) [((-2147483648), 2147483647), (14, 14), (0, 2)])) = true := by decide +kernel
theorem xl_t137 : xl_is (xl_run (xl_GI (.int (Int32.ofNat 26)) [((-2147483648), 2147483647), (15, 15), (0, 2)])) = true := by decide +kernel
theorem xl_t138 : xl_is (xl_run (xl_GI (.int (Int32.ofNat 26)) [((-2147483648), 2147483647), (16, 16), (0, 2)])) = true := by decide +kernel
theorem xl_t139 : xl_is (xl_run (xl_GI (.int (Int32.ofNat 26)) [((-2147483648), 2147483647), (17, 17), (0, 2)])) = true := by decide +kernel
theorem xl_t140 : xl_is (xl_run (xl_GI (.int (Int32.ofNat 26)) [((-2147483648), 2147483647), (18, 18), (0, 2)])) = true := by decide +kernel
theorem xl_t141 : xl_is (xl_run (xl_GI (.int (Int32.ofNat 26)) [((-2147483648), 2147483647), (19, 19), (0, 2)])) = true := by decide +kernel
theorem xl_t142 : xl_is (xl_run (xl_GI (.int (Int32.ofNat 26)) [((-2147483648), 2147483647), (20, 20), (0, 2)])) = true := by decide +kernel
theorem xl_t143 : xl_is (xl_run (xl_GI (.int (Int32.ofNat 26)) [((-2147483648), 2147483647), (21, 21), (0, 2)])) = true := by decide +kernel
theorem xl_t144 : xl_is (xl_run (xl_GI (.int (Int32.ofNat 26)) [((-2147483648), 2147483647), (22, 22), (0, 2)])) = true := by decide +kernel
end
section
/-! the leaves: long runs -/
theorem xl_t145 : xl_is (xl_run (xl_GI (.int (Int32.ofNat 26)) [((-2147483648), 2147483647), (23, 23), (0, 2)])) = true := by decide +kernel
theorem xl_t146 : xl_is (xl_run (xl_GI (.int (Int32.ofNat 26)) [((-2147483648), 2147483647), (24, 24), (0, 2)])) = true := by decide +kernel
theorem xl_t147 : xl_is (xl_run (xl_GI (.int (Int32.ofNat 26)) [((-2147483648), 2147483647), (25, 25), (0, 2)])) = true := by decide +kernel
theorem xl_t148 : xl_is (xl_run (xl_GI (.int (Int32.ofNat 26)) [((-2147483648), 2147483647), (26, 26), (0, 2)])) = true := by decide +kernel
theorem xl_t149 : xl_is (xl_run (xl_GI (.int (Int32.ofNat 26)) [((-2147483648), 2147483647), (27, 27), (0, 2)])) = true := by decide +kernel
theorem xl_t150 : xl_is (xl_run (xl_GI (.int (Int32.ofNat 26)) [((-2147483648), 2147483647), (28, 28), (0, 2)])) = true := by decide +kernel
theorem xl_t151 : xl_is (xl_run (xl_GI (.int (Int32.ofNat 26)) [((-2147483648), 2147483647), (29, 29), (0, 2)])) = true := by decide +kernel
theorem xl_t152 : xl_is (xl_run (xl_GI (.int (Int32.ofNat 26)) [((-2147483648), 2147483647), (30, 30), (0, 2)])) = true := by decide +kernel
theorem xl_t153 : xl_is (xl_run (xl_GI (.int (Int32.ofNat 26)) [((-2147483648), 2147483647), (31, 31), (0, 2)])) = true := by decide +kernel
theorem xl_t154 : xl_is (xl_run (xl_GI (.int (Int32.ofNat 26)) [((-2147483648), 2147483647), (32, 32), (0, 2)])) = true := by decide +kernel
theorem xl_t155 : xl_is (xl_run (xl_GI (.int (Int32.ofNat 26)) [((-2147483648), 2147483647), (33, 33), (0, 2)])) = true := by decide +kernel
theorem xl_t156 : xl_is (xl_run (xl_GI (.int (Int32.ofNat 26)) [((-2147483648), 2147483647), (34, 34), (0, 2)])) = true := by decide +kernel
theorem xl_t157 : xl_is (xl_run (xl_GI (.int (Int32.ofNat 26)) [((-2147483648), 2147483647), (35, 35), (0, 2)])) = true := by decide +kernel
theorem xl_t158 : xl_is (xl_run (xl_GI (.int (Int32.ofNat 26)) [((-2147483648), 2147483647), (36, 36), (0, 2)])) = true := by decide +kernel
theorem xl_t159 : xl_is (xl_run (xl_GI (.int (Int32.ofNat 26)) [((-2147483648), 2147483647), (37, 37), (0, 2)])) = true := by decide +kernel
theorem xl_t160 : xl_is (xl_run (xl_GI (.int (Int32.ofNat 26)) [((-2147483648), 2147483647), (38, 38), (0, 2)])) = true := by decide +kernel
theorem xl_t161 : xl_is (xl_run (xl_GI (.int (Int32.ofNat 26)) [((-2147483648), 2147483647), (39, 39), (0, 2)])) = true := by decide +kernel
end
section
/-! the leaves: long runs -/
theorem xl_t162 : xl_is (xl_run (xl_GI (.int (Int32.ofNat 26)) [((-2147483648), 2147483647), (40, 40), (0, 2)])) = true := by decide +kernel
theorem xl_t163 : xl_is (xl_run (xl_GI (.int (Int32.ofNat 26)) [((-2147483648), 2147483647), (41, 41), (0, 2)])) = true := by decide +kernel
theorem xl_t164 : xl_is (xl_run (xl_GI (.int (Int32.ofNat 26)) [((-2147483648), 2147483647), (42, 42), (0, 2)])) = true := by decide +kernel
theorem xl_t165 : xl_is (xl_run (xl_GI (.int (Int32.ofNat 26)) [((-2147483648), 2147483647), (43, 43), (0, 2)])) = true := by decide +kernel
theorem xl_t166 : xl_is (xl_run (xl_GI (.int (Int32.ofNat 26)) [((-2147483648), 2147483647), (44, 44), (0, 2)])) = true := by decide +kernel
theorem xl_t167 : xl_is (xl_run (xl_GI (.int (Int32.ofNat 26)) [((-2147483648), 2147483647), (45, 45), (0, 2)])) = true := by decide +kernel
theorem xl_t168 : xl_is (xl_run (xl_GI (.int (Int32.ofNat 26)) [((-2147483648), 2147483647), (46, 46), (0, 2)])) = true := by decide +kernel
theorem xl_t169 : xl_is (xl_run (xl_GI (.int (Int32.ofNat 26)) [((-2147483648), 2147483647), (47, 47), (0, 2)])) = true := by decide +kernel
theorem xl_t170 : xl_is (xl_run (xl_GI (.int (Int32.ofNat 26)) [((-2147483648), 2147483647), (48, 48), (0, 2)])) = true := by decide +kernel
theorem xl_t171 : xl_is (xl_run (xl_GI (.int (Int32.ofNat 26)) [((-2147483648), 2147483647), (49, 49), (0, 2)])) = true := by decide +kernel
theorem xl_t172 : xl_is (xl_run (xl_GI (.int (Int32.ofNat 26)) [((-2147483648), 2147483647), (50, 50), (0, 2)])) = true := by decide +kernel
theorem xl_t173 : xl_is (xl_run (xl_GI (.int (Int32.ofNat 26)) [((-2147483648), 2147483647), (51, 51), (0, 2)])) = true := by decide +kernel
end
section
/-! the leaves: long runs -/
theorem xl_t174 : xl_is (xl_run (xl_GI (.int (Int32.ofNat 26)) [((-2147483648), 2147483647), (52, 52), (0, 2)])) = true := by decide +kernel
theorem xl_t175 : xl_is (xl_run (xl_GI (.int (Int32.ofNat 26)) [((-2147483648), 2147483647), (53, 53), (0, 2)])) = true := by decide +kernel
theorem xl_t176 : xl_is (xl_run (xl_GI (.int (Int32.ofNat 26)) [((-2147483648), 2147483647), (54, 54), (0, 2)])) = true := by decide +kernel
theorem xl_t177 : xl_is (xl_run (xl_GI (.int (Int32.ofNat 26)) [((-2147483648), 2147483647), (55, 55), (0, 2)])) = true := by decide +kernel
theorem xl_t178 : xl_is (xl_run (xl_GI (.int (Int32.ofNat 26)) [((-2147483648), 2147483647), (56, 56), (0, 2)])) = true := by decide +kernel
theorem xl_t179 : xl_is (xl_run (xl_GI (.int (Int32.ofNat 26)) [((-2147483648), 2147483647), (57, 57), (0, 2)])) = true := by decide +kernel
theorem xl_t180 : xl_is (xl_run (xl_GI (.int (Int32.ofNat 26)) [((-2147483648), 2147483647), (58, 58), (0, 2)])) = true := by decide +kernel
theorem xl_t181 : xl_is (xl_run (xl_GI (.int (Int32.ofNat 26)) [((-2147483648), 2147483647), (59, 59), (0, 2)])) = true := by decide +kernel
theorem xl_t182 : xl_is (xl_run (xl_GI (.int (Int32.ofNat 26)) [((-2147483648), 2147483647), (60, 60), (0, 2)])) = true := by decide +kernel
end
section
/-! every script comes to a leaf -/
theorem xl_op1 {xs : Nat → Int32} (hop : xs 0 &&& 63 = Int32.ofNat 1) : xl_Goal xs 6 := by
  have l1 := xl_lo (xs 1)
  have u1 := xl_hi (xs 1)
  by_cases h1_0 : (xs 1).toInt ≤ (-1)
  · exact xl_app hop [((-2147483648), (-1))] (xl_in1 (by omega) (by omega)) xl_t0
  by_cases h1_1 : (xs 1).toInt ≤ 0
  · exact xl_app hop [(0, 0)] (xl_in1 (by omega) (by omega)) xl_t1
  exact xl_app hop [(1, 2147483647)] (xl_in1 (by omega) (by omega)) xl_t2
theorem xl_op2 {xs : Nat → Int32} (hop : xs 0 &&& 63 = Int32.ofNat 2) : xl_Goal xs 6 := by
  exact xl_app hop [] (xl_in0) xl_t3
theorem xl_op3 {xs : Nat → Int32} (hop : xs 0 &&& 63 = Int32.ofNat 3) : xl_Goal xs 6 := by
  have l1 := xl_lo (xs 1)
  have u1 := xl_hi (xs 1)
  by_cases h1_0 : (xs 1).toInt ≤ (-1)
  · exact xl_app hop [((-2147483648), (-1))] (xl_in1 (by omega) (by omega)) xl_t4
  by_cases h1_1 : (xs 1).toInt ≤ 0
  · exact xl_app hop [(0, 0)] (xl_in1 (by omega) (by omega)) xl_t5
  by_cases h1_2 : (xs 1).toInt ≤ 1
  · exact xl_app hop [(1, 1)] (xl_in1 (by omega) (by omega)) xl_t6
  by_cases h1_3 : (xs 1).toInt ≤ 2
  · exact xl_app hop [(2, 2)] (xl_in1 (by omega) (by omega)) xl_t7
  by_cases h1_4 : (xs 1).toInt ≤ 3
  · exact xl_app hop [(3, 3)] (xl_in1 (by omega) (by omega)) xl_t8
  by_cases h1_5 : (xs 1).toInt ≤ 4
  · exact xl_app hop [(4, 4)] (xl_in1 (by omega) (by omega)) xl_t9
  by_cases h1_6 : (xs 1).toInt ≤ 5
  · exact xl_app hop [(5, 5)] (xl_in1 (by omega) (by omega)) xl_t10
  by_cases h1_7 : (xs 1).toInt ≤ 6
  · exact xl_app hop [(6, 6)] (xl_in1 (by omega) (by omega)) xl_t11
  by_cases h1_8 : (xs 1).toInt ≤ 7
  · exact xl_app hop [(7, 7)] (xl_in1 (by omega) (by omega)) xl_t12
  by_cases h1_9 : (xs 1).toInt ≤ 8
  · exact xl_app hop [(8, 8)] (xl_in1 (by omega) (by omega)) xl_t13
  by_cases h1_10 : (xs 1).toInt ≤ 9
  · exact xl_app hop [(9, 9)] (xl_in1 (by omega) (by omega)) xl_t14
  by_cases h1_11 : (xs 1).toInt ≤ 10
  · exact xl_app hop [(10, 10)] (xl_in1 (by omega) (by omega)) xl_t15
  by_cases h1_12 : (xs 1).toInt ≤ 11
  · exact xl_app hop [(11, 11)] (xl_in1 (by omega) (by omega)) xl_t16
  by_cases h1_13 : (xs 1).toInt ≤ 12
  · exact xl_app hop [(12, 12)] (xl_in1 (by omega) (by omega)) xl_t17
  by_cases h1_14 : (xs 1).toInt ≤ 13
  · exact xl_app hop [(13, 13)] (xl_in1 (by omega) (by omega)) xl_t18
  by_cases h1_15 : (xs 1).toInt ≤ 14
  · exact xl_app hop [(14, 14)] (xl_in1 (by omega) (by omega)) xl_t19
  by_cases h1_16 : (xs 1).toInt ≤ 15
  · exact xl_app hop [(15, 15)] (xl_in1 (by omega) (by omega)) xl_t20
  by_cases h1_17 : (xs 1).toInt ≤ 16
  · exact xl_app hop [(16, 16)] (xl_in1 (by omega) (by omega)) xl_t21
  by_cases h1_18 : (xs 1).toInt ≤ 17
  · exact xl_app hop [(17, 17)] (xl_in1 (by omega) (by omega)) xl_t22
  exact xl_app hop [(18, 2147483647)] (xl_in1 (by omega) (by omega)) xl_t23
theorem xl_op4 {xs : Nat → Int32} (hop : xs 0 &&& 63 = Int32.ofNat 4) : xl_Goal xs 6 := by
  have l1 := xl_lo (xs 1)
  have u1 := xl_hi (xs 1)
  have l2 := xl_lo (xs 2)
  have u2 := xl_hi (xs 2)
  by_cases h1_0 : (xs 1).toInt ≤ (-1)
  · exact xl_app hop [((-2147483648), (-1)), ((-2147483648), 2147483647)] (xl_in2 (by omega) (by omega) (by omega) (by omega)) xl_t24
  by_cases h1_1 : (xs 1).toInt ≤ 0
  · by_cases h2_0 : (xs 2).toInt ≤ (-1)
    · exact xl_app hop [(0, 0), ((-2147483648), (-1))] (xl_in2 (by omega) (by omega) (by omega) (by omega)) xl_t25
    by_cases h2_1 : (xs 2).toInt ≤ 0
    · exact xl_app hop [(0, 0), (0, 0)] (xl_in2 (by omega) (by omega) (by omega) (by omega)) xl_t26
    by_cases h2_2 : (xs 2).toInt ≤ 1
    · exact xl_app hop [(0, 0), (1, 1)] (xl_in2 (by omega) (by omega) (by omega) (by omega)) xl_t27
    by_cases h2_3 : (xs 2).toInt ≤ 2
    · exact xl_app hop [(0, 0), (2, 2)] (xl_in2 (by omega) (by omega) (by omega) (by omega)) xl_t28
    by_cases h2_4 : (xs 2).toInt ≤ 3
    · exact xl_app hop [(0, 0), (3, 3)] (xl_in2 (by omega) (by omega) (by omega) (by omega)) xl_t29
    exact xl_app hop [(0, 0), (4, 2147483647)] (xl_in2 (by omega) (by omega) (by omega) (by omega)) xl_t30
  by_cases h1_2 : (xs 1).toInt ≤ 1
  · by_cases h2_0 : (xs 2).toInt ≤ (-1)
    · exact xl_app hop [(1, 1), ((-2147483648), (-1))] (xl_in2 (by omega) (by omega) (by omega) (by omega)) xl_t31
    by_cases h2_1 : (xs 2).toInt ≤ 0
    · exact xl_app hop [(1, 1), (0, 0)] (xl_in2 (by omega) (by omega) (by omega) (by omega)) xl_t32
    by_cases h2_2 : (xs 2).toInt ≤ 1
    · exact xl_app hop [(1, 1), (1, 1)] (xl_in2 (by omega) (by omega) (by omega) (by omega)) xl_t33
    by_cases h2_3 : (xs 2).toInt ≤ 2
    · exact xl_app hop [(1, 1), (2, 2)] (xl_in2 (by omega) (by omega) (by omega) (by omega)) xl_t34
    by_cases h2_4 : (xs 2).toInt ≤ 3
    · exact xl_app hop [(1, 1), (3, 3)] (xl_in2 (by omega) (by omega) (by omega) (by omega)) xl_t35
    exact xl_app hop [(1, 1), (4, 2147483647)] (xl_in2 (by omega) (by omega) (by omega) (by omega)) xl_t36
  exact xl_app hop [(2, 2147483647), ((-2147483648), 2147483647)] (xl_in2 (by omega) (by omega) (by omega) (by omega)) xl_t37
theorem xl_op5 {xs : Nat → Int32} (hop : xs 0 &&& 63 = Int32.ofNat 5) : xl_Goal xs 6 := by
  have l1 := xl_lo (xs 1)
  have u1 := xl_hi (xs 1)
  have l2 := xl_lo (xs 2)
  have u2 := xl_hi (xs 2)
  by_cases h1_0 : (xs 1).toInt ≤ (-1)
  · exact xl_app hop [((-2147483648), (-1)), ((-2147483648), 2147483647)] (xl_in2 (by omega) (by omega) (by omega) (by omega)) xl_t38
  exact xl_app hop [(0, 2147483647), ((-2147483648), 2147483647)] (xl_in2 (by omega) (by omega) (by omega) (by omega)) xl_t39
theorem xl_op6 {xs : Nat → Int32} (hop : xs 0 &&& 63 = Int32.ofNat 6) : xl_Goal xs 6 := by
  have l1 := xl_lo (xs 1)
  have u1 := xl_hi (xs 1)
  have l2 := xl_lo (xs 2)
  have u2 := xl_hi (xs 2)
  by_cases h1_0 : (xs 1).toInt ≤ (-1)
  · exact xl_app hop [((-2147483648), (-1)), ((-2147483648), 2147483647)] (xl_in2 (by omega) (by omega) (by omega) (by omega)) xl_t40
  exact xl_app hop [(0, 2147483647), ((-2147483648), 2147483647)] (xl_in2 (by omega) (by omega) (by omega) (by omega)) xl_t41
theorem xl_op7 {xs : Nat → Int32} (hop : xs 0 &&& 63 = Int32.ofNat 7) : xl_Goal xs 6 := by
  have l1 := xl_lo (xs 1)
  have u1 := xl_hi (xs 1)
  have l2 := xl_lo (xs 2)
  have u2 := xl_hi (xs 2)
  by_cases h1_0 : (xs 1).toInt ≤ (-1)
  · exact xl_app hop [((-2147483648), (-1)), ((-2147483648), 2147483647)] (xl_in2 (by omega) (by omega) (by omega) (by omega)) xl_t42
  exact xl_app hop [(0, 2147483647), ((-2147483648), 2147483647)] (xl_in2 (by omega) (by omega) (by omega) (by omega)) xl_t43
theorem xl_op8 {xs : Nat → Int32} (hop : xs 0 &&& 63 = Int32.ofNat 8) : xl_Goal xs 6 := by
  have l1 := xl_lo (xs 1)
  have u1 := xl_hi (xs 1)
  by_cases h1_0 : (xs 1).toInt ≤ (-1)
  · exact xl_app hop [((-2147483648), (-1))] (xl_in1 (by omega) (by omega)) xl_t44
  by_cases h1_1 : (xs 1).toInt ≤ 60
  · exact xl_app hop [(0, 60)] (xl_in1 (by omega) (by omega)) xl_t45
  exact xl_app hop [(61, 2147483647)] (xl_in1 (by omega) (by omega)) xl_t46
theorem xl_op9 {xs : Nat → Int32} (hop : xs 0 &&& 63 = Int32.ofNat 9) : xl_Goal xs 6 := by
  have l1 := xl_lo (xs 1)
  have u1 := xl_hi (xs 1)
  have l2 := xl_lo (xs 2)
  have u2 := xl_hi (xs 2)
  by_cases h1_0 : (xs 1).toInt ≤ (-1)
  · exact xl_app hop [((-2147483648), (-1)), ((-2147483648), 2147483647)] (xl_in2 (by omega) (by omega) (by omega) (by omega)) xl_t47
  by_cases h1_1 : (xs 1).toInt ≤ 0
  · by_cases h2_0 : (xs 2).toInt ≤ (-1)
    · exact xl_app hop [(0, 0), ((-2147483648), (-1))] (xl_in2 (by omega) (by omega) (by omega) (by omega)) xl_t48
    by_cases h2_1 : (xs 2).toInt ≤ 60
    · exact xl_app hop [(0, 0), (0, 60)] (xl_in2 (by omega) (by omega) (by omega) (by omega)) xl_t49
    exact xl_app hop [(0, 0), (61, 2147483647)] (xl_in2 (by omega) (by omega) (by omega) (by omega)) xl_t50
  by_cases h1_2 : (xs 1).toInt ≤ 1
  · by_cases h2_0 : (xs 2).toInt ≤ (-1)
    · exact xl_app hop [(1, 1), ((-2147483648), (-1))] (xl_in2 (by omega) (by omega) (by omega) (by omega)) xl_t51
    by_cases h2_1 : (xs 2).toInt ≤ 60
    · exact xl_app hop [(1, 1), (0, 60)] (xl_in2 (by omega) (by omega) (by omega) (by omega)) xl_t52
    exact xl_app hop [(1, 1), (61, 2147483647)] (xl_in2 (by omega) (by omega) (by omega) (by omega)) xl_t53
  exact xl_app hop [(2, 2147483647), ((-2147483648), 2147483647)] (xl_in2 (by omega) (by omega) (by omega) (by omega)) xl_t54
theorem xl_op10 {xs : Nat → Int32} (hop : xs 0 &&& 63 = Int32.ofNat 10) : xl_Goal xs 6 := by
  have l1 := xl_lo (xs 1)
  have u1 := xl_hi (xs 1)
  have l2 := xl_lo (xs 2)
  have u2 := xl_hi (xs 2)
  have l3 := xl_lo (xs 3)
  have u3 := xl_hi (xs 3)
  by_cases h1_0 : (xs 1).toInt ≤ (-1)
  · exact xl_app hop [((-2147483648), (-1)), ((-2147483648), 2147483647), ((-2147483648), 2147483647)] (xl_in3 (by omega) (by omega) (by omega) (by omega) (by omega) (by omega)) xl_t55
  exact xl_app hop [(0, 2147483647), ((-2147483648), 2147483647), ((-2147483648), 2147483647)] (xl_in3 (by omega) (by omega) (by omega) (by omega) (by omega) (by omega)) xl_t56
theorem xl_op11 {xs : Nat → Int32} (hop : xs 0 &&& 63 = Int32.ofNat 11) : xl_Goal xs 6 := by
  have l1 := xl_lo (xs 1)
  have u1 := xl_hi (xs 1)
  by_cases h1_0 : (xs 1).toInt ≤ (-2)
  · exact xl_app hop [((-2147483648), (-2))] (xl_in1 (by omega) (by omega)) xl_t57
  by_cases h1_1 : (xs 1).toInt ≤ (-1)
  · exact xl_app hop [((-1), (-1))] (xl_in1 (by omega) (by omega)) xl_t58
  exact xl_app hop [(0, 2147483647)] (xl_in1 (by omega) (by omega)) xl_t59
theorem xl_op12 {xs : Nat → Int32} (hop : xs 0 &&& 63 = Int32.ofNat 12) : xl_Goal xs 6 := by
  exact xl_app hop [] (xl_in0) xl_t60
theorem xl_op13 {xs : Nat → Int32} (hop : xs 0 &&& 63 = Int32.ofNat 13) : xl_Goal xs 6 := by
  have l1 := xl_lo (xs 1)
  have u1 := xl_hi (xs 1)
  by_cases h1_0 : (xs 1).toInt ≤ (-1)
  · exact xl_app hop [((-2147483648), (-1))] (xl_in1 (by omega) (by omega)) xl_t61
  by_cases h1_1 : (xs 1).toInt ≤ 0
  · exact xl_app hop [(0, 0)] (xl_in1 (by omega) (by omega)) xl_t62
  by_cases h1_2 : (xs 1).toInt ≤ 1
  · exact xl_app hop [(1, 1)] (xl_in1 (by omega) (by omega)) xl_t63
  exact xl_app hop [(2, 2147483647)] (xl_in1 (by omega) (by omega)) xl_t64
theorem xl_op14 {xs : Nat → Int32} (hop : xs 0 &&& 63 = Int32.ofNat 14) : xl_Goal xs 6 := by
  have l1 := xl_lo (xs 1)
  have u1 := xl_hi (xs 1)
  by_cases h1_0 : (xs 1).toInt ≤ (-2)
  · exact xl_app hop [((-2147483648), (-2))] (xl_in1 (by omega) (by omega)) xl_t65
  by_cases h1_1 : (xs 1).toInt ≤ (-1)
  · exact xl_app hop [((-1), (-1))] (xl_in1 (by omega) (by omega)) xl_t66
  exact xl_app hop [(0, 2147483647)] (xl_in1 (by omega) (by omega)) xl_t67
theorem xl_op15 {xs : Nat → Int32} (hop : xs 0 &&& 63 = Int32.ofNat 15) : xl_Goal xs 6 := by
  exact xl_app hop [] (xl_in0) xl_t68
theorem xl_op16 {xs : Nat → Int32} (hop : xs 0 &&& 63 = Int32.ofNat 16) : xl_Goal xs 6 := by
  have l1 := xl_lo (xs 1)
  have u1 := xl_hi (xs 1)
  have l2 := xl_lo (xs 2)
  have u2 := xl_hi (xs 2)
  by_cases h1_0 : (xs 1).toInt ≤ (-1)
  · exact xl_app hop [((-2147483648), (-1)), ((-2147483648), 2147483647)] (xl_in2 (by omega) (by omega) (by omega) (by omega)) xl_t69
  by_cases h1_1 : (xs 1).toInt ≤ 0
  · by_cases h2_0 : (xs 2).toInt ≤ (-1)
    · exact xl_app hop [(0, 0), ((-2147483648), (-1))] (xl_in2 (by omega) (by omega) (by omega) (by omega)) xl_t70
    by_cases h2_1 : (xs 2).toInt ≤ 0
    · exact xl_app hop [(0, 0), (0, 0)] (xl_in2 (by omega) (by omega) (by omega) (by omega)) xl_t71
    by_cases h2_2 : (xs 2).toInt ≤ 1
    · exact xl_app hop [(0, 0), (1, 1)] (xl_in2 (by omega) (by omega) (by omega) (by omega)) xl_t72
    exact xl_app hop [(0, 0), (2, 2147483647)] (xl_in2 (by omega) (by omega) (by omega) (by omega)) xl_t73
  by_cases h1_2 : (xs 1).toInt ≤ 1
  · by_cases h2_0 : (xs 2).toInt ≤ (-1)
    · exact xl_app hop [(1, 1), ((-2147483648), (-1))] (xl_in2 (by omega) (by omega) (by omega) (by omega)) xl_t74
    by_cases h2_1 : (xs 2).toInt ≤ 0
    · exact xl_app hop [(1, 1), (0, 0)] (xl_in2 (by omega) (by omega) (by omega) (by omega)) xl_t75
    by_cases h2_2 : (xs 2).toInt ≤ 1
    · exact xl_app hop [(1, 1), (1, 1)] (xl_in2 (by omega) (by omega) (by omega) (by omega)) xl_t76
    exact xl_app hop [(1, 1), (2, 2147483647)] (xl_in2 (by omega) (by omega) (by omega) (by omega)) xl_t77
  exact xl_app hop [(2, 2147483647), ((-2147483648), 2147483647)] (xl_in2 (by omega) (by omega) (by omega) (by omega)) xl_t78
theorem xl_op17 {xs : Nat → Int32} (hop : xs 0 &&& 63 = Int32.ofNat 17) : xl_Goal xs 6 := by
  have l1 := xl_lo (xs 1)
  have u1 := xl_hi (xs 1)
  by_cases h1_0 : (xs 1).toInt ≤ (-1)
  · exact xl_app hop [((-2147483648), (-1))] (xl_in1 (by omega) (by omega)) xl_t79
  by_cases h1_1 : (xs 1).toInt ≤ 0
  · exact xl_app hop [(0, 0)] (xl_in1 (by omega) (by omega)) xl_t80
  by_cases h1_2 : (xs 1).toInt ≤ 1
  · exact xl_app hop [(1, 1)] (xl_in1 (by omega) (by omega)) xl_t81
  by_cases h1_3 : (xs 1).toInt ≤ 2
  · exact xl_app hop [(2, 2)] (xl_in1 (by omega) (by omega)) xl_t82
  exact xl_app hop [(3, 2147483647)] (xl_in1 (by omega) (by omega)) xl_t83
theorem xl_op18 {xs : Nat → Int32} (hop : xs 0 &&& 63 = Int32.ofNat 18) : xl_Goal xs 6 := by
  have l1 := xl_lo (xs 1)
  have u1 := xl_hi (xs 1)
  by_cases h1_0 : (xs 1).toInt ≤ (-1)
  · exact xl_app hop [((-2147483648), (-1))] (xl_in1 (by omega) (by omega)) xl_t84
  by_cases h1_1 : (xs 1).toInt ≤ 0
  · exact xl_app hop [(0, 0)] (xl_in1 (by omega) (by omega)) xl_t85
  by_cases h1_2 : (xs 1).toInt ≤ 1
  · exact xl_app hop [(1, 1)] (xl_in1 (by omega) (by omega)) xl_t86
  exact xl_app hop [(2, 2147483647)] (xl_in1 (by omega) (by omega)) xl_t87
theorem xl_op19 {xs : Nat → Int32} (hop : xs 0 &&& 63 = Int32.ofNat 19) : xl_Goal xs 6 := by
  exact xl_app hop [] (xl_in0) xl_t88
theorem xl_op20 {xs : Nat → Int32} (hop : xs 0 &&& 63 = Int32.ofNat 20) : xl_Goal xs 6 := by
  have l1 := xl_lo (xs 1)
  have u1 := xl_hi (xs 1)
  by_cases h1_0 : (xs 1).toInt ≤ (-1)
  · exact xl_app hop [((-2147483648), (-1))] (xl_in1 (by omega) (by omega)) xl_t89
  by_cases h1_1 : (xs 1).toInt ≤ 12
  · exact xl_app hop [(0, 12)] (xl_in1 (by omega) (by omega)) xl_t90
  exact xl_app hop [(13, 2147483647)] (xl_in1 (by omega) (by omega)) xl_t91
theorem xl_op21 {xs : Nat → Int32} (hop : xs 0 &&& 63 = Int32.ofNat 21) : xl_Goal xs 6 := by
  have l1 := xl_lo (xs 1)
  have u1 := xl_hi (xs 1)
  by_cases h1_0 : (xs 1).toInt ≤ (-1)
  · exact xl_app hop [((-2147483648), (-1))] (xl_in1 (by omega) (by omega)) xl_t92
  by_cases h1_1 : (xs 1).toInt ≤ 0
  · exact xl_app hop [(0, 0)] (xl_in1 (by omega) (by omega)) xl_t93
  by_cases h1_2 : (xs 1).toInt ≤ 1
  · exact xl_app hop [(1, 1)] (xl_in1 (by omega) (by omega)) xl_t94
  exact xl_app hop [(2, 2147483647)] (xl_in1 (by omega) (by omega)) xl_t95
theorem xl_op22 {xs : Nat → Int32} (hop : xs 0 &&& 63 = Int32.ofNat 22) : xl_Goal xs 6 := by
  have l1 := xl_lo (xs 1)
  have u1 := xl_hi (xs 1)
  have l2 := xl_lo (xs 2)
  have u2 := xl_hi (xs 2)
  have l3 := xl_lo (xs 3)
  have u3 := xl_hi (xs 3)
  by_cases h1_0 : (xs 1).toInt ≤ (-1)
  · exact xl_app hop [((-2147483648), (-1)), ((-2147483648), 2147483647), ((-2147483648), 2147483647)] (xl_in3 (by omega) (by omega) (by omega) (by omega) (by omega) (by omega)) xl_t96
  by_cases h1_1 : (xs 1).toInt ≤ 0
  · by_cases h2_0 : (xs 2).toInt ≤ (-1)
    · exact xl_app hop [(0, 0), ((-2147483648), (-1)), ((-2147483648), 2147483647)] (xl_in3 (by omega) (by omega) (by omega) (by omega) (by omega) (by omega)) xl_t97
    by_cases h2_1 : (xs 2).toInt ≤ 1
    · by_cases h3_0 : (xs 3).toInt ≤ (-1)
      · exact xl_app hop [(0, 0), (0, 1), ((-2147483648), (-1))] (xl_in3 (by omega) (by omega) (by omega) (by omega) (by omega) (by omega)) xl_t98
      by_cases h3_1 : (xs 3).toInt ≤ 12
      · exact xl_app hop [(0, 0), (0, 1), (0, 12)] (xl_in3 (by omega) (by omega) (by omega) (by omega) (by omega) (by omega)) xl_t99
      exact xl_app hop [(0, 0), (0, 1), (13, 2147483647)] (xl_in3 (by omega) (by omega) (by omega) (by omega) (by omega) (by omega)) xl_t100
    exact xl_app hop [(0, 0), (2, 2147483647), ((-2147483648), 2147483647)] (xl_in3 (by omega) (by omega) (by omega) (by omega) (by omega) (by omega)) xl_t101
  by_cases h1_2 : (xs 1).toInt ≤ 1
  · by_cases h2_0 : (xs 2).toInt ≤ (-1)
    · exact xl_app hop [(1, 1), ((-2147483648), (-1)), ((-2147483648), 2147483647)] (xl_in3 (by omega) (by omega) (by omega) (by omega) (by omega) (by omega)) xl_t102
    by_cases h2_1 : (xs 2).toInt ≤ 1
    · by_cases h3_0 : (xs 3).toInt ≤ (-1)
      · exact xl_app hop [(1, 1), (0, 1), ((-2147483648), (-1))] (xl_in3 (by omega) (by omega) (by omega) (by omega) (by omega) (by omega)) xl_t103
      by_cases h3_1 : (xs 3).toInt ≤ 12
      · exact xl_app hop [(1, 1), (0, 1), (0, 12)] (xl_in3 (by omega) (by omega) (by omega) (by omega) (by omega) (by omega)) xl_t104
      exact xl_app hop [(1, 1), (0, 1), (13, 2147483647)] (xl_in3 (by omega) (by omega) (by omega) (by omega) (by omega) (by omega)) xl_t105
    exact xl_app hop [(1, 1), (2, 2147483647), ((-2147483648), 2147483647)] (xl_in3 (by omega) (by omega) (by omega) (by omega) (by omega) (by omega)) xl_t106
  exact xl_app hop [(2, 2147483647), ((-2147483648), 2147483647), ((-2147483648), 2147483647)] (xl_in3 (by omega) (by omega) (by omega) (by omega) (by omega) (by omega)) xl_t107
theorem xl_op23 {xs : Nat → Int32} (hop : xs 0 &&& 63 = Int32.ofNat 23) : xl_Goal xs 6 := by
  exact xl_app hop [] (xl_in0) xl_t108
theorem xl_op24 {xs : Nat → Int32} (hop : xs 0 &&& 63 = Int32.ofNat 24) : xl_Goal xs 6 := by
  have l1 := xl_lo (xs 1)
  have u1 := xl_hi (xs 1)
  by_cases h1_0 : (xs 1).toInt ≤ (-1)
  · exact xl_app hop [((-2147483648), (-1))] (xl_in1 (by omega) (by omega)) xl_t109
  by_cases h1_1 : (xs 1).toInt ≤ 0
  · exact xl_app hop [(0, 0)] (xl_in1 (by omega) (by omega)) xl_t110
  by_cases h1_2 : (xs 1).toInt ≤ 1
  · exact xl_app hop [(1, 1)] (xl_in1 (by omega) (by omega)) xl_t111
  by_cases h1_3 : (xs 1).toInt ≤ 2
  · exact xl_app hop [(2, 2)] (xl_in1 (by omega) (by omega)) xl_t112
  exact xl_app hop [(3, 2147483647)] (xl_in1 (by omega) (by omega)) xl_t113
theorem xl_op25 {xs : Nat → Int32} (hop : xs 0 &&& 63 = Int32.ofNat 25) : xl_Goal xs 6 := by
  have l1 := xl_lo (xs 1)
  have u1 := xl_hi (xs 1)
  have l2 := xl_lo (xs 2)
  have u2 := xl_hi (xs 2)
  have l3 := xl_lo (xs 3)
  have u3 := xl_hi (xs 3)
  by_cases h1_0 : (xs 1).toInt ≤ (-1)
  · exact xl_app hop [((-2147483648), (-1)), ((-2147483648), 2147483647), ((-2147483648), 2147483647)] (xl_in3 (by omega) (by omega) (by omega) (by omega) (by omega) (by omega)) xl_t114
  by_cases h1_1 : (xs 1).toInt ≤ 0
  · by_cases h2_0 : (xs 2).toInt ≤ (-1)
    · exact xl_app hop [(0, 0), ((-2147483648), (-1)), ((-2147483648), 2147483647)] (xl_in3 (by omega) (by omega) (by omega) (by omega) (by omega) (by omega)) xl_t115
    exact xl_app hop [(0, 0), (0, 2147483647), ((-2147483648), 2147483647)] (xl_in3 (by omega) (by omega) (by omega) (by omega) (by omega) (by omega)) xl_t116
  by_cases h1_2 : (xs 1).toInt ≤ 1
  · by_cases h2_0 : (xs 2).toInt ≤ (-1)
    · exact xl_app hop [(1, 1), ((-2147483648), (-1)), ((-2147483648), 2147483647)] (xl_in3 (by omega) (by omega) (by omega) (by omega) (by omega) (by omega)) xl_t117
    exact xl_app hop [(1, 1), (0, 2147483647), ((-2147483648), 2147483647)] (xl_in3 (by omega) (by omega) (by omega) (by omega) (by omega) (by omega)) xl_t118
  exact xl_app hop [(2, 2147483647), ((-2147483648), 2147483647), ((-2147483648), 2147483647)] (xl_in3 (by omega) (by omega) (by omega) (by omega) (by omega) (by omega)) xl_t119
theorem xl_op26 {xs : Nat → Int32} (hop : xs 0 &&& 63 = Int32.ofNat 26) : xl_Goal xs 6 := by
  have l1 := xl_lo (xs 1)
  have u1 := xl_hi (xs 1)
  have l2 := xl_lo (xs 2)
  have u2 := xl_hi (xs 2)
  have l3 := xl_lo (xs 3)
  have u3 := xl_hi (xs 3)
  by_cases h1_0 : (xs 3).toInt ≤ (-1)
  · exact xl_app hop [((-2147483648), 2147483647), ((-2147483648), 2147483647), ((-2147483648), (-1))] (xl_in3 (by omega) (by omega) (by omega) (by omega) (by omega) (by omega)) xl_t120
  by_cases h1_1 : (xs 3).toInt ≤ 2
  · by_cases h2_0 : (xs 2).toInt ≤ (-1)
    · exact xl_app hop [((-2147483648), 2147483647), ((-2147483648), (-1)), (0, 2)] (xl_in3 (by omega) (by omega) (by omega) (by omega) (by omega) (by omega)) xl_t121
    by_cases h2_1 : (xs 2).toInt ≤ 0
    · exact xl_app hop [((-2147483648), 2147483647), (0, 0), (0, 2)] (xl_in3 (by omega) (by omega) (by omega) (by omega) (by omega) (by omega)) xl_t122
    by_cases h2_2 : (xs 2).toInt ≤ 1
    · exact xl_app hop [((-2147483648), 2147483647), (1, 1), (0, 2)] (xl_in3 (by omega) (by omega) (by omega) (by omega) (by omega) (by omega)) xl_t123
    by_cases h2_3 : (xs 2).toInt ≤ 2
    · exact xl_app hop [((-2147483648), 2147483647), (2, 2), (0, 2)] (xl_in3 (by omega) (by omega) (by omega) (by omega) (by omega) (by omega)) xl_t124
    by_cases h2_4 : (xs 2).toInt ≤ 3
    · exact xl_app hop [((-2147483648), 2147483647), (3, 3), (0, 2)] (xl_in3 (by omega) (by omega) (by omega) (by omega) (by omega) (by omega)) xl_t125
    by_cases h2_5 : (xs 2).toInt ≤ 4
    · exact xl_app hop [((-2147483648), 2147483647), (4, 4), (0, 2)] (xl_in3 (by omega) (by omega) (by omega) (by omega) (by omega) (by omega)) xl_t126
    by_cases h2_6 : (xs 2).toInt ≤ 5
    · exact xl_app hop [((-2147483648), 2147483647), (5, 5), (0, 2)] (xl_in3 (by omega) (by omega) (by omega) (by omega) (by omega) (by omega)) xl_t127
    by_cases h2_7 : (xs 2).toInt ≤ 6
    · exact xl_app hop [((-2147483648), 2147483647), (6, 6), (0, 2)] (xl_in3 (by omega) (by omega) (by omega) (by omega) (by omega) (by omega)) xl_t128
    by_cases h2_8 : (xs 2).toInt ≤ 7
    · exact xl_app hop [((-2147483648), 2147483647), (7, 7), (0, 2)] (xl_in3 (by omega) (by omega) (by omega) (by omega) (by omega) (by omega)) xl_t129
    by_cases h2_9 : (xs 2).toInt ≤ 8
    · exact xl_app hop [((-2147483648), 2147483647), (8, 8), (0, 2)] (xl_in3 (by omega) (by omega) (by omega) (by omega) (by omega) (by omega)) xl_t130
    by_cases h2_10 : (xs 2).toInt ≤ 9
    · exact xl_app hop [((-2147483648), 2147483647), (9, 9), (0, 2)] (xl_in3 (by omega) (by omega) (by omega) (by omega) (by omega) (by omega)) xl_t131
    by_cases h2_11 : (xs 2).toInt ≤ 10
    · exact xl_app hop [((-2147483648), 2147483647), (10, 10), (0, 2)] (xl_in3 (by omega) (by omega) (by omega) (by omega) (by omega) (by omega)) xl_t132
    by_cases h2_12 : (xs 2).toInt ≤ 11
    · exact xl_app hop [((-2147483648), 2147483647), (11, 11), (0, 2)] (xl_in3 (by omega) (by omega) (by omega) (by omega) (by omega) (by omega)) xl_t133
    by_cases h2_13 : (xs 2).toInt ≤ 12
    · exact xl_app hop [((-2147483648), 2147483647), (12, 12), (0, 2)] (xl_in3 (by omega) (by omega) (by omega) (by omega) (by omega) (by omega)) xl_t134
    by_cases h2_14 : (xs 2).toInt ≤ 13
    · exact xl_app hop [((-2147483648), 2147483647), (13, 13), (0, 2)] (xl_in3 (by omega) (by omega) (by omega) (by omega) (by omega) (by omega)) xl_t135
    by_cases h2_15 : (xs 2).toInt ≤ 14
    · exact xl_app hop [((-2147483648), 2147483647), (14, 14), (0, 2)] (xl_in3 (by omega) (by omega) (by omega) (by omega) (by omega) (by omega)) xl_t136
    by_cases h2_16 : (xs 2).toInt ≤ 15
    · exact xl_app hop [((-2147483648), 2147483647), (15, 15), (0, 2)] (xl_in3 (by omega) (by omega) (by omega) (by omega) (by omega) (by omega)) xl_t137
    by_cases h2_17 : (xs 2).toInt ≤ 16
    · exact xl_app hop [((-2147483648), 2147483647), (16, 16), (0, 2)] (xl_in3 (by omega) (by omega) (by omega) (by omega) (by omega) (by omega)) xl_t138
    by_cases h2_18 : (xs 2).toInt ≤ 17
    · exact xl_app hop [((-2147483648), 2147483647), (17, 17), (0, 2)] (xl_in3 (by omega) (by omega) (by omega) (by omega) (by omega) (by omega)) xl_t139
    by_cases h2_19 : (xs 2).toInt ≤ 18
    · exact xl_app hop [((-2147483648), 2147483647), (18, 18), (0, 2)] (xl_in3 (by omega) (by omega) (by omega) (by omega) (by omega) (by omega)) xl_t140
    by_cases h2_20 : (xs 2).toInt ≤ 19
    · exact xl_app hop [((-2147483648), 2147483647), (19, 19), (0, 2)] (xl_in3 (by omega) (by omega) (by omega) (by omega) (by omega) (by omega)) xl_t141
    by_cases h2_21 : (xs 2).toInt ≤ 20
    · exact xl_app hop [((-2147483648), 2147483647), (20, 20), (0, 2)] (xl_in3 (by omega) (by omega) (by omega) (by omega) (by omega) (by omega)) xl_t142
    by_cases h2_22 : (xs 2).toInt ≤ 21
    · exact xl_app hop [((-2147483648), 2147483647), (21, 21), (0, 2)] (xl_in3 (by omega) (by omega) (by omega) (by omega) (by omega) (by omega)) xl_t143
    by_cases h2_23 : (xs 2).toInt ≤ 22
    · exact xl_app hop [((-2147483648), 2147483647), (22, 22), (0, 2)] (xl_in3 (by omega) (by omega) (by omega) (by omega) (by omega) (by omega)) xl_t144
    by_cases h2_24 : (xs 2).toInt ≤ 23
    · exact xl_app hop [((-2147483648), 2147483647), (23, 23), (0, 2)] (xl_in3 (by omega) (by omega) (by omega) (by omega) (by omega) (by omega)) xl_t145
    by_cases h2_25 : (xs 2).toInt ≤ 24
    · exact xl_app hop [((-2147483648), 2147483647), (24, 24), (0, 2)] (xl_in3 (by omega) (by omega) (by omega) (by omega) (by omega) (by omega)) xl_t146
    by_cases h2_26 : (xs 2).toInt ≤ 25
    · exact xl_app hop [((-2147483648), 2147483647), (25, 25), (0, 2)] (xl_in3 (by omega) (by omega) (by omega) (by omega) (by omega) (by omega)) xl_t147
    by_cases h2_27 : (xs 2).toInt ≤ 26
    · exact xl_app hop [((-2147483648), 2147483647), (26, 26), (0, 2)] (xl_in3 (by omega) (by omega) (by omega) (by omega) (by omega) (by omega)) xl_t148
    by_cases h2_28 : (xs 2).toInt ≤ 27
    · exact xl_app hop [((-2147483648), 2147483647), (27, 27), (0, 2)] (xl_in3 (by omega) (by omega) (by omega) (by omega) (by omega) (by omega)) xl_t149
    by_cases h2_29 : (xs 2).toInt ≤ 28
    · exact xl_app hop [((-2147483648), 2147483647), (28, 28), (0, 2)] (xl_in3 (by omega) (by omega) (by omega) (by omega) (by omega) (by omega)) xl_t150
    by_cases h2_30 : (xs 2).toInt ≤ 29
    · exact xl_app hop [((-2147483648), 2147483647), (29, 29), (0, 2)] (xl_in3 (by omega) (by omega) (by omega) (by omega) (by omega) (by omega)) xl_t151
    by_cases h2_31 : (xs 2).toInt ≤ 30
    · exact xl_app hop [((-2147483648), 2147483647), (30, 30), (0, 2)] (xl_in3 (by omega) (by omega) (by omega) (by omega) (by omega) (by omega)) xl_t152
    by_cases h2_32 : (xs 2).toInt ≤ 31
    · exact xl_app hop [((-2147483648), 2147483647), (31, 31), (0, 2)] (xl_in3 (by omega) (by omega) (by omega) (by omega) (by omega) (by omega)) xl_t153
    by_cases h2_33 : (xs 2).toInt ≤ 32
    · exact xl_app hop [((-2147483648), 2147483647), (32, 32), (0, 2)] (xl_in3 (by omega) (by omega) (by omega) (by omega) (by omega) (by omega)) xl_t154
    by_cases h2_34 : (xs 2).toInt ≤ 33
    · exact xl_app hop [((-2147483648), 2147483647), (33, 33), (0, 2)] (xl_in3 (by omega) (by omega) (by omega) (by omega) (by omega) (by omega)) xl_t155
    by_cases h2_35 : (xs 2).toInt ≤ 34
    · exact xl_app hop [((-2147483648), 2147483647), (34, 34), (0, 2)] (xl_in3 (by omega) (by omega) (by omega) (by omega) (by omega) (by omega)) xl_t156
    by_cases h2_36 : (xs 2).toInt ≤ 35
    · exact xl_app hop [((-2147483648), 2147483647), (35, 35), (0, 2)] (xl_in3 (by omega) (by omega) (by omega) (by omega) (by omega) (by omega)) xl_t157
    by_cases h2_37 : (xs 2).toInt ≤ 36
    · exact xl_app hop [((-2147483648), 2147483647), (36, 36), (0, 2)] (xl_in3 (by omega) (by omega) (by omega) (by omega) (by omega) (by omega)) xl_t158
    by_cases h2_38 : (xs 2).toInt ≤ 37
    · exact xl_app hop [((-2147483648), 2147483647), (37, 37), (0, 2)] (xl_in3 (by omega) (by omega) (by omega) (by omega) (by omega) (by omega)) xl_t159
    by_cases h2_39 : (xs 2).toInt ≤ 38
    · exact xl_app hop [((-2147483648), 2147483647), (38, 38), (0, 2)] (xl_in3 (by omega) (by omega) (by omega) (by omega) (by omega) (by omega)) xl_t160
    by_cases h2_40 : (xs 2).toInt ≤ 39
    · exact xl_app hop [((-2147483648), 2147483647), (39, 39), (0, 2)] (xl_in3 (by omega) (by omega) (by omega) (by omega) (by omega) (by omega)) xl_t161
    by_cases h2_41 : (xs 2).toInt ≤ 40
    · exact xl_app hop [((-2147483648), 2147483647), (40, 40), (0, 2)] (xl_in3 (by omega) (by omega) (by omega) (by omega) (by omega) (by omega)) xl_t162
    by_cases h2_42 : (xs 2).toInt ≤ 41
    · exact xl_app hop [((-2147483648), 2147483647), (41, 41), (0, 2)] (xl_in3 (by omega) (by omega) (by omega) (by omega) (by omega) (by omega)) xl_t163
    by_cases h2_43 : (xs 2).toInt ≤ 42
    · exact xl_app hop [((-2147483648), 2147483647), (42, 42), (0, 2)] (xl_in3 (by omega) (by omega) (by omega) (by omega) (by omega) (by omega)) xl_t164
    by_cases h2_44 : (xs 2).toInt ≤ 43
    · exact xl_app hop [((-2147483648), 2147483647), (43, 43), (0, 2)] (xl_in3 (by omega) (by omega) (by omega) (by omega) (by omega) (by omega)) xl_t165
    by_cases h2_45 : (xs 2).toInt ≤ 44
    · exact xl_app hop [((-2147483648), 2147483647), (44, 44), (0, 2)] (xl_in3 (by omega) (by omega) (by omega) (by omega) (by omega) (by omega)) xl_t166
    by_cases h2_46 : (xs 2).toInt ≤ 45
    · exact xl_app hop [((-2147483648), 2147483647), (45, 45), (0, 2)] (xl_in3 (by omega) (by omega) (by omega) (by omega) (by omega) (by omega)) xl_t167
    by_cases h2_47 : (xs 2).toInt ≤ 46
    · exact xl_app hop [((-2147483648), 2147483647), (46, 46), (0, 2)] (xl_in3 (by omega) (by omega) (by omega) (by omega) (by omega) (by omega)) xl_t168
    by_cases h2_48 : (xs 2).toInt ≤ 47
    · exact xl_app hop [((-2147483648), 2147483647), (47, 47), (0, 2)] (xl_in3 (by omega) (by omega) (by omega) (by omega) (by omega) (by omega)) xl_t169
    by_cases h2_49 : (xs 2).toInt ≤ 48
    · exact xl_app hop [((-2147483648), 2147483647), (48, 48), (0, 2)] (xl_in3 (by omega) (by omega) (by omega) (by omega) (by omega) (by omega)) xl_t170
    by_cases h2_50 : (xs 2).toInt ≤ 49
    · exact xl_app hop [((-2147483648), 2147483647), (49, 49), (0, 2)] (xl_in3 (by omega) (by omega) (by omega) (by omega) (by omega) (by omega)) xl_t171
    by_cases h2_51 : (xs 2).toInt ≤ 50
    · exact xl_app hop [((-2147483648), 2147483647), (50, 50), (0, 2)] (xl_in3 (by omega) (by omega) (by omega) (by omega) (by omega) (by omega)) xl_t172
    by_cases h2_52 : (xs 2).toInt ≤ 51
    · exact xl_app hop [((-2147483648), 2147483647), (51, 51), (0, 2)] (xl_in3 (by omega) (by omega) (by omega) (by omega) (by omega) (by omega)) xl_t173
    by_cases h2_53 : (xs 2).toInt ≤ 52
    · exact xl_app hop [((-2147483648), 2147483647), (52, 52), (0, 2)] (xl_in3 (by omega) (by omega) (by omega) (by omega) (by omega) (by omega)) xl_t174
    by_cases h2_54 : (xs 2).toInt ≤ 53
    · exact xl_app hop [((-2147483648), 2147483647), (53, 53), (0, 2)] (xl_in3 (by omega) (by omega) (by omega) (by omega) (by omega) (by omega)) xl_t175
    by_cases h2_55 : (xs 2).toInt ≤ 54
    · exact xl_app hop [((-2147483648), 2147483647), (54, 54), (0, 2)] (xl_in3 (by omega) (by omega) (by omega) (by omega) (by omega) (by omega)) xl_t176
    by_cases h2_56 : (xs 2).toInt ≤ 55
    · exact xl_app hop [((-2147483648), 2147483647), (55, 55), (0, 2)] (xl_in3 (by omega) (by omega) (by omega) (by omega) (by omega) (by omega)) xl_t177
    by_cases h2_57 : (xs 2).toInt ≤ 56
    · exact xl_app hop [((-2147483648), 2147483647), (56, 56), (0, 2)] (xl_in3 (by omega) (by omega) (by omega) (by omega) (by omega) (by omega)) xl_t178
    by_cases h2_58 : (xs 2).toInt ≤ 57
    · exact xl_app hop [((-2147483648), 2147483647), (57, 57), (0, 2)] (xl_in3 (by omega) (by omega) (by omega) (by omega) (by omega) (by omega)) xl_t179
    by_cases h2_59 : (xs 2).toInt ≤ 58
    · exact xl_app hop [((-2147483648), 2147483647), (58, 58), (0, 2)] (xl_in3 (by omega) (by omega) (by omega) (by omega) (by omega) (by omega)) xl_t180
    by_cases h2_60 : (xs 2).toInt ≤ 59
    · exact xl_app hop [((-2147483648), 2147483647), (59, 59), (0, 2)] (xl_in3 (by omega) (by omega) (by omega) (by omega) (by omega) (by omega)) xl_t181
    by_cases h2_61 : (xs 2).toInt ≤ 60
    · exact xl_app hop [((-2147483648), 2147483647), (60, 60), (0, 2)] (xl_in3 (by omega) (by omega) (by omega) (by omega) (by omega) (by omega)) xl_t182
    exact xl_app hop [((-2147483648), 2147483647), (61, 2147483647), (0, 2)] (xl_in3 (by omega) (by omega) (by omega) (by omega) (by omega) (by omega)) xl_t183
  exact xl_app hop [((-2147483648), 2147483647), ((-2147483648), 2147483647), (3, 2147483647)] (xl_in3 (by omega) (by omega) (by omega) (by omega) (by omega) (by omega)) xl_t184
theorem xl_op27 {xs : Nat → Int32} (hop : xs 0 &&& 63 = Int32.ofNat 27) : xl_Goal xs 6 := by
  have l1 := xl_lo (xs 1)
  have u1 := xl_hi (xs 1)
  by_cases h1_0 : (xs 1).toInt ≤ (-1)
  · exact xl_app hop [((-2147483648), (-1))] (xl_in1 (by omega) (by omega)) xl_t185
  by_cases h1_1 : (xs 1).toInt ≤ 0
  · exact xl_app hop [(0, 0)] (xl_in1 (by omega) (by omega)) xl_t186
  by_cases h1_2 : (xs 1).toInt ≤ 1
  · exact xl_app hop [(1, 1)] (xl_in1 (by omega) (by omega)) xl_t187
  by_cases h1_3 : (xs 1).toInt ≤ 2
  · exact xl_app hop [(2, 2)] (xl_in1 (by omega) (by omega)) xl_t188
  by_cases h1_4 : (xs 1).toInt ≤ 3
  · exact xl_app hop [(3, 3)] (xl_in1 (by omega) (by omega)) xl_t189
  by_cases h1_5 : (xs 1).toInt ≤ 4
  · exact xl_app hop [(4, 4)] (xl_in1 (by omega) (by omega)) xl_t190
  by_cases h1_6 : (xs 1).toInt ≤ 5
  · exact xl_app hop [(5, 5)] (xl_in1 (by omega) (by omega)) xl_t191
  exact xl_app hop [(6, 2147483647)] (xl_in1 (by omega) (by omega)) xl_t192
theorem xl_op28 {xs : Nat → Int32} (hop : xs 0 &&& 63 = Int32.ofNat 28) : xl_Goal xs 6 := by
  have l1 := xl_lo (xs 1)
  have u1 := xl_hi (xs 1)
  by_cases h1_0 : (xs 1).toInt ≤ (-1)
  · exact xl_app hop [((-2147483648), (-1))] (xl_in1 (by omega) (by omega)) xl_t193
  exact xl_app hop [(0, 2147483647)] (xl_in1 (by omega) (by omega)) xl_t194
theorem xl_op29 {xs : Nat → Int32} (hop : xs 0 &&& 63 = Int32.ofNat 29) : xl_Goal xs 6 := by
  have l1 := xl_lo (xs 1)
  have u1 := xl_hi (xs 1)
  by_cases h1_0 : (xs 1).toInt ≤ (-1)
  · exact xl_appS hop [((-2147483648), (-1))] (xl_in1 (by omega) (by omega)) xl_t195
  by_cases h1_1 : (xs 1).toInt ≤ 0
  · exact xl_app hop [(0, 0)] (xl_in1 (by omega) (by omega)) xl_t196
  exact xl_appS hop [(1, 2147483647)] (xl_in1 (by omega) (by omega)) xl_t197
theorem xl_op30 {xs : Nat → Int32} (hop : xs 0 &&& 63 = Int32.ofNat 30) : xl_Goal xs 6 := by
  have l1 := xl_lo (xs 1)
  have u1 := xl_hi (xs 1)
  have l2 := xl_lo (xs 2)
  have u2 := xl_hi (xs 2)
  by_cases h1_0 : (xs 1).toInt ≤ (-1)
  · exact xl_app hop [((-2147483648), (-1)), ((-2147483648), 2147483647)] (xl_in2 (by omega) (by omega) (by omega) (by omega)) xl_t198
  exact xl_app hop [(0, 2147483647), ((-2147483648), 2147483647)] (xl_in2 (by omega) (by omega) (by omega) (by omega)) xl_t199
theorem xl_op31 {xs : Nat → Int32} (hop : xs 0 &&& 63 = Int32.ofNat 31) : xl_Goal xs 6 := by
  have l1 := xl_lo (xs 1)
  have u1 := xl_hi (xs 1)
  by_cases h1_0 : (xs 1).toInt ≤ (-1)
  · exact xl_app hop [((-2147483648), (-1))] (xl_in1 (by omega) (by omega)) xl_t200
  exact xl_app hop [(0, 2147483647)] (xl_in1 (by omega) (by omega)) xl_t201
theorem xl_op32 {xs : Nat → Int32} (hop : xs 0 &&& 63 = Int32.ofNat 32) : xl_Goal xs 6 := by
  exact xl_app hop [] (xl_in0) xl_t202
theorem xl_op33 {xs : Nat → Int32} (hop : xs 0 &&& 63 = Int32.ofNat 33) : xl_Goal xs 6 := by
  have l1 := xl_lo (xs 1)
  have u1 := xl_hi (xs 1)
  have l2 := xl_lo (xs 2)
  have u2 := xl_hi (xs 2)
  by_cases h1_0 : (xs 1).toInt ≤ (-1)
  · exact xl_app hop [((-2147483648), (-1)), ((-2147483648), 2147483647)] (xl_in2 (by omega) (by omega) (by omega) (by omega)) xl_t203
  exact xl_app hop [(0, 2147483647), ((-2147483648), 2147483647)] (xl_in2 (by omega) (by omega) (by omega) (by omega)) xl_t204
theorem xl_op34 {xs : Nat → Int32} (hop : xs 0 &&& 63 = Int32.ofNat 34) : xl_Goal xs 6 := by
  have l1 := xl_lo (xs 1)
  have u1 := xl_hi (xs 1)
  by_cases h1_0 : (xs 1).toInt ≤ (-1)
  · exact xl_app hop [((-2147483648), (-1))] (xl_in1 (by omega) (by omega)) xl_t205
  by_cases h1_1 : (xs 1).toInt ≤ 0
  · exact xl_app hop [(0, 0)] (xl_in1 (by omega) (by omega)) xl_t206
  by_cases h1_2 : (xs 1).toInt ≤ 1
  · exact xl_app hop [(1, 1)] (xl_in1 (by omega) (by omega)) xl_t207
  exact xl_app hop [(2, 2147483647)] (xl_in1 (by omega) (by omega)) xl_t208
theorem xl_op35 {xs : Nat → Int32} (hop : xs 0 &&& 63 = Int32.ofNat 35) : xl_Goal xs 6 := by
  exact xl_app hop [] (xl_in0) xl_t209
theorem xl_op36 {xs : Nat → Int32} (hop : xs 0 &&& 63 = Int32.ofNat 36) : xl_Goal xs 6 := by
  exact xl_app hop [] (xl_in0) xl_t210
theorem xl_op0 {xs : Nat → Int32} (hop : xs 0 &&& 63 = Int32.ofNat 0) : xl_Goal xs 6 := xl_any (xl_GF_ok hop) rfl xl_tF
theorem xl_opD {xs : Nat → Int32} (h1 : 37 ≤ (xs 0 &&& 63).toInt) (h2 : (xs 0 &&& 63).toInt ≤ 63) : xl_Goal xs 6 := xl_any (xl_GD_ok h1 h2) rfl xl_tD
theorem xl_63 (x : Int32) : 0 ≤ (x &&& 63).toInt ∧ (x &&& 63).toInt ≤ 63 := by
  have h : (x.toBitVec &&& 63#32).toNat ≤ 63 := by
    rw [BitVec.toNat_and]
    exact Nat.and_le_right
  have e : (x &&& 63).toInt = ((x.toBitVec &&& 63#32).toNat : Int) := by
    show (x.toBitVec &&& 63#32).toInt = _
    rw [BitVec.toInt_eq_toNat_cond, if_pos (by omega)]
  omega
theorem xl_six (xs : Nat → Int32) : xl_Goal xs 6 := by
  obtain ⟨h1, h2⟩ := xl_63 (xs 0)
  by_cases hD : 37 ≤ (xs 0 &&& 63).toInt
  · exact xl_opD hD h2
  obtain ⟨n, hn⟩ : ∃ n : Nat, (xs 0 &&& 63).toInt = (n : Int) := ⟨(xs 0 &&& 63).toInt.toNat, by omega⟩
  have hn2 : n < 37 := by omega
  have hop : xs 0 &&& 63 = Int32.ofNat n := by
    rw [← Int32.toInt_inj, hn, xs_zToInt (by omega)]
  match n, hn2, hop with
  | 0, _, hop => exact xl_op0 hop
  | 1, _, hop => exact xl_op1 hop
  | 2, _, hop => exact xl_op2 hop
  | 3, _, hop => exact xl_op3 hop
  | 4, _, hop => exact xl_op4 hop
  | 5, _, hop => exact xl_op5 hop
  | 6, _, hop => exact xl_op6 hop
  | 7, _, hop => exact xl_op7 hop
  | 8, _, hop => exact xl_op8 hop
  | 9, _, hop => exact xl_op9 hop
  | 10, _, hop => exact xl_op10 hop
  | 11, _, hop => exact xl_op11 hop
  | 12, _, hop => exact xl_op12 hop
  | 13, _, hop => exact xl_op13 hop
  | 14, _, hop => exact xl_op14 hop
  | 15, _, hop => exact xl_op15 hop
  | 16, _, hop => exact xl_op16 hop
  | 17, _, hop => exact xl_op17 hop
  | 18, _, hop => exact xl_op18 hop
  | 19, _, hop => exact xl_op19 hop
  | 20, _, hop => exact xl_op20 hop
  | 21, _, hop => exact xl_op21 hop
  | 22, _, hop => exact xl_op22 hop
  | 23, _, hop => exact xl_op23 hop
  | 24, _, hop => exact xl_op24 hop
  | 25, _, hop => exact xl_op25 hop
  | 26, _, hop => exact xl_op26 hop
  | 27, _, hop => exact xl_op27 hop
  | 28, _, hop => exact xl_op28 hop
  | 29, _, hop => exact xl_op29 hop
  | 30, _, hop => exact xl_op30 hop
  | 31, _, hop => exact xl_op31 hop
  | 32, _, hop => exact xl_op32 hop
  | 33, _, hop => exact xl_op33 hop
  | 34, _, hop => exact xl_op34 hop
  | 35, _, hop => exact xl_op35 hop
  | 36, _, hop => exact xl_op36 hop
  | k + 37, h, _ => omega
theorem xl_every (xs : Nat → Int32) (L : Nat) (hL : L ≤ 6) : xl_Goal xs L := by
  match L, hL with
  | 0, _ => exact xl_any (xl_G0_ok xs 0) rfl xl_tS0
  | 1, _ => exact xl_any (xl_G0_ok xs 1) rfl xl_tS1
  | 2, _ => exact xl_any (xl_G0_ok xs 2) rfl xl_tS2
  | 3, _ => exact xl_any (xl_G0_ok xs 3) rfl xl_tS3
  | 4, _ => exact xl_any (xl_G0_ok xs 4) rfl xl_tS4
  | 5, _ => exact xl_any (xl_G0_ok xs 5) rfl xl_tS5
  | 6, _ => exact xl_six xs
  | k + 7, h => omega
end
section
set_option maxHeartbeats 4000000 in
theorem lw_walk (l : Launch) (hl : l.stackTraces = false) (b : Addr) (xs : List Int32) : MetFree l x (headSpec (Jvm.Cond.code x code maxLocals ret :: tables_1) room_1) (lw_P b xs) (fun _ _ _ _ _ => True) lw_Q := by
  refine MetFree.of_bodyS (code := code) (maxLocals := maxLocals) (ret := ret) (by decide) ?_ ?_
  · intro args s m h hn
    obtain ⟨meth, c, h1, h2, h3, h4, h5, h6, -, -⟩ := Cond.code_spec hn (atoms_spec (ws := Jvm.Cond.code x code maxLocals ret :: tables_1) h _ List.mem_cons_self)
    exact ⟨meth, c, h1, h2, h3, h4, h5, h6⟩
  · intro p e s m args below meth c s₁ B hml0 hP _
    obtain ⟨rfl, hx, hbd, hgv⟩ := hP
    obtain ⟨scr, harrAt, hlist, hof, hsmall⟩ := hx
    obtain ⟨hcb, hkn, -, -⟩ := State.arrayAt?_spec harrAt
    have hown : s.vm.findClass R_law = some m.cls := findClass_of_methodNamed B.named
    have hts0 : ∀ c ∈ (Jvm.Cond.code x code maxLocals ret :: tables_1), c.before #[Value.ref b] s = true := atoms_spec (ws := Jvm.Cond.code x code maxLocals ret :: tables_1) B.pre
    have hts : ∀ w ∈ lw_tbl, w.before #[Value.ref b] s = true := k2_hts_sels lw_privs (fun w hw => hts0 w (List.mem_cons_of_mem _ hw)) lw_privs_ok
    have hml : c.maxLocals = 8 := B.maxLocals_eq (hts0 _ List.mem_cons_self)
    have X₀ : Stand p l e room_1 s m #[Value.ref b] below meth c s₁ [] 0 0 := Stand.of_body B
    have hh0 : s₁.heap = s.heap := by rw [B.state]; rfl
    have hsz : scr.slots.size = xs.length := by rw [← Array.length_toList, hlist, List.length_map]
    have hval : ∀ j : Nat, j < xs.length → scr.slots[j]? = some (.int (xs.getD j 0)) := fun j hj => by
      rw [← Array.getElem?_toList, hlist]
      simp [hj]
    have hbl : b < s.heap.size := (Array.getElem?_eq_some_iff.mp hcb).1
    have hX : va_X b xs.length (fun j => xs.getD j 0) s s.heap := ⟨scr, hcb, hof, hkn, hsz, hval⟩
    have K : W p l e room_1 s m #[Value.ref b] below meth c s₁.heap [] 0 0 (lw_Z below #[Value.ref b] s) (entryFrame m ([Value.ref b] : List Value).toArray 8) := by
      rw [hh0]
      exact xl_every (fun j => xs.getD j 0) xs.length hbd p e s m below meth c l b hl ⟨B.exec, B.bytes, B.returns, hml, hown, hts, hX, hbl, B.notSynchronized, hgv, xs_noTab B (hts0 _ List.mem_cons_self)⟩
    obtain ⟨t, a1, o, b1, b2, b3⟩ := K s₁ rfl X₀
    exact ⟨t, o, a1, b1, b2, b3⟩
theorem lw_pre_spec {args : Array Value} {s : State} (h : (Jvm.Cond.and given_1 narrow_1).before args s = true) (hr : rest_1_c.before args s = true) : ∃ (b : Addr) (xs : List Int32), lw_P b xs args s := by
  have hs := flat_of_before _ h
  have hq := flat_of_before _ hr
  have hc : (Cond.count 1).before args s = true := hs _ (by decide +kernel)
  have harr : (Cond.arrayOf (.arg 0) .int).before args s = true := hs _ (by decide +kernel)
  have hle : (Cond.le (.length (.arg 0)) (.int 6)).before args s = true := hs _ (by decide +kernel)
  have hlen : (Cond.isInt (.length (.arg 0))).before args s = true := hq _ (by decide +kernel)
  have hall : (Cond.all (.arg 0) (.isInt (.elem (.arg 0) (.index 0)))).before args s = true := hq _ (by decide +kernel)
  obtain ⟨b, xs, hb, hx⟩ := State.ints_of_pre rfl harr hlen hall
  have hsm : xs.length < 2 ^ 31 := hx.choose_spec.2.2.2
  have hev : (Term.length (.arg 0)).eval args s none [] s = some (.int xs.length.toInt32) := hx.length_eval hb
  have hv := Cond.le_ints hev (show (Term.int 6).eval args s none [] s = some (.int 6) from rfl)
  have hd : xs.length.toInt32 ≤ 6 := by
    simpa [Cond.before, Cond.holds, hv] using hle
  have hN : xs.length ≤ 6 := (Int32.ofNat_le_ofNat hsm (by decide)).mp (show Int32.ofNat xs.length ≤ Int32.ofNat 6 from hd)
  exact ⟨b, xs, Cond.one_arg hc (show args[0]? = some (.ref b) from hb), hx, hN, h⟩
theorem lw_comes (l : Launch) (hl : l.stackTraces = false) : Comes l x (Jvm.Cond.code x code maxLocals ret :: tables_1) room_1 (fun tb e args s => Calls_1 tb e args s ∧ rest_1 tb e args s ∧ Pre_1 tb e args s)
    (fun _ _ args s o t => lw_Q args s o t) := by
  intro p e ha hc hk s m args below hf hfit hheap happ hpre
  obtain ⟨b, xs, hP⟩ := lw_pre_spec hpre.2.2 hpre.2.1
  obtain ⟨k, o, h1, h2, h3, hQ⟩ := lw_walk l hl b xs p e ha hc hk s m args below hf ((Spec.applies_iff_loose hf).mp happ).1 hP trivial
  exact ⟨k, o, h1, h2, h3, hQ⟩
theorem lw_frame {s t : State} {o : Outcome} {args : Array Value} (h : Framed s o t [] 600002 7302232) :
    Framed s o t (fieldLocs frame_1_writes args s ++ arrayLocs frame_1_arrays args s ++ staticLocs frame_1_statics s) 600002 7302232 := h
theorem lw_limb (L : Cond) (hL : ∀ (args : Array Value) (s t : State), L.after args s (.returned (some (.int 1))) t = true) :
    ArmFor flags0 classFile x code maxLocals ret World_1 tables_1 room_1 Calls_1 rest_1 Pre_1
      (fun tb e a s o t => postC L tb e a s o t ∧ Framed s o t (fieldLocs frame_1_writes a s ++ arrayLocs frame_1_arrays a s ++ staticLocs frame_1_statics s) 600002 7302232) := by
  intro l hfl _ _ p e ha hc hk s m args below hf hfit hheap happ hpre
  obtain ⟨k, o, h1, h2, h3, rfl, hF⟩ := lw_comes l (by unfold Launch.stackTraces; rw [hfl]; decide +kernel) p e ha hc hk s m args below hf hfit hheap happ hpre
  exact ⟨k, _, h1, h2, h3, hL args s _, lw_frame hF⟩
end
section
theorem i_vc : Claimed_1_1 ∧ Claimed_1_2 := ⟨lw_limb limb_1_1 (fun args s t => by simp [limb_1_1, Cond.after, Cond.holds, Cond.value]), lw_limb limb_1_2 (fun args s t => Cond.after_iff.mpr (by
  first | (rw [show limb_1_2 = Cond.eq .result (.int 1) from rfl, Cond.eq_ints (x := 1) (y := 1) rfl rfl]; simp; done) | (simp [limb_1_2, Cond.value, Term.eval]; done)))⟩
end
