section
-- ===== PART A: goes FIRST, ahead of the names: the tables' words, and 'selects' of the private methods out of them =====
/-- a private method of a class that the tables say can be made, by its rows of tables_1 -/
def lw_okq (q : MethodName × Nat) : Prop := (q.1.cls ≠ "java/lang/invoke/MethodHandle" ∧ q.1.cls ≠ "java/lang/invoke/VarHandle") ∧ Cond.instantiable q.1.cls q.2 ∈ tables_1 ∧ Cond.privateMethod q.1 ∈ tables_1 ∧ Cond.instanceMethod q.1 ∈ tables_1
theorem lw_p0 : lw_okq (⟨"RiddlePost$ActText", "addAct", "(II)V"⟩, 5) := ⟨⟨by decide +kernel, by decide +kernel⟩, List.mem_of_getElem? (i := 132) (by decide +kernel), List.mem_of_getElem? (i := 246) (by decide +kernel), List.mem_of_getElem? (i := 247) (by decide +kernel)⟩
theorem lw_p1 : lw_okq (⟨"RiddlePost", "mixZone", "(JI)J"⟩, 4) := ⟨⟨by decide +kernel, by decide +kernel⟩, List.mem_of_getElem? (i := 18) (by decide +kernel), List.mem_of_getElem? (i := 271) (by decide +kernel), List.mem_of_getElem? (i := 272) (by decide +kernel)⟩
theorem lw_p2 : lw_okq (⟨"java/lang/Throwable", "fillInStackTrace", "(I)Ljava/lang/Throwable;"⟩, 6) := ⟨⟨by decide +kernel, by decide +kernel⟩, List.mem_of_getElem? (i := 320) (by decide +kernel), List.mem_of_getElem? (i := 318) (by decide +kernel), List.mem_of_getElem? (i := 319) (by decide +kernel)⟩
theorem lw_p3 : lw_okq (⟨"RiddlePost", "mixRiddle", "(JI)J"⟩, 4) := ⟨⟨by decide +kernel, by decide +kernel⟩, List.mem_of_getElem? (i := 18) (by decide +kernel), List.mem_of_getElem? (i := 368) (by decide +kernel), List.mem_of_getElem? (i := 369) (by decide +kernel)⟩
theorem lw_p4 : lw_okq (⟨"RiddlePost$State", "lackingReferrals", "(II)I"⟩, 6) := ⟨⟨by decide +kernel, by decide +kernel⟩, List.mem_of_getElem? (i := 26) (by decide +kernel), List.mem_of_getElem? (i := 432) (by decide +kernel), List.mem_of_getElem? (i := 433) (by decide +kernel)⟩
theorem lw_p5 : lw_okq (⟨"RiddlePost$State", "lacksReferral", "(II)Z"⟩, 6) := ⟨⟨by decide +kernel, by decide +kernel⟩, List.mem_of_getElem? (i := 26) (by decide +kernel), List.mem_of_getElem? (i := 436) (by decide +kernel), List.mem_of_getElem? (i := 437) (by decide +kernel)⟩
theorem lw_p6 : lw_okq (⟨"RiddlePost", "save", "()V"⟩, 4) := ⟨⟨by decide +kernel, by decide +kernel⟩, List.mem_of_getElem? (i := 18) (by decide +kernel), List.mem_of_getElem? (i := 475) (by decide +kernel), List.mem_of_getElem? (i := 476) (by decide +kernel)⟩
theorem lw_p7 : lw_okq (⟨"RiddlePost", "moveOldestToEnd", "()V"⟩, 4) := ⟨⟨by decide +kernel, by decide +kernel⟩, List.mem_of_getElem? (i := 18) (by decide +kernel), List.mem_of_getElem? (i := 479) (by decide +kernel), List.mem_of_getElem? (i := 480) (by decide +kernel)⟩
theorem lw_p8 : lw_okq (⟨"RiddlePost", "savedAt", "(I)LRiddlePost$State;"⟩, 4) := ⟨⟨by decide +kernel, by decide +kernel⟩, List.mem_of_getElem? (i := 18) (by decide +kernel), List.mem_of_getElem? (i := 483) (by decide +kernel), List.mem_of_getElem? (i := 484) (by decide +kernel)⟩
theorem lw_p9 : lw_okq (⟨"RiddlePost", "replaceTruth", "(IIII)I"⟩, 4) := ⟨⟨by decide +kernel, by decide +kernel⟩, List.mem_of_getElem? (i := 18) (by decide +kernel), List.mem_of_getElem? (i := 528) (by decide +kernel), List.mem_of_getElem? (i := 529) (by decide +kernel)⟩
theorem lw_p10 : lw_okq (⟨"RiddlePost$State", "takeReply", "(I)V"⟩, 6) := ⟨⟨by decide +kernel, by decide +kernel⟩, List.mem_of_getElem? (i := 26) (by decide +kernel), List.mem_of_getElem? (i := 580) (by decide +kernel), List.mem_of_getElem? (i := 581) (by decide +kernel)⟩
theorem lw_p11 : lw_okq (⟨"RiddlePost$State", "askTheWay", "(I)V"⟩, 6) := ⟨⟨by decide +kernel, by decide +kernel⟩, List.mem_of_getElem? (i := 26) (by decide +kernel), List.mem_of_getElem? (i := 584) (by decide +kernel), List.mem_of_getElem? (i := 585) (by decide +kernel)⟩
theorem lw_p12 : lw_okq (⟨"RiddlePost$State", "askRiddle", "(II)V"⟩, 6) := ⟨⟨by decide +kernel, by decide +kernel⟩, List.mem_of_getElem? (i := 26) (by decide +kernel), List.mem_of_getElem? (i := 595) (by decide +kernel), List.mem_of_getElem? (i := 596) (by decide +kernel)⟩
theorem lw_p13 : lw_okq (⟨"RiddlePost$State", "isOver", "(I)Z"⟩, 6) := ⟨⟨by decide +kernel, by decide +kernel⟩, List.mem_of_getElem? (i := 26) (by decide +kernel), List.mem_of_getElem? (i := 628) (by decide +kernel), List.mem_of_getElem? (i := 629) (by decide +kernel)⟩
theorem lw_p14 : lw_okq (⟨"RiddlePost$State", "dropReferral", "(I)V"⟩, 6) := ⟨⟨by decide +kernel, by decide +kernel⟩, List.mem_of_getElem? (i := 26) (by decide +kernel), List.mem_of_getElem? (i := 632) (by decide +kernel), List.mem_of_getElem? (i := 633) (by decide +kernel)⟩
theorem lw_p15 : lw_okq (⟨"RiddlePost", "letHappen", "(I)Z"⟩, 4) := ⟨⟨by decide +kernel, by decide +kernel⟩, List.mem_of_getElem? (i := 18) (by decide +kernel), List.mem_of_getElem? (i := 717) (by decide +kernel), List.mem_of_getElem? (i := 718) (by decide +kernel)⟩
def lw_privs_1 : List (MethodName × Nat) := [(⟨"RiddlePost$ActText", "addAct", "(II)V"⟩, 5), (⟨"RiddlePost", "mixZone", "(JI)J"⟩, 4), (⟨"java/lang/Throwable", "fillInStackTrace", "(I)Ljava/lang/Throwable;"⟩, 6), (⟨"RiddlePost", "mixRiddle", "(JI)J"⟩, 4), (⟨"RiddlePost$State", "lackingReferrals", "(II)I"⟩, 6), (⟨"RiddlePost$State", "lacksReferral", "(II)Z"⟩, 6), (⟨"RiddlePost", "save", "()V"⟩, 4), (⟨"RiddlePost", "moveOldestToEnd", "()V"⟩, 4), (⟨"RiddlePost", "savedAt", "(I)LRiddlePost$State;"⟩, 4), (⟨"RiddlePost", "replaceTruth", "(IIII)I"⟩, 4), (⟨"RiddlePost$State", "takeReply", "(I)V"⟩, 6), (⟨"RiddlePost$State", "askTheWay", "(I)V"⟩, 6), (⟨"RiddlePost$State", "askRiddle", "(II)V"⟩, 6), (⟨"RiddlePost$State", "isOver", "(I)Z"⟩, 6), (⟨"RiddlePost$State", "dropReferral", "(I)V"⟩, 6), (⟨"RiddlePost", "letHappen", "(I)Z"⟩, 4)]
theorem lw_r1 : ∀ q ∈ lw_privs_1, lw_okq q := List.forall_mem_cons.mpr ⟨lw_p0, List.forall_mem_cons.mpr ⟨lw_p1, List.forall_mem_cons.mpr ⟨lw_p2, List.forall_mem_cons.mpr ⟨lw_p3, List.forall_mem_cons.mpr ⟨lw_p4, List.forall_mem_cons.mpr ⟨lw_p5, List.forall_mem_cons.mpr ⟨lw_p6, List.forall_mem_cons.mpr ⟨lw_p7, List.forall_mem_cons.mpr ⟨lw_p8, List.forall_mem_cons.mpr ⟨lw_p9, List.forall_mem_cons.mpr ⟨lw_p10, List.forall_mem_cons.mpr ⟨lw_p11, List.forall_mem_cons.mpr ⟨lw_p12, List.forall_mem_cons.mpr ⟨lw_p13, List.forall_mem_cons.mpr ⟨lw_p14, List.forall_mem_cons.mpr ⟨lw_p15, fun _ h => absurd h List.not_mem_nil⟩⟩⟩⟩⟩⟩⟩⟩⟩⟩⟩⟩⟩⟩⟩⟩
theorem lw_p16 : lw_okq (⟨"RiddlePostModel", "putsZone", "(III)V"⟩, 11) := ⟨⟨by decide +kernel, by decide +kernel⟩, List.mem_of_getElem? (i := 729) (by decide +kernel), List.mem_of_getElem? (i := 735) (by decide +kernel), List.mem_of_getElem? (i := 736) (by decide +kernel)⟩
theorem lw_p17 : lw_okq (⟨"RiddlePostModel", "puts", "(III)V"⟩, 11) := ⟨⟨by decide +kernel, by decide +kernel⟩, List.mem_of_getElem? (i := 729) (by decide +kernel), List.mem_of_getElem? (i := 739) (by decide +kernel), List.mem_of_getElem? (i := 740) (by decide +kernel)⟩
theorem lw_p18 : lw_okq (⟨"RiddlePostModel", "record", "()V"⟩, 11) := ⟨⟨by decide +kernel, by decide +kernel⟩, List.mem_of_getElem? (i := 729) (by decide +kernel), List.mem_of_getElem? (i := 788) (by decide +kernel), List.mem_of_getElem? (i := 789) (by decide +kernel)⟩
theorem lw_p19 : lw_okq (⟨"RiddlePostModel", "ofZone", "(II)I"⟩, 11) := ⟨⟨by decide +kernel, by decide +kernel⟩, List.mem_of_getElem? (i := 729) (by decide +kernel), List.mem_of_getElem? (i := 795) (by decide +kernel), List.mem_of_getElem? (i := 796) (by decide +kernel)⟩
theorem lw_p20 : lw_okq (⟨"RiddlePostModel", "gives", "(IIII)I"⟩, 11) := ⟨⟨by decide +kernel, by decide +kernel⟩, List.mem_of_getElem? (i := 729) (by decide +kernel), List.mem_of_getElem? (i := 816) (by decide +kernel), List.mem_of_getElem? (i := 817) (by decide +kernel)⟩
theorem lw_p21 : lw_okq (⟨"RiddlePostModel", "of", "(II)I"⟩, 11) := ⟨⟨by decide +kernel, by decide +kernel⟩, List.mem_of_getElem? (i := 729) (by decide +kernel), List.mem_of_getElem? (i := 820) (by decide +kernel), List.mem_of_getElem? (i := 821) (by decide +kernel)⟩
theorem lw_p22 : lw_okq (⟨"RiddlePostModel", "solvesFirst", "(I)I"⟩, 11) := ⟨⟨by decide +kernel, by decide +kernel⟩, List.mem_of_getElem? (i := 729) (by decide +kernel), List.mem_of_getElem? (i := 836) (by decide +kernel), List.mem_of_getElem? (i := 837) (by decide +kernel)⟩
theorem lw_p23 : lw_okq (⟨"RiddlePostModel", "solves", "(I)I"⟩, 11) := ⟨⟨by decide +kernel, by decide +kernel⟩, List.mem_of_getElem? (i := 729) (by decide +kernel), List.mem_of_getElem? (i := 840) (by decide +kernel), List.mem_of_getElem? (i := 841) (by decide +kernel)⟩
theorem lw_p24 : lw_okq (⟨"RiddlePostModel", "asks", "(I)V"⟩, 11) := ⟨⟨by decide +kernel, by decide +kernel⟩, List.mem_of_getElem? (i := 729) (by decide +kernel), List.mem_of_getElem? (i := 844) (by decide +kernel), List.mem_of_getElem? (i := 845) (by decide +kernel)⟩
theorem lw_p25 : lw_okq (⟨"RiddlePostModel", "comesTo", "(I)V"⟩, 11) := ⟨⟨by decide +kernel, by decide +kernel⟩, List.mem_of_getElem? (i := 729) (by decide +kernel), List.mem_of_getElem? (i := 848) (by decide +kernel), List.mem_of_getElem? (i := 849) (by decide +kernel)⟩
theorem lw_p26 : lw_okq (⟨"RiddlePostModel", "costs", "(I)V"⟩, 11) := ⟨⟨by decide +kernel, by decide +kernel⟩, List.mem_of_getElem? (i := 729) (by decide +kernel), List.mem_of_getElem? (i := 852) (by decide +kernel), List.mem_of_getElem? (i := 853) (by decide +kernel)⟩
theorem lw_p27 : lw_okq (⟨"RiddlePostModel", "forgets", "(I)V"⟩, 11) := ⟨⟨by decide +kernel, by decide +kernel⟩, List.mem_of_getElem? (i := 729) (by decide +kernel), List.mem_of_getElem? (i := 860) (by decide +kernel), List.mem_of_getElem? (i := 861) (by decide +kernel)⟩
theorem lw_p28 : lw_okq (⟨"RiddlePostModel", "passes", "(I)I"⟩, 11) := ⟨⟨by decide +kernel, by decide +kernel⟩, List.mem_of_getElem? (i := 729) (by decide +kernel), List.mem_of_getElem? (i := 868) (by decide +kernel), List.mem_of_getElem? (i := 869) (by decide +kernel)⟩
theorem lw_p29 : lw_okq (⟨"RiddlePostModel", "tells", "(I)I"⟩, 11) := ⟨⟨by decide +kernel, by decide +kernel⟩, List.mem_of_getElem? (i := 729) (by decide +kernel), List.mem_of_getElem? (i := 876) (by decide +kernel), List.mem_of_getElem? (i := 877) (by decide +kernel)⟩
theorem lw_p30 : lw_okq (⟨"RiddlePostModel", "tellsZone", "(II)I"⟩, 11) := ⟨⟨by decide +kernel, by decide +kernel⟩, List.mem_of_getElem? (i := 729) (by decide +kernel), List.mem_of_getElem? (i := 884) (by decide +kernel), List.mem_of_getElem? (i := 885) (by decide +kernel)⟩
theorem lw_p31 : lw_okq (⟨"RiddlePostModel", "depth", "(I)I"⟩, 11) := ⟨⟨by decide +kernel, by decide +kernel⟩, List.mem_of_getElem? (i := 729) (by decide +kernel), List.mem_of_getElem? (i := 892) (by decide +kernel), List.mem_of_getElem? (i := 893) (by decide +kernel)⟩
def lw_privs_2 : List (MethodName × Nat) := [(⟨"RiddlePostModel", "putsZone", "(III)V"⟩, 11), (⟨"RiddlePostModel", "puts", "(III)V"⟩, 11), (⟨"RiddlePostModel", "record", "()V"⟩, 11), (⟨"RiddlePostModel", "ofZone", "(II)I"⟩, 11), (⟨"RiddlePostModel", "gives", "(IIII)I"⟩, 11), (⟨"RiddlePostModel", "of", "(II)I"⟩, 11), (⟨"RiddlePostModel", "solvesFirst", "(I)I"⟩, 11), (⟨"RiddlePostModel", "solves", "(I)I"⟩, 11), (⟨"RiddlePostModel", "asks", "(I)V"⟩, 11), (⟨"RiddlePostModel", "comesTo", "(I)V"⟩, 11), (⟨"RiddlePostModel", "costs", "(I)V"⟩, 11), (⟨"RiddlePostModel", "forgets", "(I)V"⟩, 11), (⟨"RiddlePostModel", "passes", "(I)I"⟩, 11), (⟨"RiddlePostModel", "tells", "(I)I"⟩, 11), (⟨"RiddlePostModel", "tellsZone", "(II)I"⟩, 11), (⟨"RiddlePostModel", "depth", "(I)I"⟩, 11)]
theorem lw_r2 : ∀ q ∈ lw_privs_2, lw_okq q := List.forall_mem_cons.mpr ⟨lw_p16, List.forall_mem_cons.mpr ⟨lw_p17, List.forall_mem_cons.mpr ⟨lw_p18, List.forall_mem_cons.mpr ⟨lw_p19, List.forall_mem_cons.mpr ⟨lw_p20, List.forall_mem_cons.mpr ⟨lw_p21, List.forall_mem_cons.mpr ⟨lw_p22, List.forall_mem_cons.mpr ⟨lw_p23, List.forall_mem_cons.mpr ⟨lw_p24, List.forall_mem_cons.mpr ⟨lw_p25, List.forall_mem_cons.mpr ⟨lw_p26, List.forall_mem_cons.mpr ⟨lw_p27, List.forall_mem_cons.mpr ⟨lw_p28, List.forall_mem_cons.mpr ⟨lw_p29, List.forall_mem_cons.mpr ⟨lw_p30, List.forall_mem_cons.mpr ⟨lw_p31, fun _ h => absurd h List.not_mem_nil⟩⟩⟩⟩⟩⟩⟩⟩⟩⟩⟩⟩⟩⟩⟩⟩
theorem lw_p32 : lw_okq (⟨"RiddlePostModel", "tellsRiddle", "(II)I"⟩, 11) := ⟨⟨by decide +kernel, by decide +kernel⟩, List.mem_of_getElem? (i := 729) (by decide +kernel), List.mem_of_getElem? (i := 900) (by decide +kernel), List.mem_of_getElem? (i := 901) (by decide +kernel)⟩
theorem lw_p33 : lw_okq (⟨"RiddlePostModel", "truth", "(I)I"⟩, 11) := ⟨⟨by decide +kernel, by decide +kernel⟩, List.mem_of_getElem? (i := 729) (by decide +kernel), List.mem_of_getElem? (i := 912) (by decide +kernel), List.mem_of_getElem? (i := 913) (by decide +kernel)⟩
theorem lw_p34 : lw_okq (⟨"RiddlePostModel", "leftUntil", "(I)I"⟩, 11) := ⟨⟨by decide +kernel, by decide +kernel⟩, List.mem_of_getElem? (i := 729) (by decide +kernel), List.mem_of_getElem? (i := 924) (by decide +kernel), List.mem_of_getElem? (i := 925) (by decide +kernel)⟩
theorem lw_p35 : lw_okq (⟨"RiddlePostModel", "memories", "()I"⟩, 11) := ⟨⟨by decide +kernel, by decide +kernel⟩, List.mem_of_getElem? (i := 729) (by decide +kernel), List.mem_of_getElem? (i := 936) (by decide +kernel), List.mem_of_getElem? (i := 937) (by decide +kernel)⟩
theorem lw_p36 : lw_okq (⟨"RiddlePostModel", "untilForgetting", "()I"⟩, 11) := ⟨⟨by decide +kernel, by decide +kernel⟩, List.mem_of_getElem? (i := 729) (by decide +kernel), List.mem_of_getElem? (i := 948) (by decide +kernel), List.mem_of_getElem? (i := 949) (by decide +kernel)⟩
theorem lw_p37 : lw_okq (⟨"RiddlePostModel", "isOld", "(I)Z"⟩, 11) := ⟨⟨by decide +kernel, by decide +kernel⟩, List.mem_of_getElem? (i := 729) (by decide +kernel), List.mem_of_getElem? (i := 959) (by decide +kernel), List.mem_of_getElem? (i := 960) (by decide +kernel)⟩
theorem lw_p38 : lw_okq (⟨"RiddlePostModel", "would", "(I)I"⟩, 11) := ⟨⟨by decide +kernel, by decide +kernel⟩, List.mem_of_getElem? (i := 729) (by decide +kernel), List.mem_of_getElem? (i := 987) (by decide +kernel), List.mem_of_getElem? (i := 988) (by decide +kernel)⟩
theorem lw_p39 : lw_okq (⟨"RiddlePostModel", "cost", "(I)I"⟩, 11) := ⟨⟨by decide +kernel, by decide +kernel⟩, List.mem_of_getElem? (i := 729) (by decide +kernel), List.mem_of_getElem? (i := 995) (by decide +kernel), List.mem_of_getElem? (i := 996) (by decide +kernel)⟩
theorem lw_p40 : lw_okq (⟨"RiddlePostModel", "wouldIn", "(II)I"⟩, 11) := ⟨⟨by decide +kernel, by decide +kernel⟩, List.mem_of_getElem? (i := 729) (by decide +kernel), List.mem_of_getElem? (i := 1003) (by decide +kernel), List.mem_of_getElem? (i := 1004) (by decide +kernel)⟩
theorem lw_p41 : lw_okq (⟨"RiddlePostModel", "findError", "()I"⟩, 11) := ⟨⟨by decide +kernel, by decide +kernel⟩, List.mem_of_getElem? (i := 729) (by decide +kernel), List.mem_of_getElem? (i := 1019) (by decide +kernel), List.mem_of_getElem? (i := 1020) (by decide +kernel)⟩
theorem lw_p42 : lw_okq (⟨"RiddlePostModel", "readsAct", "()Z"⟩, 11) := ⟨⟨by decide +kernel, by decide +kernel⟩, List.mem_of_getElem? (i := 729) (by decide +kernel), List.mem_of_getElem? (i := 1023) (by decide +kernel), List.mem_of_getElem? (i := 1024) (by decide +kernel)⟩
theorem lw_p43 : lw_okq (⟨"RiddlePostModel", "accepts", "(II)Z"⟩, 11) := ⟨⟨by decide +kernel, by decide +kernel⟩, List.mem_of_getElem? (i := 729) (by decide +kernel), List.mem_of_getElem? (i := 1027) (by decide +kernel), List.mem_of_getElem? (i := 1028) (by decide +kernel)⟩
theorem lw_p44 : lw_okq (⟨"RiddlePostModel", "readsNumber", "(II)Z"⟩, 11) := ⟨⟨by decide +kernel, by decide +kernel⟩, List.mem_of_getElem? (i := 729) (by decide +kernel), List.mem_of_getElem? (i := 1031) (by decide +kernel), List.mem_of_getElem? (i := 1032) (by decide +kernel)⟩
theorem lw_p45 : lw_okq (⟨"RiddlePostModel", "happens", "()Z"⟩, 11) := ⟨⟨by decide +kernel, by decide +kernel⟩, List.mem_of_getElem? (i := 729) (by decide +kernel), List.mem_of_getElem? (i := 1039) (by decide +kernel), List.mem_of_getElem? (i := 1040) (by decide +kernel)⟩
def lw_privs_3 : List (MethodName × Nat) := [(⟨"RiddlePostModel", "tellsRiddle", "(II)I"⟩, 11), (⟨"RiddlePostModel", "truth", "(I)I"⟩, 11), (⟨"RiddlePostModel", "leftUntil", "(I)I"⟩, 11), (⟨"RiddlePostModel", "memories", "()I"⟩, 11), (⟨"RiddlePostModel", "untilForgetting", "()I"⟩, 11), (⟨"RiddlePostModel", "isOld", "(I)Z"⟩, 11), (⟨"RiddlePostModel", "would", "(I)I"⟩, 11), (⟨"RiddlePostModel", "cost", "(I)I"⟩, 11), (⟨"RiddlePostModel", "wouldIn", "(II)I"⟩, 11), (⟨"RiddlePostModel", "findError", "()I"⟩, 11), (⟨"RiddlePostModel", "readsAct", "()Z"⟩, 11), (⟨"RiddlePostModel", "accepts", "(II)Z"⟩, 11), (⟨"RiddlePostModel", "readsNumber", "(II)Z"⟩, 11), (⟨"RiddlePostModel", "happens", "()Z"⟩, 11)]
theorem lw_r3 : ∀ q ∈ lw_privs_3, lw_okq q := List.forall_mem_cons.mpr ⟨lw_p32, List.forall_mem_cons.mpr ⟨lw_p33, List.forall_mem_cons.mpr ⟨lw_p34, List.forall_mem_cons.mpr ⟨lw_p35, List.forall_mem_cons.mpr ⟨lw_p36, List.forall_mem_cons.mpr ⟨lw_p37, List.forall_mem_cons.mpr ⟨lw_p38, List.forall_mem_cons.mpr ⟨lw_p39, List.forall_mem_cons.mpr ⟨lw_p40, List.forall_mem_cons.mpr ⟨lw_p41, List.forall_mem_cons.mpr ⟨lw_p42, List.forall_mem_cons.mpr ⟨lw_p43, List.forall_mem_cons.mpr ⟨lw_p44, List.forall_mem_cons.mpr ⟨lw_p45, fun _ h => absurd h List.not_mem_nil⟩⟩⟩⟩⟩⟩⟩⟩⟩⟩⟩⟩⟩⟩
def lw_privs : List (MethodName × Nat) := lw_privs_1 ++ (lw_privs_2 ++ (lw_privs_3))
def lw_tbl : List Cond := k2_sels lw_privs ++ tables_1
theorem lw_privs_ok : ∀ q ∈ lw_privs, lw_okq q := by
  show ∀ q ∈ lw_privs_1 ++ (lw_privs_2 ++ (lw_privs_3)), lw_okq q
  exact List.forall_mem_append.mpr ⟨lw_r1, List.forall_mem_append.mpr ⟨lw_r2, lw_r3⟩⟩
/-- the streams that the claim lets the run draw from -/
abbrev lw_cs : List Choice := [Jvm.Choice.named "NaN.bits"]
theorem lw_bits : nanBits ∈ lw_cs := by first | decide | exact List.mem_cons_self | simp [lw_cs, nanBits]
end
section
/-! the names (out of the printed text of names), and the words that the methods need, by their places in the tables; written by mknames.py -/
def RX0 : String := "RiddlePost$Accounts"
def TX0 : u_T := fun k => match k with
  | 0 => ("RiddlePost$Accounts", "solved", "I", false)
  | 1 => ("RiddlePost$Accounts", "questions", "I", false)
  | 2 => ("RiddlePost$Accounts", "hits", "I", false)
  | 3 => ("RiddlePost$Accounts", "timesRemembered", "I", false)
  | 4 => ("RiddlePost$Accounts", "timesForgotten", "I", false)
  | _ => ("RiddlePost$Accounts", "asked", "[I", true)
def tyX0 : Nat → FieldType := fun k => match k with
  | 0 => .int
  | 1 => .int
  | 2 => .int
  | 3 => .int
  | 4 => .int
  | _ => .array .int
abbrev wsX00 : List Cond := u_ws RX0 TX0 6
theorem nmX0 : ∀ a, a < 6 → ∀ b, b < 6 → a ≠ b → (TX0 a).2.1 ≠ (TX0 b).2.1 := by decide +kernel
theorem tyX0_ok : ∀ k, k < 6 → parseFieldDescriptor (TX0 k).2.2.1 = some (tyX0 k) := by decide +kernel
abbrev cX0_init : ByteArray := prog_2_method_1_code
def yX0_init : MethodName := ⟨RX0, "<init>", "()V"⟩
abbrev cX0_copyFrom : ByteArray := prog_2_method_2_code
def yX0_copyFrom : MethodName := ⟨RX0, "copyFrom", "(LRiddlePost$Accounts;)V"⟩
abbrev cX0_countQuestionTo : ByteArray := prog_2_method_3_code
def yX0_countQuestionTo : MethodName := ⟨RX0, "countQuestionTo", "(I)V"⟩
def RX1 : String := "RiddlePost$ActText"
def TX1 : u_T := fun k => match k with
  | 0 => ("RiddlePost$ActText", "codes", "[I", true)
  | 1 => ("RiddlePost$ActText", "length", "I", false)
  | 2 => ("RiddlePost$ActText", "actSigns", "[I", true)
  | 3 => ("RiddlePost$ActText", "actNumbers", "[I", true)
  | _ => ("RiddlePost$ActText", "acts", "I", false)
def tyX1 : Nat → FieldType := fun k => match k with
  | 0 => .array .int
  | 1 => .int
  | 2 => .array .int
  | 3 => .array .int
  | _ => .int
abbrev wsX10 : List Cond := u_ws RX1 TX1 5
theorem nmX1 : ∀ a, a < 5 → ∀ b, b < 5 → a ≠ b → (TX1 a).2.1 ≠ (TX1 b).2.1 := by decide +kernel
theorem tyX1_ok : ∀ k, k < 5 → parseFieldDescriptor (TX1 k).2.2.1 = some (tyX1 k) := by decide +kernel
abbrev cX1_init : ByteArray := prog_3_method_1_code
def yX1_init : MethodName := ⟨RX1, "<init>", "()V"⟩
abbrev cX1_add : ByteArray := prog_3_method_2_code
def yX1_add : MethodName := ⟨RX1, "add", "(I)V"⟩
abbrev cX1_readActs : ByteArray := prog_3_method_3_code
def yX1_readActs : MethodName := ⟨RX1, "readActs", "()I"⟩
abbrev cX1_addAct : ByteArray := prog_3_method_4_code
def yX1_addAct : MethodName := ⟨RX1, "addAct", "(II)V"⟩
abbrev cX1_withDigit : ByteArray := prog_3_method_5_code
def yX1_withDigit : MethodName := ⟨RX1, "withDigit", "(III)I"⟩
def RX2 : String := "RiddlePost$Replies"
def TX2 : u_T := fun k => match k with
  | 0 => ("RiddlePost$Replies", "kinds", "[I", true)
  | 1 => ("RiddlePost$Replies", "values", "[I", true)
  | _ => ("RiddlePost$Replies", "ticks", "[I", true)
def tyX2 : Nat → FieldType := fun k => match k with
  | 0 => .array .int
  | 1 => .array .int
  | _ => .array .int
abbrev wsX20 : List Cond := u_ws RX2 TX2 3
theorem nmX2 : ∀ a, a < 3 → ∀ b, b < 3 → a ≠ b → (TX2 a).2.1 ≠ (TX2 b).2.1 := by decide +kernel
theorem tyX2_ok : ∀ k, k < 3 → parseFieldDescriptor (TX2 k).2.2.1 = some (tyX2 k) := by decide +kernel
abbrev cX2_init : ByteArray := prog_4_method_1_code
def yX2_init : MethodName := ⟨RX2, "<init>", "()V"⟩
abbrev cX2_copyFrom : ByteArray := prog_4_method_2_code
def yX2_copyFrom : MethodName := ⟨RX2, "copyFrom", "(LRiddlePost$Replies;)V"⟩
abbrev cX2_put : ByteArray := prog_4_method_3_code
def yX2_put : MethodName := ⟨RX2, "put", "(IIII)V"⟩
abbrev cX2_kind : ByteArray := prog_4_method_4_code
def yX2_kind : MethodName := ⟨RX2, "kind", "(I)I"⟩
abbrev cX2_value : ByteArray := prog_4_method_5_code
def yX2_value : MethodName := ⟨RX2, "value", "(I)I"⟩
abbrev cX2_ticks : ByteArray := prog_4_method_6_code
def yX2_ticks : MethodName := ⟨RX2, "ticks", "(I)I"⟩
def RX3 : String := "RiddlePost$State"
def TX3 : u_T := fun k => match k with
  | 0 => ("RiddlePost$State", "time", "I", false)
  | 1 => ("RiddlePost$State", "zones", "LRiddlePost$Zones;", true)
  | 2 => ("RiddlePost$State", "truths", "LRiddlePost$Replies;", true)
  | 3 => ("RiddlePost$State", "memory", "LRiddlePost$Replies;", true)
  | 4 => ("RiddlePost$State", "referralEnds", "[I", true)
  | _ => ("RiddlePost$State", "accounts", "LRiddlePost$Accounts;", true)
def tyX3 : Nat → FieldType := fun k => match k with
  | 0 => .int
  | 1 => .object "RiddlePost$Zones"
  | 2 => .object "RiddlePost$Replies"
  | 3 => .object "RiddlePost$Replies"
  | 4 => .array .int
  | _ => .object "RiddlePost$Accounts"
abbrev wsX30 : List Cond := u_ws RX3 TX3 6
theorem nmX3 : ∀ a, a < 6 → ∀ b, b < 6 → a ≠ b → (TX3 a).2.1 ≠ (TX3 b).2.1 := by decide +kernel
theorem tyX3_ok : ∀ k, k < 6 → parseFieldDescriptor (TX3 k).2.2.1 = some (tyX3 k) := by decide +kernel
abbrev cX3_init : ByteArray := prog_5_method_1_code
def yX3_init : MethodName := ⟨RX3, "<init>", "()V"⟩
abbrev cX3_copyFrom : ByteArray := prog_5_method_2_code
def yX3_copyFrom : MethodName := ⟨RX3, "copyFrom", "(LRiddlePost$State;)V"⟩
abbrev cX3_findResult : ByteArray := prog_5_method_3_code
def yX3_findResult : MethodName := ⟨RX3, "findResult", "(I)I"⟩
abbrev cX3_takeReply : ByteArray := prog_5_method_4_code
def yX3_takeReply : MethodName := ⟨RX3, "takeReply", "(I)V"⟩
abbrev cX3_askTheWay : ByteArray := prog_5_method_5_code
def yX3_askTheWay : MethodName := ⟨RX3, "askTheWay", "(I)V"⟩
abbrev cX3_askRiddle : ByteArray := prog_5_method_6_code
def yX3_askRiddle : MethodName := ⟨RX3, "askRiddle", "(II)V"⟩
abbrev cX3_lackingReferrals : ByteArray := prog_5_method_7_code
def yX3_lackingReferrals : MethodName := ⟨RX3, "lackingReferrals", "(II)I"⟩
abbrev cX3_lacksReferral : ByteArray := prog_5_method_8_code
def yX3_lacksReferral : MethodName := ⟨RX3, "lacksReferral", "(II)Z"⟩
abbrev cX3_dropReply : ByteArray := prog_5_method_9_code
def yX3_dropReply : MethodName := ⟨RX3, "dropReply", "(I)V"⟩
abbrev cX3_dropReferral : ByteArray := prog_5_method_10_code
def yX3_dropReferral : MethodName := ⟨RX3, "dropReferral", "(I)V"⟩
abbrev cX3_hasRoomFor : ByteArray := prog_5_method_11_code
def yX3_hasRoomFor : MethodName := ⟨RX3, "hasRoomFor", "(I)Z"⟩
abbrev cX3_letPass : ByteArray := prog_5_method_12_code
def yX3_letPass : MethodName := ⟨RX3, "letPass", "(I)I"⟩
abbrev cX3_isOver : ByteArray := prog_5_method_13_code
def yX3_isOver : MethodName := ⟨RX3, "isOver", "(I)Z"⟩
abbrev cX3_ticksTo : ByteArray := prog_5_method_14_code
def yX3_ticksTo : MethodName := ⟨RX3, "ticksTo", "(I)I"⟩
abbrev cX3_countMemory : ByteArray := prog_5_method_15_code
def yX3_countMemory : MethodName := ⟨RX3, "countMemory", "()I"⟩
abbrev cX3_nextEnd : ByteArray := prog_5_method_16_code
def yX3_nextEnd : MethodName := ⟨RX3, "nextEnd", "()I"⟩
abbrev cX3_earlierEnd : ByteArray := prog_5_method_17_code
def yX3_earlierEnd : MethodName := ⟨RX3, "earlierEnd", "(II)I"⟩
abbrev cX3_differsFromTruth : ByteArray := prog_5_method_18_code
def yX3_differsFromTruth : MethodName := ⟨RX3, "differsFromTruth", "(I)Z"⟩
abbrev cX3_resultAfter : ByteArray := prog_5_method_19_code
def yX3_resultAfter : MethodName := ⟨RX3, "resultAfter", "(II)I"⟩
abbrev cX3_trueResult : ByteArray := prog_5_method_20_code
def yX3_trueResult : MethodName := ⟨RX3, "trueResult", "(I)I"⟩
abbrev cX3_waitForTruth : ByteArray := prog_5_method_21_code
def yX3_waitForTruth : MethodName := ⟨RX3, "waitForTruth", "(I)I"⟩
abbrev cX3_countQuestions : ByteArray := prog_5_method_22_code
def yX3_countQuestions : MethodName := ⟨RX3, "countQuestions", "(I)I"⟩
def RX4 : String := "RiddlePost$Zones"
def TX4 : u_T := fun k => match k with
  | 0 => ("RiddlePost$Zones", "parents", "[I", true)
  | 1 => ("RiddlePost$Zones", "referralAges", "[I", true)
  | _ => ("RiddlePost$Zones", "refusalAges", "[I", true)
def tyX4 : Nat → FieldType := fun k => match k with
  | 0 => .array .int
  | 1 => .array .int
  | _ => .array .int
abbrev wsX40 : List Cond := u_ws RX4 TX4 3
theorem nmX4 : ∀ a, a < 3 → ∀ b, b < 3 → a ≠ b → (TX4 a).2.1 ≠ (TX4 b).2.1 := by decide +kernel
theorem tyX4_ok : ∀ k, k < 3 → parseFieldDescriptor (TX4 k).2.2.1 = some (tyX4 k) := by decide +kernel
abbrev cX4_init : ByteArray := prog_6_method_1_code
def yX4_init : MethodName := ⟨RX4, "<init>", "()V"⟩
abbrev cX4_copyFrom : ByteArray := prog_6_method_2_code
def yX4_copyFrom : MethodName := ⟨RX4, "copyFrom", "(LRiddlePost$Zones;)V"⟩
abbrev cX4_stepsToRoot : ByteArray := prog_6_method_3_code
def yX4_stepsToRoot : MethodName := ⟨RX4, "stepsToRoot", "(I)I"⟩
def RX5 : String := "RiddlePost"
def TX5 : u_T := fun k => match k with
  | 0 => ("RiddlePost", "now", "LRiddlePost$State;", true)
  | 1 => ("RiddlePost", "saved", "[LRiddlePost$State;", true)
  | 2 => ("RiddlePost", "savedCount", "I", false)
  | _ => ("RiddlePost", "text", "LRiddlePost$ActText;", true)
def tyX5 : Nat → FieldType := fun k => match k with
  | 0 => .object "RiddlePost$State"
  | 1 => .array (.object "RiddlePost$State")
  | 2 => .int
  | _ => .object "RiddlePost$ActText"
abbrev wsX50 : List Cond := u_ws RX5 TX5 4
theorem nmX5 : ∀ a, a < 4 → ∀ b, b < 4 → a ≠ b → (TX5 a).2.1 ≠ (TX5 b).2.1 := by decide +kernel
theorem tyX5_ok : ∀ k, k < 4 → parseFieldDescriptor (TX5 k).2.2.1 = some (tyX5 k) := by decide +kernel
abbrev cX5_init : ByteArray := prog_1_method_1_code
def yX5_init : MethodName := ⟨RX5, "<init>", "()V"⟩
abbrev cX5_setParent : ByteArray := prog_1_method_2_code
def yX5_setParent : MethodName := ⟨RX5, "setParent", "(II)I"⟩
abbrev cX5_setAges : ByteArray := prog_1_method_3_code
def yX5_setAges : MethodName := ⟨RX5, "setAges", "(III)I"⟩
abbrev cX5_setAnswer : ByteArray := prog_1_method_4_code
def yX5_setAnswer : MethodName := ⟨RX5, "setAnswer", "(III)I"⟩
abbrev cX5_setReference : ByteArray := prog_1_method_5_code
def yX5_setReference : MethodName := ⟨RX5, "setReference", "(III)I"⟩
abbrev cX5_takeAway : ByteArray := prog_1_method_6_code
def yX5_takeAway : MethodName := ⟨RX5, "takeAway", "(I)I"⟩
abbrev cX5_solve : ByteArray := prog_1_method_7_code
def yX5_solve : MethodName := ⟨RX5, "solve", "(I)I"⟩
abbrev cX5_forget : ByteArray := prog_1_method_8_code
def yX5_forget : MethodName := ⟨RX5, "forget", "(I)I"⟩
abbrev cX5_pass : ByteArray := prog_1_method_9_code
def yX5_pass : MethodName := ⟨RX5, "pass", "(I)I"⟩
abbrev cX5_time : ByteArray := prog_1_method_10_code
def yX5_time : MethodName := ⟨RX5, "time", "()I"⟩
abbrev cX5_parentOf : ByteArray := prog_1_method_11_code
def yX5_parentOf : MethodName := ⟨RX5, "parentOf", "(I)I"⟩
abbrev cX5_depthOf : ByteArray := prog_1_method_12_code
def yX5_depthOf : MethodName := ⟨RX5, "depthOf", "(I)I"⟩
abbrev cX5_kindOf : ByteArray := prog_1_method_13_code
def yX5_kindOf : MethodName := ⟨RX5, "kindOf", "(I)I"⟩
abbrev cX5_valueOf : ByteArray := prog_1_method_14_code
def yX5_valueOf : MethodName := ⟨RX5, "valueOf", "(I)I"⟩
abbrev cX5_truthOf : ByteArray := prog_1_method_15_code
def yX5_truthOf : MethodName := ⟨RX5, "truthOf", "(I)I"⟩
abbrev cX5_rememberedOf : ByteArray := prog_1_method_16_code
def yX5_rememberedOf : MethodName := ⟨RX5, "rememberedOf", "(I)I"⟩
abbrev cX5_ticksLeftOf : ByteArray := prog_1_method_17_code
def yX5_ticksLeftOf : MethodName := ⟨RX5, "ticksLeftOf", "(I)I"⟩
abbrev cX5_referralLeft : ByteArray := prog_1_method_18_code
def yX5_referralLeft : MethodName := ⟨RX5, "referralLeft", "(I)I"⟩
abbrev cX5_remembered : ByteArray := prog_1_method_19_code
def yX5_remembered : MethodName := ⟨RX5, "remembered", "()I"⟩
abbrev cX5_rememberedByAccount : ByteArray := prog_1_method_20_code
def yX5_rememberedByAccount : MethodName := ⟨RX5, "rememberedByAccount", "()I"⟩
abbrev cX5_ticksUntilForgetting : ByteArray := prog_1_method_21_code
def yX5_ticksUntilForgetting : MethodName := ⟨RX5, "ticksUntilForgetting", "()I"⟩
abbrev cX5_isOutOfDate : ByteArray := prog_1_method_22_code
def yX5_isOutOfDate : MethodName := ⟨RX5, "isOutOfDate", "(I)Z"⟩
abbrev cX5_solved : ByteArray := prog_1_method_23_code
def yX5_solved : MethodName := ⟨RX5, "solved", "()I"⟩
abbrev cX5_questions : ByteArray := prog_1_method_24_code
def yX5_questions : MethodName := ⟨RX5, "questions", "()I"⟩
abbrev cX5_hits : ByteArray := prog_1_method_25_code
def yX5_hits : MethodName := ⟨RX5, "hits", "()I"⟩
abbrev cX5_questionsTo : ByteArray := prog_1_method_26_code
def yX5_questionsTo : MethodName := ⟨RX5, "questionsTo", "(I)I"⟩
abbrev cX5_meanQuestions : ByteArray := prog_1_method_27_code
def yX5_meanQuestions : MethodName := ⟨RX5, "meanQuestions", "()D"⟩
abbrev cX5_wouldSolve : ByteArray := prog_1_method_28_code
def yX5_wouldSolve : MethodName := ⟨RX5, "wouldSolve", "(I)I"⟩
abbrev cX5_costOf : ByteArray := prog_1_method_29_code
def yX5_costOf : MethodName := ⟨RX5, "costOf", "(I)I"⟩
abbrev cX5_ticksUntilTruth : ByteArray := prog_1_method_30_code
def yX5_ticksUntilTruth : MethodName := ⟨RX5, "ticksUntilTruth", "(I)I"⟩
abbrev cX5_append : ByteArray := prog_1_method_31_code
def yX5_append : MethodName := ⟨RX5, "append", "(I)I"⟩
abbrev cX5_clearText : ByteArray := prog_1_method_32_code
def yX5_clearText : MethodName := ⟨RX5, "clearText", "()I"⟩
abbrev cX5_firstError : ByteArray := prog_1_method_33_code
def yX5_firstError : MethodName := ⟨RX5, "firstError", "()I"⟩
abbrev cX5_runActs : ByteArray := prog_1_method_34_code
def yX5_runActs : MethodName := ⟨RX5, "runActs", "()I"⟩
abbrev cX5_undo : ByteArray := prog_1_method_35_code
def yX5_undo : MethodName := ⟨RX5, "undo", "()I"⟩
abbrev cX5_digest : ByteArray := prog_1_method_36_code
def yX5_digest : MethodName := ⟨RX5, "digest", "()J"⟩
abbrev cX5_mixZone : ByteArray := prog_1_method_37_code
def yX5_mixZone : MethodName := ⟨RX5, "mixZone", "(JI)J"⟩
abbrev cX5_mixRiddle : ByteArray := prog_1_method_38_code
def yX5_mixRiddle : MethodName := ⟨RX5, "mixRiddle", "(JI)J"⟩
abbrev cX5_mix : ByteArray := prog_1_method_39_code
def yX5_mix : MethodName := ⟨RX5, "mix", "(JI)J"⟩
abbrev cX5_replaceTruth : ByteArray := prog_1_method_40_code
def yX5_replaceTruth : MethodName := ⟨RX5, "replaceTruth", "(IIII)I"⟩
abbrev cX5_letHappen : ByteArray := prog_1_method_41_code
def yX5_letHappen : MethodName := ⟨RX5, "letHappen", "(I)Z"⟩
abbrev cX5_save : ByteArray := prog_1_method_42_code
def yX5_save : MethodName := ⟨RX5, "save", "()V"⟩
abbrev cX5_savedAt : ByteArray := prog_1_method_43_code
def yX5_savedAt : MethodName := ⟨RX5, "savedAt", "(I)LRiddlePost$State;"⟩
abbrev cX5_moveOldestToEnd : ByteArray := prog_1_method_44_code
def yX5_moveOldestToEnd : MethodName := ⟨RX5, "moveOldestToEnd", "()V"⟩
abbrev cX5_requireZone : ByteArray := prog_1_method_45_code
def yX5_requireZone : MethodName := ⟨RX5, "requireZone", "(I)V"⟩
abbrev cX5_requireRiddle : ByteArray := prog_1_method_46_code
def yX5_requireRiddle : MethodName := ⟨RX5, "requireRiddle", "(I)V"⟩
abbrev cX5_requireRange : ByteArray := prog_1_method_47_code
def yX5_requireRange : MethodName := ⟨RX5, "requireRange", "(III)V"⟩
abbrev cX5_read : ByteArray := prog_1_method_48_code
def yX5_read : MethodName := ⟨RX5, "read", "([II)I"⟩
abbrev cX5_write : ByteArray := prog_1_method_49_code
def yX5_write : MethodName := ⟨RX5, "write", "([III)V"⟩
abbrev cX5_copyRow : ByteArray := prog_1_method_50_code
def yX5_copyRow : MethodName := ⟨RX5, "copyRow", "([I[I)V"⟩
def RX6 : String := "RiddlePostModel"
def TX6 : u_T := fun k => match k with
  | 0 => ("RiddlePostModel", "thrown", "I", false)
  | 1 => ("RiddlePostModel", "state", "[I", true)
  | 2 => ("RiddlePostModel", "history", "[I", true)
  | 3 => ("RiddlePostModel", "recorded", "I", false)
  | 4 => ("RiddlePostModel", "kept", "[I", true)
  | 5 => ("RiddlePostModel", "text", "[I", true)
  | 6 => ("RiddlePostModel", "textLength", "I", false)
  | 7 => ("RiddlePostModel", "way", "[I", true)
  | 8 => ("RiddlePostModel", "at", "I", false)
  | 9 => ("RiddlePostModel", "kind", "I", false)
  | _ => ("RiddlePostModel", "number", "I", false)
def tyX6 : Nat → FieldType := fun k => match k with
  | 0 => .int
  | 1 => .array .int
  | 2 => .array .int
  | 3 => .int
  | 4 => .array .int
  | 5 => .array .int
  | 6 => .int
  | 7 => .array .int
  | 8 => .int
  | 9 => .int
  | _ => .int
abbrev wsX60 : List Cond := u_ws RX6 TX6 11
theorem nmX6 : ∀ a, a < 11 → ∀ b, b < 11 → a ≠ b → (TX6 a).2.1 ≠ (TX6 b).2.1 := by decide +kernel
theorem tyX6_ok : ∀ k, k < 11 → parseFieldDescriptor (TX6 k).2.2.1 = some (tyX6 k) := by decide +kernel
abbrev cX6_init : ByteArray := prog_8_method_1_code
def yX6_init : MethodName := ⟨RX6, "<init>", "()V"⟩
abbrev cX6_thrown : ByteArray := prog_8_method_2_code
def yX6_thrown : MethodName := ⟨RX6, "thrown", "()I"⟩
abbrev cX6_within : ByteArray := prog_8_method_3_code
def yX6_within : MethodName := ⟨RX6, "within", "(III)Z"⟩
abbrev cX6_lays : ByteArray := prog_8_method_4_code
def yX6_lays : MethodName := ⟨RX6, "lays", "([II[II)V"⟩
abbrev cX6_record : ByteArray := prog_8_method_5_code
def yX6_record : MethodName := ⟨RX6, "record", "()V"⟩
abbrev cX6_isZone : ByteArray := prog_8_method_6_code
def yX6_isZone : MethodName := ⟨RX6, "isZone", "(I)Z"⟩
abbrev cX6_isRiddle : ByteArray := prog_8_method_7_code
def yX6_isRiddle : MethodName := ⟨RX6, "isRiddle", "(I)Z"⟩
abbrev cX6_isAge : ByteArray := prog_8_method_8_code
def yX6_isAge : MethodName := ⟨RX6, "isAge", "(I)Z"⟩
abbrev cX6_ofZone : ByteArray := prog_8_method_9_code
def yX6_ofZone : MethodName := ⟨RX6, "ofZone", "(II)I"⟩
abbrev cX6_putsZone : ByteArray := prog_8_method_10_code
def yX6_putsZone : MethodName := ⟨RX6, "putsZone", "(III)V"⟩
abbrev cX6_of : ByteArray := prog_8_method_11_code
def yX6_of : MethodName := ⟨RX6, "of", "(II)I"⟩
abbrev cX6_puts : ByteArray := prog_8_method_12_code
def yX6_puts : MethodName := ⟨RX6, "puts", "(III)V"⟩
abbrev cX6_setParent : ByteArray := prog_8_method_13_code
def yX6_setParent : MethodName := ⟨RX6, "setParent", "(II)I"⟩
abbrev cX6_setAges : ByteArray := prog_8_method_14_code
def yX6_setAges : MethodName := ⟨RX6, "setAges", "(III)I"⟩
abbrev cX6_gives : ByteArray := prog_8_method_15_code
def yX6_gives : MethodName := ⟨RX6, "gives", "(IIII)I"⟩
abbrev cX6_setAnswer : ByteArray := prog_8_method_16_code
def yX6_setAnswer : MethodName := ⟨RX6, "setAnswer", "(III)I"⟩
abbrev cX6_setReference : ByteArray := prog_8_method_17_code
def yX6_setReference : MethodName := ⟨RX6, "setReference", "(III)I"⟩
abbrev cX6_takeAway : ByteArray := prog_8_method_18_code
def yX6_takeAway : MethodName := ⟨RX6, "takeAway", "(I)I"⟩
abbrev cX6_costs : ByteArray := prog_8_method_19_code
def yX6_costs : MethodName := ⟨RX6, "costs", "(I)V"⟩
abbrev cX6_comesTo : ByteArray := prog_8_method_20_code
def yX6_comesTo : MethodName := ⟨RX6, "comesTo", "(I)V"⟩
abbrev cX6_asks : ByteArray := prog_8_method_21_code
def yX6_asks : MethodName := ⟨RX6, "asks", "(I)V"⟩
abbrev cX6_solves : ByteArray := prog_8_method_22_code
def yX6_solves : MethodName := ⟨RX6, "solves", "(I)I"⟩
abbrev cX6_solvesFirst : ByteArray := prog_8_method_23_code
def yX6_solvesFirst : MethodName := ⟨RX6, "solvesFirst", "(I)I"⟩
abbrev cX6_solve : ByteArray := prog_8_method_24_code
def yX6_solve : MethodName := ⟨RX6, "solve", "(I)I"⟩
abbrev cX6_forgets : ByteArray := prog_8_method_25_code
def yX6_forgets : MethodName := ⟨RX6, "forgets", "(I)V"⟩
abbrev cX6_forget : ByteArray := prog_8_method_26_code
def yX6_forget : MethodName := ⟨RX6, "forget", "(I)I"⟩
abbrev cX6_passes : ByteArray := prog_8_method_27_code
def yX6_passes : MethodName := ⟨RX6, "passes", "(I)I"⟩
abbrev cX6_pass : ByteArray := prog_8_method_28_code
def yX6_pass : MethodName := ⟨RX6, "pass", "(I)I"⟩
abbrev cX6_tells : ByteArray := prog_8_method_29_code
def yX6_tells : MethodName := ⟨RX6, "tells", "(I)I"⟩
abbrev cX6_time : ByteArray := prog_8_method_30_code
def yX6_time : MethodName := ⟨RX6, "time", "()I"⟩
abbrev cX6_tellsZone : ByteArray := prog_8_method_31_code
def yX6_tellsZone : MethodName := ⟨RX6, "tellsZone", "(II)I"⟩
abbrev cX6_parentOf : ByteArray := prog_8_method_32_code
def yX6_parentOf : MethodName := ⟨RX6, "parentOf", "(I)I"⟩
abbrev cX6_depth : ByteArray := prog_8_method_33_code
def yX6_depth : MethodName := ⟨RX6, "depth", "(I)I"⟩
abbrev cX6_depthOf : ByteArray := prog_8_method_34_code
def yX6_depthOf : MethodName := ⟨RX6, "depthOf", "(I)I"⟩
abbrev cX6_tellsRiddle : ByteArray := prog_8_method_35_code
def yX6_tellsRiddle : MethodName := ⟨RX6, "tellsRiddle", "(II)I"⟩
abbrev cX6_kindOf : ByteArray := prog_8_method_36_code
def yX6_kindOf : MethodName := ⟨RX6, "kindOf", "(I)I"⟩
abbrev cX6_valueOf : ByteArray := prog_8_method_37_code
def yX6_valueOf : MethodName := ⟨RX6, "valueOf", "(I)I"⟩
abbrev cX6_truth : ByteArray := prog_8_method_38_code
def yX6_truth : MethodName := ⟨RX6, "truth", "(I)I"⟩
abbrev cX6_truthOf : ByteArray := prog_8_method_39_code
def yX6_truthOf : MethodName := ⟨RX6, "truthOf", "(I)I"⟩
abbrev cX6_rememberedOf : ByteArray := prog_8_method_40_code
def yX6_rememberedOf : MethodName := ⟨RX6, "rememberedOf", "(I)I"⟩
abbrev cX6_leftUntil : ByteArray := prog_8_method_41_code
def yX6_leftUntil : MethodName := ⟨RX6, "leftUntil", "(I)I"⟩
abbrev cX6_ticksLeftOf : ByteArray := prog_8_method_42_code
def yX6_ticksLeftOf : MethodName := ⟨RX6, "ticksLeftOf", "(I)I"⟩
abbrev cX6_referralLeft : ByteArray := prog_8_method_43_code
def yX6_referralLeft : MethodName := ⟨RX6, "referralLeft", "(I)I"⟩
abbrev cX6_memories : ByteArray := prog_8_method_44_code
def yX6_memories : MethodName := ⟨RX6, "memories", "()I"⟩
abbrev cX6_remembered : ByteArray := prog_8_method_45_code
def yX6_remembered : MethodName := ⟨RX6, "remembered", "()I"⟩
abbrev cX6_rememberedByAccount : ByteArray := prog_8_method_46_code
def yX6_rememberedByAccount : MethodName := ⟨RX6, "rememberedByAccount", "()I"⟩
abbrev cX6_sooner : ByteArray := prog_8_method_47_code
def yX6_sooner : MethodName := ⟨RX6, "sooner", "(II)I"⟩
abbrev cX6_untilForgetting : ByteArray := prog_8_method_48_code
def yX6_untilForgetting : MethodName := ⟨RX6, "untilForgetting", "()I"⟩
abbrev cX6_ticksUntilForgetting : ByteArray := prog_8_method_49_code
def yX6_ticksUntilForgetting : MethodName := ⟨RX6, "ticksUntilForgetting", "()I"⟩
abbrev cX6_isOld : ByteArray := prog_8_method_50_code
def yX6_isOld : MethodName := ⟨RX6, "isOld", "(I)Z"⟩
abbrev cX6_isOutOfDate : ByteArray := prog_8_method_51_code
def yX6_isOutOfDate : MethodName := ⟨RX6, "isOutOfDate", "(I)Z"⟩
abbrev cX6_solved : ByteArray := prog_8_method_52_code
def yX6_solved : MethodName := ⟨RX6, "solved", "()I"⟩
abbrev cX6_questions : ByteArray := prog_8_method_53_code
def yX6_questions : MethodName := ⟨RX6, "questions", "()I"⟩
abbrev cX6_hits : ByteArray := prog_8_method_54_code
def yX6_hits : MethodName := ⟨RX6, "hits", "()I"⟩
abbrev cX6_questionsTo : ByteArray := prog_8_method_55_code
def yX6_questionsTo : MethodName := ⟨RX6, "questionsTo", "(I)I"⟩
abbrev cX6_meanQuestions : ByteArray := prog_8_method_56_code
def yX6_meanQuestions : MethodName := ⟨RX6, "meanQuestions", "()D"⟩
abbrev cX6_would : ByteArray := prog_8_method_57_code
def yX6_would : MethodName := ⟨RX6, "would", "(I)I"⟩
abbrev cX6_wouldSolve : ByteArray := prog_8_method_58_code
def yX6_wouldSolve : MethodName := ⟨RX6, "wouldSolve", "(I)I"⟩
abbrev cX6_cost : ByteArray := prog_8_method_59_code
def yX6_cost : MethodName := ⟨RX6, "cost", "(I)I"⟩
abbrev cX6_costOf : ByteArray := prog_8_method_60_code
def yX6_costOf : MethodName := ⟨RX6, "costOf", "(I)I"⟩
abbrev cX6_ticksUntilTruth : ByteArray := prog_8_method_61_code
def yX6_ticksUntilTruth : MethodName := ⟨RX6, "ticksUntilTruth", "(I)I"⟩
abbrev cX6_wouldIn : ByteArray := prog_8_method_62_code
def yX6_wouldIn : MethodName := ⟨RX6, "wouldIn", "(II)I"⟩
abbrev cX6_append : ByteArray := prog_8_method_63_code
def yX6_append : MethodName := ⟨RX6, "append", "(I)I"⟩
abbrev cX6_clearText : ByteArray := prog_8_method_64_code
def yX6_clearText : MethodName := ⟨RX6, "clearText", "()I"⟩
abbrev cX6_accepts : ByteArray := prog_8_method_65_code
def yX6_accepts : MethodName := ⟨RX6, "accepts", "(II)Z"⟩
abbrev cX6_readsNumber : ByteArray := prog_8_method_66_code
def yX6_readsNumber : MethodName := ⟨RX6, "readsNumber", "(II)Z"⟩
abbrev cX6_readsAct : ByteArray := prog_8_method_67_code
def yX6_readsAct : MethodName := ⟨RX6, "readsAct", "()Z"⟩
abbrev cX6_findError : ByteArray := prog_8_method_68_code
def yX6_findError : MethodName := ⟨RX6, "findError", "()I"⟩
abbrev cX6_firstError : ByteArray := prog_8_method_69_code
def yX6_firstError : MethodName := ⟨RX6, "firstError", "()I"⟩
abbrev cX6_happens : ByteArray := prog_8_method_70_code
def yX6_happens : MethodName := ⟨RX6, "happens", "()Z"⟩
abbrev cX6_runActs : ByteArray := prog_8_method_71_code
def yX6_runActs : MethodName := ⟨RX6, "runActs", "()I"⟩
abbrev cX6_undo : ByteArray := prog_8_method_72_code
def yX6_undo : MethodName := ⟨RX6, "undo", "()I"⟩
abbrev cX6_digest : ByteArray := prog_8_method_73_code
def yX6_digest : MethodName := ⟨RX6, "digest", "()J"⟩
def RJ6 : String := "java/lang/Integer"
def TJ6 : u_T := fun k => match k with
  | _ => ("", "", "", false)
def tyJ6 : Nat → FieldType := fun k => match k with
  | _ => .int
abbrev wsJ60 : List Cond := u_ws RJ6 TJ6 0
theorem nmJ6 : ∀ a, a < 0 → ∀ b, b < 0 → a ≠ b → (TJ6 a).2.1 ≠ (TJ6 b).2.1 := by decide +kernel
theorem tyJ6_ok : ∀ k, k < 0 → parseFieldDescriptor (TJ6 k).2.2.1 = some (tyJ6 k) := by decide +kernel
abbrev cJ6_bitCount_0f7a4 : ByteArray := prog_13_method_49_code
def yJ6_bitCount_0f7a4 : MethodName := ⟨RJ6, "bitCount", "(I)I"⟩
def RJ9 : String := "java/lang/Math"
def TJ9 : u_T := fun k => match k with
  | _ => ("", "", "", false)
def tyJ9 : Nat → FieldType := fun k => match k with
  | _ => .int
abbrev wsJ90 : List Cond := u_ws RJ9 TJ9 0
theorem nmJ9 : ∀ a, a < 0 → ∀ b, b < 0 → a ≠ b → (TJ9 a).2.1 ≠ (TJ9 b).2.1 := by decide +kernel
theorem tyJ9_ok : ∀ k, k < 0 → parseFieldDescriptor (TJ9 k).2.2.1 = some (tyJ9 k) := by decide +kernel
abbrev cJ9_min_7cf53 : ByteArray := prog_14_method_69_code
def yJ9_min_7cf53 : MethodName := ⟨RJ9, "min", "(II)I"⟩
def RJ0 : String := "java/lang/String"
def TJ0 : u_T := fun k => match k with
  | _ => ("", "", "", false)
def tyJ0 : Nat → FieldType := fun k => match k with
  | _ => .int
abbrev wsJ00 : List Cond := u_ws RJ0 TJ0 0
theorem nmJ0 : ∀ a, a < 0 → ∀ b, b < 0 → a ≠ b → (TJ0 a).2.1 ≠ (TJ0 b).2.1 := by decide +kernel
theorem tyJ0_ok : ∀ k, k < 0 → parseFieldDescriptor (TJ0 k).2.2.1 = some (tyJ0 k) := by decide +kernel
def RJ10 : String := "java/lang/System"
def TJ10 : u_T := fun k => match k with
  | _ => ("", "", "", false)
def tyJ10 : Nat → FieldType := fun k => match k with
  | _ => .int
abbrev wsJ100 : List Cond := u_ws RJ10 TJ10 0
theorem nmJ10 : ∀ a, a < 0 → ∀ b, b < 0 → a ≠ b → (TJ10 a).2.1 ≠ (TJ10 b).2.1 := by decide +kernel
theorem tyJ10_ok : ∀ k, k < 0 → parseFieldDescriptor (TJ10 k).2.2.1 = some (tyJ10 k) := by decide +kernel
def RL : String := "RiddlePostLaw"
abbrev cL_setParent : ByteArray := method_3_code
def yL_setParent : MethodName := ⟨RL, "setParent", "(LRiddlePost;II[J)I"⟩
abbrev cL_setAges : ByteArray := method_4_code
def yL_setAges : MethodName := ⟨RL, "setAges", "(LRiddlePost;III[J)I"⟩
abbrev cL_setAnswer : ByteArray := method_5_code
def yL_setAnswer : MethodName := ⟨RL, "setAnswer", "(LRiddlePost;III[J)I"⟩
abbrev cL_setReference : ByteArray := method_6_code
def yL_setReference : MethodName := ⟨RL, "setReference", "(LRiddlePost;III[J)I"⟩
abbrev cL_takeAway : ByteArray := method_7_code
def yL_takeAway : MethodName := ⟨RL, "takeAway", "(LRiddlePost;I[J)I"⟩
abbrev cL_solve : ByteArray := method_8_code
def yL_solve : MethodName := ⟨RL, "solve", "(LRiddlePost;I[J)I"⟩
abbrev cL_forget : ByteArray := method_9_code
def yL_forget : MethodName := ⟨RL, "forget", "(LRiddlePost;I[J)I"⟩
abbrev cL_pass : ByteArray := method_10_code
def yL_pass : MethodName := ⟨RL, "pass", "(LRiddlePost;I[J)I"⟩
abbrev cL_parentOf : ByteArray := method_11_code
def yL_parentOf : MethodName := ⟨RL, "parentOf", "(LRiddlePost;I[J)I"⟩
abbrev cL_depthOf : ByteArray := method_12_code
def yL_depthOf : MethodName := ⟨RL, "depthOf", "(LRiddlePost;I[J)I"⟩
abbrev cL_kindOf : ByteArray := method_13_code
def yL_kindOf : MethodName := ⟨RL, "kindOf", "(LRiddlePost;I[J)I"⟩
abbrev cL_valueOf : ByteArray := method_14_code
def yL_valueOf : MethodName := ⟨RL, "valueOf", "(LRiddlePost;I[J)I"⟩
abbrev cL_truthOf : ByteArray := method_15_code
def yL_truthOf : MethodName := ⟨RL, "truthOf", "(LRiddlePost;I[J)I"⟩
abbrev cL_rememberedOf : ByteArray := method_16_code
def yL_rememberedOf : MethodName := ⟨RL, "rememberedOf", "(LRiddlePost;I[J)I"⟩
abbrev cL_ticksLeftOf : ByteArray := method_17_code
def yL_ticksLeftOf : MethodName := ⟨RL, "ticksLeftOf", "(LRiddlePost;I[J)I"⟩
abbrev cL_referralLeft : ByteArray := method_18_code
def yL_referralLeft : MethodName := ⟨RL, "referralLeft", "(LRiddlePost;I[J)I"⟩
abbrev cL_isOutOfDate : ByteArray := method_19_code
def yL_isOutOfDate : MethodName := ⟨RL, "isOutOfDate", "(LRiddlePost;I[J)I"⟩
abbrev cL_questionsTo : ByteArray := method_20_code
def yL_questionsTo : MethodName := ⟨RL, "questionsTo", "(LRiddlePost;I[J)I"⟩
abbrev cL_wouldSolve : ByteArray := method_21_code
def yL_wouldSolve : MethodName := ⟨RL, "wouldSolve", "(LRiddlePost;I[J)I"⟩
abbrev cL_costOf : ByteArray := method_22_code
def yL_costOf : MethodName := ⟨RL, "costOf", "(LRiddlePost;I[J)I"⟩
abbrev cL_ticksUntilTruth : ByteArray := method_23_code
def yL_ticksUntilTruth : MethodName := ⟨RL, "ticksUntilTruth", "(LRiddlePost;I[J)I"⟩
abbrev cL_append : ByteArray := method_24_code
def yL_append : MethodName := ⟨RL, "append", "(LRiddlePost;I[J)I"⟩
abbrev cL_runActs : ByteArray := method_25_code
def yL_runActs : MethodName := ⟨RL, "runActs", "(LRiddlePost;[J)I"⟩
abbrev cL_undo : ByteArray := method_26_code
def yL_undo : MethodName := ⟨RL, "undo", "(LRiddlePost;[J)I"⟩
abbrev cL_law : ByteArray := code
def yL_law : MethodName := ⟨RL, "law", "([I)Z"⟩
abbrev vwCl : List vw_C := [(RX0, TX0, 6), (RX1, TX1, 5), (RX2, TX2, 3), (RX3, TX3, 6), (RX4, TX4, 3), (RX5, TX5, 4), (RX6, TX6, 11)]
def ALL : List Cond := lw_tbl.filter goodWord
theorem qA {w : Cond} (h : w ∈ tables_1) (g : goodWord w = true) : w ∈ ALL := List.mem_filter.mpr ⟨List.mem_append_right _ h, g⟩
theorem qP {y : MethodName} {n : Nat} (h : (y, n) ∈ lw_privs) (g : goodWord (Cond.selects y.cls y y) = true) : Cond.selects y.cls y y ∈ ALL := List.mem_filter.mpr ⟨List.mem_append_left _ (List.mem_map.mpr ⟨(y, n), h, rfl⟩), g⟩
theorem qAL {w : Cond} (h : w ∈ ALL) : w ∈ lw_tbl := (List.mem_filter.mp h).1
theorem qAg {w : Cond} (h : w ∈ ALL) : goodWord w = true := (List.mem_filter.mp h).2
theorem q_1 {w : Cond} (i : Nat) (h : tables_1_1[i]? = some w) : w ∈ tables_1 := List.mem_append_left _ (List.mem_of_getElem? h)
theorem q_2 {w : Cond} (i : Nat) (h : tables_1_2[i]? = some w) : w ∈ tables_1 := List.mem_append_right _ (List.mem_append_left _ (List.mem_of_getElem? h))
theorem q_3 {w : Cond} (i : Nat) (h : tables_1_3[i]? = some w) : w ∈ tables_1 := List.mem_append_right _ (List.mem_append_right _ (List.mem_append_left _ (List.mem_of_getElem? h)))
theorem q_4 {w : Cond} (i : Nat) (h : tables_1_4[i]? = some w) : w ∈ tables_1 := List.mem_append_right _ (List.mem_append_right _ (List.mem_append_right _ (List.mem_append_left _ (List.mem_of_getElem? h))))
theorem q_5 {w : Cond} (i : Nat) (h : tables_1_5[i]? = some w) : w ∈ tables_1 := List.mem_append_right _ (List.mem_append_right _ (List.mem_append_right _ (List.mem_append_right _ (List.mem_of_getElem? h))))
theorem gi_all {c2 : Cond} (h : c2 ∈ ALL) : GoodIn ALL (c2 :: ALL) := fun w hw => (List.mem_cons.mp hw).elim (fun e => by rw [e]; exact ⟨h, good_of_word (qAg h)⟩) (fun h => ⟨h, good_of_word (qAg h)⟩)
theorem gi_c {a : List Cond} {w : Cond} (hw : w ∈ ALL) (ha : GoodIn ALL a) : GoodIn ALL (w :: a) := fun w' h => (List.mem_cons.mp h).elim (fun e => by rw [e]; exact ⟨hw, good_of_word (qAg hw)⟩) (fun h => ha w' h)
theorem gi_V {c2 : Cond} {own C : String} {idx : Nat} {y : MethodName} (h1 : Cond.methodLink own idx y ∈ ALL) (h2 : Cond.instanceMethod y ∈ ALL) (h3 : Cond.selects C y y ∈ ALL) (h4 : Cond.initialized C ∈ ALL) (h5 : c2 ∈ ALL) : GoodIn ALL (wsV own idx C y (c2 :: ALL)) :=
  gi_c h1 (gi_c h2 (gi_c h3 (gi_c h4 (gi_all h5))))
theorem gi_S {c2 : Cond} {own : String} {idx : Nat} {y : MethodName} (h1 : Cond.methodLink own idx y ∈ ALL) (h2 : Cond.static y ∈ ALL) (h3 : Cond.initialized y.cls ∈ ALL) (h5 : c2 ∈ ALL) : GoodIn ALL (va_wsS own idx y (c2 :: ALL)) :=
  gi_c h1 (gi_c h2 (gi_c h3 (gi_all h5)))
theorem it_L : Cond.initialized RL ∈ ALL := qA (q_1 0 (by decide +kernel)) rfl
theorem it_X5 : Cond.initialized RX5 ∈ ALL := qA (q_1 1 (by decide +kernel)) rfl
theorem it_X3 : Cond.initialized RX3 ∈ ALL := qA (q_1 2 (by decide +kernel)) rfl
theorem it_X4 : Cond.initialized RX4 ∈ ALL := qA (q_1 3 (by decide +kernel)) rfl
theorem it_X2 : Cond.initialized RX2 ∈ ALL := qA (q_1 4 (by decide +kernel)) rfl
theorem it_X0 : Cond.initialized RX0 ∈ ALL := qA (q_1 5 (by decide +kernel)) rfl
theorem it_X1 : Cond.initialized RX1 ∈ ALL := qA (q_1 6 (by decide +kernel)) rfl
theorem it_X6 : Cond.initialized RX6 ∈ ALL := qA (q_1 7 (by decide +kernel)) rfl
theorem it_Throwable : Cond.initialized "java/lang/Throwable" ∈ ALL := qA (q_1 8 (by decide +kernel)) rfl
theorem it_Exception : Cond.initialized "java/lang/Exception" ∈ ALL := qA (q_1 9 (by decide +kernel)) rfl
theorem it_RuntimeException : Cond.initialized "java/lang/RuntimeException" ∈ ALL := qA (q_1 10 (by decide +kernel)) rfl
theorem it_IndexOutOfBoundsException : Cond.initialized "java/lang/IndexOutOfBoundsException" ∈ ALL := qA (q_1 11 (by decide +kernel)) rfl
theorem it_IllegalArgumentException : Cond.initialized "java/lang/IllegalArgumentException" ∈ ALL := qA (q_1 12 (by decide +kernel)) rfl
theorem it_J9 : Cond.initialized RJ9 ∈ ALL := qA (q_1 13 (by decide +kernel)) rfl
theorem it_J10 : Cond.initialized RJ10 ∈ ALL := qA (q_1 14 (by decide +kernel)) rfl
theorem it_IllegalStateException : Cond.initialized "java/lang/IllegalStateException" ∈ ALL := qA (q_1 15 (by decide +kernel)) rfl
theorem it_J6 : Cond.initialized RJ6 ∈ ALL := qA (q_1 16 (by decide +kernel)) rfl
theorem cl_L_8 : Cond.classLink RL 8 RX5 ∈ ALL := qA (q_1 17 (by decide +kernel)) rfl
theorem ia_X5 : Cond.instantiable RX5 4 ∈ ALL := qA (q_1 18 (by decide +kernel)) rfl
theorem ml_L_92 : Cond.methodLink RL 92 yX5_init ∈ ALL := qA (q_1 19 (by decide +kernel)) rfl
theorem im_X5_init : Cond.instanceMethod yX5_init ∈ ALL := qA (q_1 20 (by decide +kernel)) rfl
theorem cd_X5_init : Cond.code yX5_init cX5_init 2 none ∈ ALL := qA (q_1 21 (by decide +kernel)) rfl
theorem ml_X5_1 : Cond.methodLink RX5 1 objectInit ∈ ALL := qA (q_1 22 (by decide +kernel)) rfl
theorem im_obj : Cond.instanceMethod objectInit ∈ ALL := qA (q_1 23 (by decide +kernel)) rfl
theorem cd_obj : Cond.code objectInit ⟨#[0xb1]⟩ 1 none ∈ ALL := qA (q_1 24 (by decide +kernel)) rfl
theorem cl_X5_7 : Cond.classLink RX5 7 RX3 ∈ ALL := qA (q_1 25 (by decide +kernel)) rfl
theorem ia_X3 : Cond.instantiable RX3 6 ∈ ALL := qA (q_1 26 (by decide +kernel)) rfl
theorem im_X3_init : Cond.instanceMethod yX3_init ∈ ALL := qA (q_1 28 (by decide +kernel)) rfl
theorem cd_X3_init : Cond.code yX3_init cX3_init 1 none ∈ ALL := qA (q_1 29 (by decide +kernel)) rfl
theorem ml_X3_3 : Cond.methodLink RX3 3 objectInit ∈ ALL := qA (q_1 30 (by decide +kernel)) rfl
theorem cl_X3_9 : Cond.classLink RX3 9 RX4 ∈ ALL := qA (q_1 31 (by decide +kernel)) rfl
theorem ia_X4 : Cond.instantiable RX4 3 ∈ ALL := qA (q_1 32 (by decide +kernel)) rfl
theorem ml_X3_11 : Cond.methodLink RX3 11 yX4_init ∈ ALL := qA (q_1 33 (by decide +kernel)) rfl
theorem im_X4_init : Cond.instanceMethod yX4_init ∈ ALL := qA (q_1 34 (by decide +kernel)) rfl
theorem cd_X4_init : Cond.code yX4_init cX4_init 2 none ∈ ALL := qA (q_1 35 (by decide +kernel)) rfl
theorem ml_X4_3 : Cond.methodLink RX4 3 objectInit ∈ ALL := qA (q_1 36 (by decide +kernel)) rfl
theorem fl_X4_9 : Cond.fieldLink RX4 9 "RiddlePost$Zones" "parents" "[I" ∈ ALL := qA (q_1 37 (by decide +kernel)) rfl
theorem fl_X5_53 : Cond.fieldLink RX5 53 "RiddlePost$Zones" "parents" "[I" ∈ ALL := qA (q_1 38 (by decide +kernel)) rfl
theorem fl_X3_85 : Cond.fieldLink RX3 85 "RiddlePost$Zones" "parents" "[I" ∈ ALL := qA (q_1 39 (by decide +kernel)) rfl
theorem fl_X4_15 : Cond.fieldLink RX4 15 "RiddlePost$Zones" "referralAges" "[I" ∈ ALL := qA (q_1 40 (by decide +kernel)) rfl
theorem fl_X5_67 : Cond.fieldLink RX5 67 "RiddlePost$Zones" "referralAges" "[I" ∈ ALL := qA (q_1 41 (by decide +kernel)) rfl
theorem fl_X3_95 : Cond.fieldLink RX3 95 "RiddlePost$Zones" "referralAges" "[I" ∈ ALL := qA (q_1 42 (by decide +kernel)) rfl
theorem fl_X4_18 : Cond.fieldLink RX4 18 "RiddlePost$Zones" "refusalAges" "[I" ∈ ALL := qA (q_1 43 (by decide +kernel)) rfl
theorem fl_X5_70 : Cond.fieldLink RX5 70 "RiddlePost$Zones" "refusalAges" "[I" ∈ ALL := qA (q_1 44 (by decide +kernel)) rfl
theorem fl_X3_105 : Cond.fieldLink RX3 105 "RiddlePost$Zones" "refusalAges" "[I" ∈ ALL := qA (q_1 45 (by decide +kernel)) rfl
theorem ac_int : Cond.arrayClass .int ∈ ALL := qA (q_1 53 (by decide +kernel)) rfl
theorem cl_X3_18 : Cond.classLink RX3 18 RX2 ∈ ALL := qA (q_1 54 (by decide +kernel)) rfl
theorem ia_X2 : Cond.instantiable RX2 3 ∈ ALL := qA (q_1 55 (by decide +kernel)) rfl
theorem ml_X3_20 : Cond.methodLink RX3 20 yX2_init ∈ ALL := qA (q_1 56 (by decide +kernel)) rfl
theorem im_X2_init : Cond.instanceMethod yX2_init ∈ ALL := qA (q_1 57 (by decide +kernel)) rfl
theorem cd_X2_init : Cond.code yX2_init cX2_init 2 none ∈ ALL := qA (q_1 58 (by decide +kernel)) rfl
theorem ml_X2_3 : Cond.methodLink RX2 3 objectInit ∈ ALL := qA (q_1 59 (by decide +kernel)) rfl
theorem fl_X2_9 : Cond.fieldLink RX2 9 "RiddlePost$Replies" "kinds" "[I" ∈ ALL := qA (q_1 60 (by decide +kernel)) rfl
theorem fl_X2_15 : Cond.fieldLink RX2 15 "RiddlePost$Replies" "values" "[I" ∈ ALL := qA (q_1 61 (by decide +kernel)) rfl
theorem fl_X2_18 : Cond.fieldLink RX2 18 "RiddlePost$Replies" "ticks" "[I" ∈ ALL := qA (q_1 62 (by decide +kernel)) rfl
theorem cl_X3_32 : Cond.classLink RX3 32 RX0 ∈ ALL := qA (q_1 70 (by decide +kernel)) rfl
theorem ia_X0 : Cond.instantiable RX0 6 ∈ ALL := qA (q_1 71 (by decide +kernel)) rfl
theorem im_X0_init : Cond.instanceMethod yX0_init ∈ ALL := qA (q_1 73 (by decide +kernel)) rfl
theorem cd_X0_init : Cond.code yX0_init cX0_init 1 none ∈ ALL := qA (q_1 74 (by decide +kernel)) rfl
theorem ml_X0_3 : Cond.methodLink RX0 3 objectInit ∈ ALL := qA (q_1 75 (by decide +kernel)) rfl
theorem fl_X0_15 : Cond.fieldLink RX0 15 "RiddlePost$Accounts" "solved" "I" ∈ ALL := qA (q_1 76 (by decide +kernel)) rfl
theorem fl_X3_57 : Cond.fieldLink RX3 57 "RiddlePost$Accounts" "solved" "I" ∈ ALL := qA (q_1 77 (by decide +kernel)) rfl
theorem fl_X5_163 : Cond.fieldLink RX5 163 "RiddlePost$Accounts" "solved" "I" ∈ ALL := qA (q_1 78 (by decide +kernel)) rfl
theorem fl_X0_19 : Cond.fieldLink RX0 19 "RiddlePost$Accounts" "questions" "I" ∈ ALL := qA (q_1 79 (by decide +kernel)) rfl
theorem fl_X5_166 : Cond.fieldLink RX5 166 "RiddlePost$Accounts" "questions" "I" ∈ ALL := qA (q_1 80 (by decide +kernel)) rfl
theorem fl_X0_22 : Cond.fieldLink RX0 22 "RiddlePost$Accounts" "hits" "I" ∈ ALL := qA (q_1 81 (by decide +kernel)) rfl
theorem fl_X3_71 : Cond.fieldLink RX3 71 "RiddlePost$Accounts" "hits" "I" ∈ ALL := qA (q_1 82 (by decide +kernel)) rfl
theorem fl_X5_169 : Cond.fieldLink RX5 169 "RiddlePost$Accounts" "hits" "I" ∈ ALL := qA (q_1 83 (by decide +kernel)) rfl
theorem fl_X0_25 : Cond.fieldLink RX0 25 "RiddlePost$Accounts" "timesRemembered" "I" ∈ ALL := qA (q_1 84 (by decide +kernel)) rfl
theorem fl_X3_102 : Cond.fieldLink RX3 102 "RiddlePost$Accounts" "timesRemembered" "I" ∈ ALL := qA (q_1 85 (by decide +kernel)) rfl
theorem fl_X5_149 : Cond.fieldLink RX5 149 "RiddlePost$Accounts" "timesRemembered" "I" ∈ ALL := qA (q_1 86 (by decide +kernel)) rfl
theorem fl_X0_28 : Cond.fieldLink RX0 28 "RiddlePost$Accounts" "timesForgotten" "I" ∈ ALL := qA (q_1 87 (by decide +kernel)) rfl
theorem fl_X3_119 : Cond.fieldLink RX3 119 "RiddlePost$Accounts" "timesForgotten" "I" ∈ ALL := qA (q_1 88 (by decide +kernel)) rfl
theorem fl_X5_154 : Cond.fieldLink RX5 154 "RiddlePost$Accounts" "timesForgotten" "I" ∈ ALL := qA (q_1 89 (by decide +kernel)) rfl
theorem fl_X0_9 : Cond.fieldLink RX0 9 "RiddlePost$Accounts" "asked" "[I" ∈ ALL := qA (q_1 90 (by decide +kernel)) rfl
theorem fl_X5_172 : Cond.fieldLink RX5 172 "RiddlePost$Accounts" "asked" "[I" ∈ ALL := qA (q_1 91 (by decide +kernel)) rfl
theorem fl_X3_39 : Cond.fieldLink RX3 39 "RiddlePost$State" "time" "I" ∈ ALL := qA (q_1 105 (by decide +kernel)) rfl
theorem fl_X5_120 : Cond.fieldLink RX5 120 "RiddlePost$State" "time" "I" ∈ ALL := qA (q_1 106 (by decide +kernel)) rfl
theorem fl_X3_12 : Cond.fieldLink RX3 12 "RiddlePost$State" "zones" "LRiddlePost$Zones;" ∈ ALL := qA (q_1 107 (by decide +kernel)) rfl
theorem fl_X5_49 : Cond.fieldLink RX5 49 "RiddlePost$State" "zones" "LRiddlePost$Zones;" ∈ ALL := qA (q_1 108 (by decide +kernel)) rfl
theorem fl_X3_21 : Cond.fieldLink RX3 21 "RiddlePost$State" "truths" "LRiddlePost$Replies;" ∈ ALL := qA (q_1 109 (by decide +kernel)) rfl
theorem fl_X5_85 : Cond.fieldLink RX5 85 "RiddlePost$State" "truths" "LRiddlePost$Replies;" ∈ ALL := qA (q_1 110 (by decide +kernel)) rfl
theorem fl_X3_25 : Cond.fieldLink RX3 25 "RiddlePost$State" "memory" "LRiddlePost$Replies;" ∈ ALL := qA (q_1 111 (by decide +kernel)) rfl
theorem fl_X5_103 : Cond.fieldLink RX5 103 "RiddlePost$State" "memory" "LRiddlePost$Replies;" ∈ ALL := qA (q_1 112 (by decide +kernel)) rfl
theorem fl_X3_28 : Cond.fieldLink RX3 28 "RiddlePost$State" "referralEnds" "[I" ∈ ALL := qA (q_1 113 (by decide +kernel)) rfl
theorem fl_X5_138 : Cond.fieldLink RX5 138 "RiddlePost$State" "referralEnds" "[I" ∈ ALL := qA (q_1 114 (by decide +kernel)) rfl
theorem fl_X3_35 : Cond.fieldLink RX3 35 "RiddlePost$State" "accounts" "LRiddlePost$Accounts;" ∈ ALL := qA (q_1 115 (by decide +kernel)) rfl
theorem fl_X5_145 : Cond.fieldLink RX5 145 "RiddlePost$State" "accounts" "LRiddlePost$Accounts;" ∈ ALL := qA (q_1 116 (by decide +kernel)) rfl
theorem cl_X5_24 : Cond.classLink RX5 24 RX1 ∈ ALL := qA (q_1 131 (by decide +kernel)) rfl
theorem ia_X1 : Cond.instantiable RX1 5 ∈ ALL := qA (q_1 132 (by decide +kernel)) rfl
theorem im_X1_init : Cond.instanceMethod yX1_init ∈ ALL := qA (q_1 134 (by decide +kernel)) rfl
theorem cd_X1_init : Cond.code yX1_init cX1_init 1 none ∈ ALL := qA (q_1 135 (by decide +kernel)) rfl
theorem ml_X1_3 : Cond.methodLink RX1 3 objectInit ∈ ALL := qA (q_1 136 (by decide +kernel)) rfl
theorem fl_X1_9 : Cond.fieldLink RX1 9 "RiddlePost$ActText" "codes" "[I" ∈ ALL := qA (q_1 137 (by decide +kernel)) rfl
theorem fl_X1_21 : Cond.fieldLink RX1 21 "RiddlePost$ActText" "length" "I" ∈ ALL := qA (q_1 138 (by decide +kernel)) rfl
theorem fl_X5_185 : Cond.fieldLink RX5 185 "RiddlePost$ActText" "length" "I" ∈ ALL := qA (q_1 139 (by decide +kernel)) rfl
theorem fl_X1_15 : Cond.fieldLink RX1 15 "RiddlePost$ActText" "actSigns" "[I" ∈ ALL := qA (q_1 140 (by decide +kernel)) rfl
theorem fl_X5_285 : Cond.fieldLink RX5 285 "RiddlePost$ActText" "actSigns" "[I" ∈ ALL := qA (q_1 141 (by decide +kernel)) rfl
theorem fl_X1_18 : Cond.fieldLink RX1 18 "RiddlePost$ActText" "actNumbers" "[I" ∈ ALL := qA (q_1 142 (by decide +kernel)) rfl
theorem fl_X5_282 : Cond.fieldLink RX5 282 "RiddlePost$ActText" "actNumbers" "[I" ∈ ALL := qA (q_1 143 (by decide +kernel)) rfl
theorem fl_X1_29 : Cond.fieldLink RX1 29 "RiddlePost$ActText" "acts" "I" ∈ ALL := qA (q_1 144 (by decide +kernel)) rfl
theorem fl_X5_198 : Cond.fieldLink RX5 198 "RiddlePost$ActText" "acts" "I" ∈ ALL := qA (q_1 145 (by decide +kernel)) rfl
theorem fl_X5_10 : Cond.fieldLink RX5 10 "RiddlePost" "now" "LRiddlePost$State;" ∈ ALL := qA (q_1 157 (by decide +kernel)) rfl
theorem fl_X5_16 : Cond.fieldLink RX5 16 "RiddlePost" "saved" "[LRiddlePost$State;" ∈ ALL := qA (q_1 158 (by decide +kernel)) rfl
theorem fl_X5_20 : Cond.fieldLink RX5 20 "RiddlePost" "savedCount" "I" ∈ ALL := qA (q_1 159 (by decide +kernel)) rfl
theorem fl_X5_27 : Cond.fieldLink RX5 27 "RiddlePost" "text" "LRiddlePost$ActText;" ∈ ALL := qA (q_1 160 (by decide +kernel)) rfl
theorem ml_L_128 : Cond.methodLink RL 128 yX5_time ∈ ALL := qA (q_1 170 (by decide +kernel)) rfl
theorem im_X5_time : Cond.instanceMethod yX5_time ∈ ALL := qA (q_1 171 (by decide +kernel)) rfl
theorem sl_X5_time : Cond.selects RX5 yX5_time yX5_time ∈ ALL := qA (q_1 172 (by decide +kernel)) rfl
theorem cd_X5_time : Cond.code yX5_time cX5_time 1 (some .int) ∈ ALL := qA (q_1 173 (by decide +kernel)) rfl
theorem ml_L_156 : Cond.methodLink RL 156 yX5_remembered ∈ ALL := qA (q_1 174 (by decide +kernel)) rfl
theorem im_X5_remembered : Cond.instanceMethod yX5_remembered ∈ ALL := qA (q_1 175 (by decide +kernel)) rfl
theorem sl_X5_remembered : Cond.selects RX5 yX5_remembered yX5_remembered ∈ ALL := qA (q_1 176 (by decide +kernel)) rfl
theorem cd_X5_remembered : Cond.code yX5_remembered cX5_remembered 1 (some .int) ∈ ALL := qA (q_1 177 (by decide +kernel)) rfl
theorem ml_X5_141 : Cond.methodLink RX5 141 yX3_countMemory ∈ ALL := qA (q_1 178 (by decide +kernel)) rfl
theorem im_X3_countMemory : Cond.instanceMethod yX3_countMemory ∈ ALL := qA (q_1 179 (by decide +kernel)) rfl
theorem sl_X3_countMemory : Cond.selects RX3 yX3_countMemory yX3_countMemory ∈ ALL := qA (q_1 180 (by decide +kernel)) rfl
theorem cd_X3_countMemory : Cond.code yX3_countMemory cX3_countMemory 3 (some .int) ∈ ALL := qA (q_1 181 (by decide +kernel)) rfl
theorem st_X5_read : Cond.static yX5_read ∈ ALL := qA (q_1 183 (by decide +kernel)) rfl
theorem cd_X5_read : Cond.code yX5_read cX5_read 2 (some .int) ∈ ALL := qA (q_1 184 (by decide +kernel)) rfl
theorem ml_X3_64 : Cond.methodLink RX3 64 yX2_kind ∈ ALL := qA (q_1 185 (by decide +kernel)) rfl
theorem im_X2_kind : Cond.instanceMethod yX2_kind ∈ ALL := qA (q_1 186 (by decide +kernel)) rfl
theorem sl_X2_kind : Cond.selects RX2 yX2_kind yX2_kind ∈ ALL := qA (q_1 187 (by decide +kernel)) rfl
theorem cd_X2_kind : Cond.code yX2_kind cX2_kind 2 (some .int) ∈ ALL := qA (q_1 188 (by decide +kernel)) rfl
theorem ml_L_160 : Cond.methodLink RL 160 yX5_rememberedByAccount ∈ ALL := qA (q_1 190 (by decide +kernel)) rfl
theorem im_X5_rememberedByAccount : Cond.instanceMethod yX5_rememberedByAccount ∈ ALL := qA (q_1 191 (by decide +kernel)) rfl
theorem sl_X5_rememberedByAccount : Cond.selects RX5 yX5_rememberedByAccount yX5_rememberedByAccount ∈ ALL := qA (q_1 192 (by decide +kernel)) rfl
theorem cd_X5_rememberedByAccount : Cond.code yX5_rememberedByAccount cX5_rememberedByAccount 1 (some .int) ∈ ALL := qA (q_1 193 (by decide +kernel)) rfl
theorem ml_L_164 : Cond.methodLink RL 164 yX5_ticksUntilForgetting ∈ ALL := qA (q_1 194 (by decide +kernel)) rfl
theorem im_X5_ticksUntilForgetting : Cond.instanceMethod yX5_ticksUntilForgetting ∈ ALL := qA (q_1 195 (by decide +kernel)) rfl
theorem sl_X5_ticksUntilForgetting : Cond.selects RX5 yX5_ticksUntilForgetting yX5_ticksUntilForgetting ∈ ALL := qA (q_1 196 (by decide +kernel)) rfl
theorem cd_X5_ticksUntilForgetting : Cond.code yX5_ticksUntilForgetting cX5_ticksUntilForgetting 1 (some .int) ∈ ALL := qA (q_1 197 (by decide +kernel)) rfl
theorem ml_X5_157 : Cond.methodLink RX5 157 yX3_nextEnd ∈ ALL := qA (q_1 198 (by decide +kernel)) rfl
theorem im_X3_nextEnd : Cond.instanceMethod yX3_nextEnd ∈ ALL := qA (q_1 199 (by decide +kernel)) rfl
theorem sl_X3_nextEnd : Cond.selects RX3 yX3_nextEnd yX3_nextEnd ∈ ALL := qA (q_1 200 (by decide +kernel)) rfl
theorem cd_X3_nextEnd : Cond.code yX3_nextEnd cX3_nextEnd 3 (some .int) ∈ ALL := qA (q_1 201 (by decide +kernel)) rfl
theorem ml_X3_132 : Cond.methodLink RX3 132 yX3_earlierEnd ∈ ALL := qA (q_1 202 (by decide +kernel)) rfl
theorem st_X3_earlierEnd : Cond.static yX3_earlierEnd ∈ ALL := qA (q_1 203 (by decide +kernel)) rfl
theorem cd_X3_earlierEnd : Cond.code yX3_earlierEnd cX3_earlierEnd 2 (some .int) ∈ ALL := qA (q_1 204 (by decide +kernel)) rfl
theorem ml_X3_135 : Cond.methodLink RX3 135 yJ9_min_7cf53 ∈ ALL := qA (q_1 205 (by decide +kernel)) rfl
theorem st_J9_min_7cf53 : Cond.static yJ9_min_7cf53 ∈ ALL := qA (q_1 206 (by decide +kernel)) rfl
theorem cd_J9_min_7cf53 : Cond.code yJ9_min_7cf53 cJ9_min_7cf53 2 (some .int) ∈ ALL := qA (q_1 207 (by decide +kernel)) rfl
theorem ml_X3_112 : Cond.methodLink RX3 112 yX2_ticks ∈ ALL := qA (q_1 208 (by decide +kernel)) rfl
theorem im_X2_ticks : Cond.instanceMethod yX2_ticks ∈ ALL := qA (q_1 209 (by decide +kernel)) rfl
theorem sl_X2_ticks : Cond.selects RX2 yX2_ticks yX2_ticks ∈ ALL := qA (q_1 210 (by decide +kernel)) rfl
theorem cd_X2_ticks : Cond.code yX2_ticks cX2_ticks 2 (some .int) ∈ ALL := qA (q_1 211 (by decide +kernel)) rfl
theorem ml_X5_135 : Cond.methodLink RX5 135 yX3_ticksTo ∈ ALL := qA (q_1 212 (by decide +kernel)) rfl
theorem im_X3_ticksTo : Cond.instanceMethod yX3_ticksTo ∈ ALL := qA (q_1 213 (by decide +kernel)) rfl
theorem sl_X3_ticksTo : Cond.selects RX3 yX3_ticksTo yX3_ticksTo ∈ ALL := qA (q_1 214 (by decide +kernel)) rfl
theorem cd_X3_ticksTo : Cond.code yX3_ticksTo cX3_ticksTo 2 (some .int) ∈ ALL := qA (q_1 215 (by decide +kernel)) rfl
theorem ml_L_171 : Cond.methodLink RL 171 yX5_solved ∈ ALL := qA (q_1 216 (by decide +kernel)) rfl
theorem im_X5_solved : Cond.instanceMethod yX5_solved ∈ ALL := qA (q_1 217 (by decide +kernel)) rfl
theorem sl_X5_solved : Cond.selects RX5 yX5_solved yX5_solved ∈ ALL := qA (q_1 218 (by decide +kernel)) rfl
theorem cd_X5_solved : Cond.code yX5_solved cX5_solved 1 (some .int) ∈ ALL := qA (q_1 219 (by decide +kernel)) rfl
theorem ml_L_175 : Cond.methodLink RL 175 yX5_questions ∈ ALL := qA (q_1 220 (by decide +kernel)) rfl
theorem im_X5_questions : Cond.instanceMethod yX5_questions ∈ ALL := qA (q_1 221 (by decide +kernel)) rfl
theorem sl_X5_questions : Cond.selects RX5 yX5_questions yX5_questions ∈ ALL := qA (q_1 222 (by decide +kernel)) rfl
theorem cd_X5_questions : Cond.code yX5_questions cX5_questions 1 (some .int) ∈ ALL := qA (q_1 223 (by decide +kernel)) rfl
theorem ml_L_179 : Cond.methodLink RL 179 yX5_hits ∈ ALL := qA (q_1 224 (by decide +kernel)) rfl
theorem im_X5_hits : Cond.instanceMethod yX5_hits ∈ ALL := qA (q_1 225 (by decide +kernel)) rfl
theorem sl_X5_hits : Cond.selects RX5 yX5_hits yX5_hits ∈ ALL := qA (q_1 226 (by decide +kernel)) rfl
theorem cd_X5_hits : Cond.code yX5_hits cX5_hits 1 (some .int) ∈ ALL := qA (q_1 227 (by decide +kernel)) rfl
theorem ml_L_186 : Cond.methodLink RL 186 yX5_meanQuestions ∈ ALL := qA (q_1 228 (by decide +kernel)) rfl
theorem im_X5_meanQuestions : Cond.instanceMethod yX5_meanQuestions ∈ ALL := qA (q_1 229 (by decide +kernel)) rfl
theorem sl_X5_meanQuestions : Cond.selects RX5 yX5_meanQuestions yX5_meanQuestions ∈ ALL := qA (q_1 230 (by decide +kernel)) rfl
theorem cd_X5_meanQuestions : Cond.code yX5_meanQuestions cX5_meanQuestions 2 (some .double) ∈ ALL := qA (q_1 231 (by decide +kernel)) rfl
theorem ml_L_203 : Cond.methodLink RL 203 yX5_clearText ∈ ALL := qA (q_1 232 (by decide +kernel)) rfl
theorem im_X5_clearText : Cond.instanceMethod yX5_clearText ∈ ALL := qA (q_1 233 (by decide +kernel)) rfl
theorem sl_X5_clearText : Cond.selects RX5 yX5_clearText yX5_clearText ∈ ALL := qA (q_1 234 (by decide +kernel)) rfl
theorem cd_X5_clearText : Cond.code yX5_clearText cX5_clearText 2 (some .int) ∈ ALL := qA (q_1 235 (by decide +kernel)) rfl
theorem ml_L_207 : Cond.methodLink RL 207 yX5_firstError ∈ ALL := qA (q_1 236 (by decide +kernel)) rfl
theorem im_X5_firstError : Cond.instanceMethod yX5_firstError ∈ ALL := qA (q_1 237 (by decide +kernel)) rfl
theorem sl_X5_firstError : Cond.selects RX5 yX5_firstError yX5_firstError ∈ ALL := qA (q_1 238 (by decide +kernel)) rfl
theorem cd_X5_firstError : Cond.code yX5_firstError cX5_firstError 1 (some .int) ∈ ALL := qA (q_1 239 (by decide +kernel)) rfl
theorem ml_X5_193 : Cond.methodLink RX5 193 yX1_readActs ∈ ALL := qA (q_2 0 (by decide +kernel)) rfl
theorem im_X1_readActs : Cond.instanceMethod yX1_readActs ∈ ALL := qA (q_2 1 (by decide +kernel)) rfl
theorem sl_X1_readActs : Cond.selects RX1 yX1_readActs yX1_readActs ∈ ALL := qA (q_2 2 (by decide +kernel)) rfl
theorem cd_X1_readActs : Cond.code yX1_readActs cX1_readActs 5 (some .int) ∈ ALL := qA (q_2 3 (by decide +kernel)) rfl
theorem ml_X1_36 : Cond.methodLink RX1 36 yX1_addAct ∈ ALL := qA (q_2 5 (by decide +kernel)) rfl
theorem im_X1_addAct : Cond.instanceMethod yX1_addAct ∈ ALL := qA (q_2 7 (by decide +kernel)) rfl
theorem cd_X1_addAct : Cond.code yX1_addAct cX1_addAct 3 none ∈ ALL := qA (q_2 8 (by decide +kernel)) rfl
theorem st_X5_write : Cond.static yX5_write ∈ ALL := qA (q_2 10 (by decide +kernel)) rfl
theorem cd_X5_write : Cond.code yX5_write cX5_write 3 none ∈ ALL := qA (q_2 11 (by decide +kernel)) rfl
theorem ml_X1_40 : Cond.methodLink RX1 40 yX1_withDigit ∈ ALL := qA (q_2 12 (by decide +kernel)) rfl
theorem st_X1_withDigit : Cond.static yX1_withDigit ∈ ALL := qA (q_2 13 (by decide +kernel)) rfl
theorem cd_X1_withDigit : Cond.code yX1_withDigit cX1_withDigit 7 (some .int) ∈ ALL := qA (q_2 14 (by decide +kernel)) rfl
theorem ml_L_218 : Cond.methodLink RL 218 yX5_digest ∈ ALL := qA (q_2 15 (by decide +kernel)) rfl
theorem im_X5_digest : Cond.instanceMethod yX5_digest ∈ ALL := qA (q_2 16 (by decide +kernel)) rfl
theorem sl_X5_digest : Cond.selects RX5 yX5_digest yX5_digest ∈ ALL := qA (q_2 17 (by decide +kernel)) rfl
theorem cd_X5_digest : Cond.code yX5_digest cX5_digest 4 (some .long) ∈ ALL := qA (q_2 18 (by decide +kernel)) rfl
theorem kl_X5_214 : Cond.constantLong RX5 214 (725) ∈ ALL := qA (q_2 19 (by decide +kernel)) rfl
theorem ml_X5_216 : Cond.methodLink RX5 216 yX5_time ∈ ALL := qA (q_2 20 (by decide +kernel)) rfl
theorem ml_X5_218 : Cond.methodLink RX5 218 yX5_mix ∈ ALL := qA (q_2 21 (by decide +kernel)) rfl
theorem st_X5_mix : Cond.static yX5_mix ∈ ALL := qA (q_2 22 (by decide +kernel)) rfl
theorem cd_X5_mix : Cond.code yX5_mix cX5_mix 3 (some .long) ∈ ALL := qA (q_2 23 (by decide +kernel)) rfl
theorem kl_X5_276 : Cond.constantLong RX5 276 (31) ∈ ALL := qA (q_2 24 (by decide +kernel)) rfl
theorem ml_X5_222 : Cond.methodLink RX5 222 yX5_remembered ∈ ALL := qA (q_2 25 (by decide +kernel)) rfl
theorem ml_X5_225 : Cond.methodLink RX5 225 yX5_ticksUntilForgetting ∈ ALL := qA (q_2 26 (by decide +kernel)) rfl
theorem ml_X5_228 : Cond.methodLink RX5 228 yX5_solved ∈ ALL := qA (q_2 27 (by decide +kernel)) rfl
theorem ml_X5_230 : Cond.methodLink RX5 230 yX5_questions ∈ ALL := qA (q_2 28 (by decide +kernel)) rfl
theorem ml_X5_232 : Cond.methodLink RX5 232 yX5_hits ∈ ALL := qA (q_2 29 (by decide +kernel)) rfl
theorem ml_X5_234 : Cond.methodLink RX5 234 yX5_mixZone ∈ ALL := qA (q_2 30 (by decide +kernel)) rfl
theorem im_X5_mixZone : Cond.instanceMethod yX5_mixZone ∈ ALL := qA (q_2 32 (by decide +kernel)) rfl
theorem cd_X5_mixZone : Cond.code yX5_mixZone cX5_mixZone 6 (some .long) ∈ ALL := qA (q_2 33 (by decide +kernel)) rfl
theorem ml_X5_240 : Cond.methodLink RX5 240 yX5_parentOf ∈ ALL := qA (q_2 34 (by decide +kernel)) rfl
theorem im_X5_parentOf : Cond.instanceMethod yX5_parentOf ∈ ALL := qA (q_2 35 (by decide +kernel)) rfl
theorem sl_X5_parentOf : Cond.selects RX5 yX5_parentOf yX5_parentOf ∈ ALL := qA (q_2 36 (by decide +kernel)) rfl
theorem cd_X5_parentOf : Cond.code yX5_parentOf cX5_parentOf 2 (some .int) ∈ ALL := qA (q_2 37 (by decide +kernel)) rfl
theorem ml_X5_31 : Cond.methodLink RX5 31 yX5_requireZone ∈ ALL := qA (q_2 38 (by decide +kernel)) rfl
theorem st_X5_requireZone : Cond.static yX5_requireZone ∈ ALL := qA (q_2 39 (by decide +kernel)) rfl
theorem cd_X5_requireZone : Cond.code yX5_requireZone cX5_requireZone 1 none ∈ ALL := qA (q_2 40 (by decide +kernel)) rfl
theorem cl_X5_35 : Cond.classLink RX5 35 "java/lang/IndexOutOfBoundsException" ∈ ALL := qA (q_2 41 (by decide +kernel)) rfl
theorem ia_IndexOutOfBoundsException : Cond.instantiable "java/lang/IndexOutOfBoundsException" 6 ∈ ALL := qA (q_2 42 (by decide +kernel)) rfl
theorem ia_Throwable : Cond.instantiable "java/lang/Throwable" 6 ∈ ALL := qA (q_2 80 (by decide +kernel)) rfl
theorem ac_byte : Cond.arrayClass .byte ∈ ALL := qA (q_2 108 (by decide +kernel)) rfl
theorem ml_X5_59 : Cond.methodLink RX5 59 yX5_read ∈ ALL := qA (q_2 109 (by decide +kernel)) rfl
theorem ml_X5_243 : Cond.methodLink RX5 243 yX5_depthOf ∈ ALL := qA (q_2 110 (by decide +kernel)) rfl
theorem im_X5_depthOf : Cond.instanceMethod yX5_depthOf ∈ ALL := qA (q_2 111 (by decide +kernel)) rfl
theorem sl_X5_depthOf : Cond.selects RX5 yX5_depthOf yX5_depthOf ∈ ALL := qA (q_2 112 (by decide +kernel)) rfl
theorem cd_X5_depthOf : Cond.code yX5_depthOf cX5_depthOf 2 (some .int) ∈ ALL := qA (q_2 113 (by decide +kernel)) rfl
theorem ml_X5_123 : Cond.methodLink RX5 123 yX4_stepsToRoot ∈ ALL := qA (q_2 114 (by decide +kernel)) rfl
theorem im_X4_stepsToRoot : Cond.instanceMethod yX4_stepsToRoot ∈ ALL := qA (q_2 115 (by decide +kernel)) rfl
theorem sl_X4_stepsToRoot : Cond.selects RX4 yX4_stepsToRoot yX4_stepsToRoot ∈ ALL := qA (q_2 116 (by decide +kernel)) rfl
theorem cd_X4_stepsToRoot : Cond.code yX4_stepsToRoot cX4_stepsToRoot 4 (some .int) ∈ ALL := qA (q_2 117 (by decide +kernel)) rfl
theorem ml_X5_246 : Cond.methodLink RX5 246 yX5_referralLeft ∈ ALL := qA (q_2 119 (by decide +kernel)) rfl
theorem im_X5_referralLeft : Cond.instanceMethod yX5_referralLeft ∈ ALL := qA (q_2 120 (by decide +kernel)) rfl
theorem sl_X5_referralLeft : Cond.selects RX5 yX5_referralLeft yX5_referralLeft ∈ ALL := qA (q_2 121 (by decide +kernel)) rfl
theorem cd_X5_referralLeft : Cond.code yX5_referralLeft cX5_referralLeft 2 (some .int) ∈ ALL := qA (q_2 122 (by decide +kernel)) rfl
theorem ml_X5_249 : Cond.methodLink RX5 249 yX5_questionsTo ∈ ALL := qA (q_2 123 (by decide +kernel)) rfl
theorem im_X5_questionsTo : Cond.instanceMethod yX5_questionsTo ∈ ALL := qA (q_2 124 (by decide +kernel)) rfl
theorem sl_X5_questionsTo : Cond.selects RX5 yX5_questionsTo yX5_questionsTo ∈ ALL := qA (q_2 125 (by decide +kernel)) rfl
theorem cd_X5_questionsTo : Cond.code yX5_questionsTo cX5_questionsTo 2 (some .int) ∈ ALL := qA (q_2 126 (by decide +kernel)) rfl
theorem ml_X5_237 : Cond.methodLink RX5 237 yX5_mixRiddle ∈ ALL := qA (q_2 127 (by decide +kernel)) rfl
theorem im_X5_mixRiddle : Cond.instanceMethod yX5_mixRiddle ∈ ALL := qA (q_2 129 (by decide +kernel)) rfl
theorem cd_X5_mixRiddle : Cond.code yX5_mixRiddle cX5_mixRiddle 6 (some .long) ∈ ALL := qA (q_2 130 (by decide +kernel)) rfl
theorem ml_X5_252 : Cond.methodLink RX5 252 yX5_kindOf ∈ ALL := qA (q_2 131 (by decide +kernel)) rfl
theorem im_X5_kindOf : Cond.instanceMethod yX5_kindOf ∈ ALL := qA (q_2 132 (by decide +kernel)) rfl
theorem sl_X5_kindOf : Cond.selects RX5 yX5_kindOf yX5_kindOf ∈ ALL := qA (q_2 133 (by decide +kernel)) rfl
theorem cd_X5_kindOf : Cond.code yX5_kindOf cX5_kindOf 2 (some .int) ∈ ALL := qA (q_2 134 (by decide +kernel)) rfl
theorem ml_X5_73 : Cond.methodLink RX5 73 yX5_requireRiddle ∈ ALL := qA (q_2 135 (by decide +kernel)) rfl
theorem st_X5_requireRiddle : Cond.static yX5_requireRiddle ∈ ALL := qA (q_2 136 (by decide +kernel)) rfl
theorem cd_X5_requireRiddle : Cond.code yX5_requireRiddle cX5_requireRiddle 1 none ∈ ALL := qA (q_2 137 (by decide +kernel)) rfl
theorem ml_X5_89 : Cond.methodLink RX5 89 yX2_kind ∈ ALL := qA (q_2 139 (by decide +kernel)) rfl
theorem ml_X5_255 : Cond.methodLink RX5 255 yX5_valueOf ∈ ALL := qA (q_2 140 (by decide +kernel)) rfl
theorem im_X5_valueOf : Cond.instanceMethod yX5_valueOf ∈ ALL := qA (q_2 141 (by decide +kernel)) rfl
theorem sl_X5_valueOf : Cond.selects RX5 yX5_valueOf yX5_valueOf ∈ ALL := qA (q_2 142 (by decide +kernel)) rfl
theorem cd_X5_valueOf : Cond.code yX5_valueOf cX5_valueOf 2 (some .int) ∈ ALL := qA (q_2 143 (by decide +kernel)) rfl
theorem ml_X5_126 : Cond.methodLink RX5 126 yX2_value ∈ ALL := qA (q_2 144 (by decide +kernel)) rfl
theorem im_X2_value : Cond.instanceMethod yX2_value ∈ ALL := qA (q_2 145 (by decide +kernel)) rfl
theorem sl_X2_value : Cond.selects RX2 yX2_value yX2_value ∈ ALL := qA (q_2 146 (by decide +kernel)) rfl
theorem cd_X2_value : Cond.code yX2_value cX2_value 2 (some .int) ∈ ALL := qA (q_2 147 (by decide +kernel)) rfl
theorem ml_X5_258 : Cond.methodLink RX5 258 yX5_truthOf ∈ ALL := qA (q_2 148 (by decide +kernel)) rfl
theorem im_X5_truthOf : Cond.instanceMethod yX5_truthOf ∈ ALL := qA (q_2 149 (by decide +kernel)) rfl
theorem sl_X5_truthOf : Cond.selects RX5 yX5_truthOf yX5_truthOf ∈ ALL := qA (q_2 150 (by decide +kernel)) rfl
theorem cd_X5_truthOf : Cond.code yX5_truthOf cX5_truthOf 2 (some .int) ∈ ALL := qA (q_2 151 (by decide +kernel)) rfl
theorem ml_X5_129 : Cond.methodLink RX5 129 yX3_trueResult ∈ ALL := qA (q_2 152 (by decide +kernel)) rfl
theorem im_X3_trueResult : Cond.instanceMethod yX3_trueResult ∈ ALL := qA (q_2 153 (by decide +kernel)) rfl
theorem sl_X3_trueResult : Cond.selects RX3 yX3_trueResult yX3_trueResult ∈ ALL := qA (q_2 154 (by decide +kernel)) rfl
theorem cd_X3_trueResult : Cond.code yX3_trueResult cX3_trueResult 2 (some .int) ∈ ALL := qA (q_2 155 (by decide +kernel)) rfl
theorem ml_X3_140 : Cond.methodLink RX3 140 yX3_resultAfter ∈ ALL := qA (q_2 156 (by decide +kernel)) rfl
theorem im_X3_resultAfter : Cond.instanceMethod yX3_resultAfter ∈ ALL := qA (q_2 157 (by decide +kernel)) rfl
theorem sl_X3_resultAfter : Cond.selects RX3 yX3_resultAfter yX3_resultAfter ∈ ALL := qA (q_2 158 (by decide +kernel)) rfl
theorem cd_X3_resultAfter : Cond.code yX3_resultAfter cX3_resultAfter 6 (some .int) ∈ ALL := qA (q_2 159 (by decide +kernel)) rfl
theorem ml_X3_68 : Cond.methodLink RX3 68 yX2_value ∈ ALL := qA (q_2 160 (by decide +kernel)) rfl
theorem ml_X5_261 : Cond.methodLink RX5 261 yX5_rememberedOf ∈ ALL := qA (q_2 161 (by decide +kernel)) rfl
theorem im_X5_rememberedOf : Cond.instanceMethod yX5_rememberedOf ∈ ALL := qA (q_2 162 (by decide +kernel)) rfl
theorem sl_X5_rememberedOf : Cond.selects RX5 yX5_rememberedOf yX5_rememberedOf ∈ ALL := qA (q_2 163 (by decide +kernel)) rfl
theorem cd_X5_rememberedOf : Cond.code yX5_rememberedOf cX5_rememberedOf 2 (some .int) ∈ ALL := qA (q_2 164 (by decide +kernel)) rfl
theorem ml_X5_264 : Cond.methodLink RX5 264 yX5_ticksLeftOf ∈ ALL := qA (q_2 165 (by decide +kernel)) rfl
theorem im_X5_ticksLeftOf : Cond.instanceMethod yX5_ticksLeftOf ∈ ALL := qA (q_2 166 (by decide +kernel)) rfl
theorem sl_X5_ticksLeftOf : Cond.selects RX5 yX5_ticksLeftOf yX5_ticksLeftOf ∈ ALL := qA (q_2 167 (by decide +kernel)) rfl
theorem cd_X5_ticksLeftOf : Cond.code yX5_ticksLeftOf cX5_ticksLeftOf 2 (some .int) ∈ ALL := qA (q_2 168 (by decide +kernel)) rfl
theorem ml_X5_132 : Cond.methodLink RX5 132 yX2_ticks ∈ ALL := qA (q_2 169 (by decide +kernel)) rfl
theorem ml_X5_267 : Cond.methodLink RX5 267 yX5_isOutOfDate ∈ ALL := qA (q_2 170 (by decide +kernel)) rfl
theorem im_X5_isOutOfDate : Cond.instanceMethod yX5_isOutOfDate ∈ ALL := qA (q_2 171 (by decide +kernel)) rfl
theorem sl_X5_isOutOfDate : Cond.selects RX5 yX5_isOutOfDate yX5_isOutOfDate ∈ ALL := qA (q_2 172 (by decide +kernel)) rfl
theorem cd_X5_isOutOfDate : Cond.code yX5_isOutOfDate cX5_isOutOfDate 2 (some .boolean) ∈ ALL := qA (q_2 173 (by decide +kernel)) rfl
theorem ml_X5_160 : Cond.methodLink RX5 160 yX3_differsFromTruth ∈ ALL := qA (q_2 174 (by decide +kernel)) rfl
theorem im_X3_differsFromTruth : Cond.instanceMethod yX3_differsFromTruth ∈ ALL := qA (q_2 175 (by decide +kernel)) rfl
theorem sl_X3_differsFromTruth : Cond.selects RX3 yX3_differsFromTruth yX3_differsFromTruth ∈ ALL := qA (q_2 176 (by decide +kernel)) rfl
theorem cd_X3_differsFromTruth : Cond.code yX3_differsFromTruth cX3_differsFromTruth 4 (some .boolean) ∈ ALL := qA (q_2 177 (by decide +kernel)) rfl
theorem ml_X5_270 : Cond.methodLink RX5 270 yX5_wouldSolve ∈ ALL := qA (q_2 178 (by decide +kernel)) rfl
theorem im_X5_wouldSolve : Cond.instanceMethod yX5_wouldSolve ∈ ALL := qA (q_2 179 (by decide +kernel)) rfl
theorem sl_X5_wouldSolve : Cond.selects RX5 yX5_wouldSolve yX5_wouldSolve ∈ ALL := qA (q_2 180 (by decide +kernel)) rfl
theorem cd_X5_wouldSolve : Cond.code yX5_wouldSolve cX5_wouldSolve 2 (some .int) ∈ ALL := qA (q_2 181 (by decide +kernel)) rfl
theorem ml_X5_175 : Cond.methodLink RX5 175 yX3_resultAfter ∈ ALL := qA (q_2 182 (by decide +kernel)) rfl
theorem ml_X5_273 : Cond.methodLink RX5 273 yX5_costOf ∈ ALL := qA (q_2 183 (by decide +kernel)) rfl
theorem im_X5_costOf : Cond.instanceMethod yX5_costOf ∈ ALL := qA (q_2 184 (by decide +kernel)) rfl
theorem sl_X5_costOf : Cond.selects RX5 yX5_costOf yX5_costOf ∈ ALL := qA (q_2 185 (by decide +kernel)) rfl
theorem cd_X5_costOf : Cond.code yX5_costOf cX5_costOf 2 (some .int) ∈ ALL := qA (q_2 186 (by decide +kernel)) rfl
theorem ml_X5_179 : Cond.methodLink RX5 179 yX3_countQuestions ∈ ALL := qA (q_2 187 (by decide +kernel)) rfl
theorem im_X3_countQuestions : Cond.instanceMethod yX3_countQuestions ∈ ALL := qA (q_2 188 (by decide +kernel)) rfl
theorem sl_X3_countQuestions : Cond.selects RX3 yX3_countQuestions yX3_countQuestions ∈ ALL := qA (q_2 189 (by decide +kernel)) rfl
theorem cd_X3_countQuestions : Cond.code yX3_countQuestions cX3_countQuestions 10 (some .int) ∈ ALL := qA (q_2 190 (by decide +kernel)) rfl
theorem ml_X3_81 : Cond.methodLink RX3 81 yX3_lackingReferrals ∈ ALL := qA (q_2 191 (by decide +kernel)) rfl
theorem im_X3_lackingReferrals : Cond.instanceMethod yX3_lackingReferrals ∈ ALL := qA (q_2 193 (by decide +kernel)) rfl
theorem cd_X3_lackingReferrals : Cond.code yX3_lackingReferrals cX3_lackingReferrals 6 (some .int) ∈ ALL := qA (q_2 194 (by decide +kernel)) rfl
theorem ml_X3_115 : Cond.methodLink RX3 115 yX3_lacksReferral ∈ ALL := qA (q_2 195 (by decide +kernel)) rfl
theorem im_X3_lacksReferral : Cond.instanceMethod yX3_lacksReferral ∈ ALL := qA (q_2 197 (by decide +kernel)) rfl
theorem cd_X3_lacksReferral : Cond.code yX3_lacksReferral cX3_lacksReferral 3 (some .boolean) ∈ ALL := qA (q_2 198 (by decide +kernel)) rfl
theorem ml_X3_146 : Cond.methodLink RX3 146 yJ6_bitCount_0f7a4 ∈ ALL := qA (q_2 199 (by decide +kernel)) rfl
theorem st_J6_bitCount_0f7a4 : Cond.static yJ6_bitCount_0f7a4 ∈ ALL := qA (q_2 200 (by decide +kernel)) rfl
theorem cd_J6_bitCount_0f7a4 : Cond.code yJ6_bitCount_0f7a4 cJ6_bitCount_0f7a4 1 (some .int) ∈ ALL := qA (q_2 201 (by decide +kernel)) rfl
theorem ki_J6_265 : Cond.constant RJ6 265 (1431655765) ∈ ALL := qA (q_2 202 (by decide +kernel)) rfl
theorem ki_J6_266 : Cond.constant RJ6 266 (858993459) ∈ ALL := qA (q_2 203 (by decide +kernel)) rfl
theorem ki_J6_267 : Cond.constant RJ6 267 (252645135) ∈ ALL := qA (q_2 204 (by decide +kernel)) rfl
theorem ml_L_96 : Cond.methodLink RL 96 yL_setParent ∈ ALL := qA (q_2 205 (by decide +kernel)) rfl
theorem st_L_setParent : Cond.static yL_setParent ∈ ALL := qA (q_2 206 (by decide +kernel)) rfl
theorem cd_L_setParent : Cond.codeWith yL_setParent cL_setParent 5 (some .int) [(0, 10, 13, 13), (0, 10, 17, 15)] ∈ ALL := qA (q_2 207 (by decide +kernel)) rfl
theorem cl_L_13 : Cond.classLink RL 13 "java/lang/IndexOutOfBoundsException" ∈ ALL := qA (q_2 208 (by decide +kernel)) rfl
theorem cl_L_15 : Cond.classLink RL 15 "java/lang/IllegalArgumentException" ∈ ALL := qA (q_2 209 (by decide +kernel)) rfl
theorem ml_L_7 : Cond.methodLink RL 7 yX5_setParent ∈ ALL := qA (q_2 210 (by decide +kernel)) rfl
theorem im_X5_setParent : Cond.instanceMethod yX5_setParent ∈ ALL := qA (q_2 211 (by decide +kernel)) rfl
theorem sl_X5_setParent : Cond.selects RX5 yX5_setParent yX5_setParent ∈ ALL := qA (q_2 212 (by decide +kernel)) rfl
theorem cd_X5_setParent : Cond.code yX5_setParent cX5_setParent 4 (some .int) ∈ ALL := qA (q_2 213 (by decide +kernel)) rfl
theorem ml_X5_42 : Cond.methodLink RX5 42 yX5_requireRange ∈ ALL := qA (q_2 215 (by decide +kernel)) rfl
theorem st_X5_requireRange : Cond.static yX5_requireRange ∈ ALL := qA (q_2 216 (by decide +kernel)) rfl
theorem cd_X5_requireRange : Cond.code yX5_requireRange cX5_requireRange 3 none ∈ ALL := qA (q_2 217 (by decide +kernel)) rfl
theorem cl_X5_80 : Cond.classLink RX5 80 "java/lang/IllegalArgumentException" ∈ ALL := qA (q_2 218 (by decide +kernel)) rfl
theorem ia_IllegalArgumentException : Cond.instantiable "java/lang/IllegalArgumentException" 6 ∈ ALL := qA (q_2 219 (by decide +kernel)) rfl
theorem ml_X5_46 : Cond.methodLink RX5 46 yX5_save ∈ ALL := qA (q_2 234 (by decide +kernel)) rfl
theorem im_X5_save : Cond.instanceMethod yX5_save ∈ ALL := qA (q_2 236 (by decide +kernel)) rfl
theorem cd_X5_save : Cond.code yX5_save cX5_save 2 none ∈ ALL := qA (q_2 237 (by decide +kernel)) rfl
theorem ml_X5_288 : Cond.methodLink RX5 288 yX5_moveOldestToEnd ∈ ALL := qA (q_2 238 (by decide +kernel)) rfl
theorem im_X5_moveOldestToEnd : Cond.instanceMethod yX5_moveOldestToEnd ∈ ALL := qA (q_3 0 (by decide +kernel)) rfl
theorem cd_X5_moveOldestToEnd : Cond.code yX5_moveOldestToEnd cX5_moveOldestToEnd 3 none ∈ ALL := qA (q_3 1 (by decide +kernel)) rfl
theorem ml_X5_204 : Cond.methodLink RX5 204 yX5_savedAt ∈ ALL := qA (q_3 2 (by decide +kernel)) rfl
theorem im_X5_savedAt : Cond.instanceMethod yX5_savedAt ∈ ALL := qA (q_3 4 (by decide +kernel)) rfl
theorem cd_X5_savedAt : Cond.code yX5_savedAt cX5_savedAt 2 (some (.object "RiddlePost$State")) ∈ ALL := qA (q_3 5 (by decide +kernel)) rfl
theorem ml_X5_210 : Cond.methodLink RX5 210 yX3_copyFrom ∈ ALL := qA (q_3 6 (by decide +kernel)) rfl
theorem im_X3_copyFrom : Cond.instanceMethod yX3_copyFrom ∈ ALL := qA (q_3 7 (by decide +kernel)) rfl
theorem sl_X3_copyFrom : Cond.selects RX3 yX3_copyFrom yX3_copyFrom ∈ ALL := qA (q_3 8 (by decide +kernel)) rfl
theorem cd_X3_copyFrom : Cond.code yX3_copyFrom cX3_copyFrom 2 none ∈ ALL := qA (q_3 9 (by decide +kernel)) rfl
theorem ml_X3_43 : Cond.methodLink RX3 43 yX4_copyFrom ∈ ALL := qA (q_3 10 (by decide +kernel)) rfl
theorem im_X4_copyFrom : Cond.instanceMethod yX4_copyFrom ∈ ALL := qA (q_3 11 (by decide +kernel)) rfl
theorem sl_X4_copyFrom : Cond.selects RX4 yX4_copyFrom yX4_copyFrom ∈ ALL := qA (q_3 12 (by decide +kernel)) rfl
theorem cd_X4_copyFrom : Cond.code yX4_copyFrom cX4_copyFrom 2 none ∈ ALL := qA (q_3 13 (by decide +kernel)) rfl
theorem st_X5_copyRow : Cond.static yX5_copyRow ∈ ALL := qA (q_3 15 (by decide +kernel)) rfl
theorem cd_X5_copyRow : Cond.code yX5_copyRow cX5_copyRow 2 none ∈ ALL := qA (q_3 16 (by decide +kernel)) rfl
theorem ml_X5_297 : Cond.methodLink RX5 297 yJ9_min_7cf53 ∈ ALL := qA (q_3 17 (by decide +kernel)) rfl
theorem ml_X3_47 : Cond.methodLink RX3 47 yX2_copyFrom ∈ ALL := qA (q_3 21 (by decide +kernel)) rfl
theorem im_X2_copyFrom : Cond.instanceMethod yX2_copyFrom ∈ ALL := qA (q_3 22 (by decide +kernel)) rfl
theorem sl_X2_copyFrom : Cond.selects RX2 yX2_copyFrom yX2_copyFrom ∈ ALL := qA (q_3 23 (by decide +kernel)) rfl
theorem cd_X2_copyFrom : Cond.code yX2_copyFrom cX2_copyFrom 2 none ∈ ALL := qA (q_3 24 (by decide +kernel)) rfl
theorem ml_X3_54 : Cond.methodLink RX3 54 yX0_copyFrom ∈ ALL := qA (q_3 27 (by decide +kernel)) rfl
theorem im_X0_copyFrom : Cond.instanceMethod yX0_copyFrom ∈ ALL := qA (q_3 28 (by decide +kernel)) rfl
theorem sl_X0_copyFrom : Cond.selects RX0 yX0_copyFrom yX0_copyFrom ∈ ALL := qA (q_3 29 (by decide +kernel)) rfl
theorem cd_X0_copyFrom : Cond.code yX0_copyFrom cX0_copyFrom 2 none ∈ ALL := qA (q_3 30 (by decide +kernel)) rfl
theorem ml_X5_63 : Cond.methodLink RX5 63 yX5_write ∈ ALL := qA (q_3 32 (by decide +kernel)) rfl
theorem ml_L_105 : Cond.methodLink RL 105 yL_setAges ∈ ALL := qA (q_3 33 (by decide +kernel)) rfl
theorem st_L_setAges : Cond.static yL_setAges ∈ ALL := qA (q_3 34 (by decide +kernel)) rfl
theorem cd_L_setAges : Cond.codeWith yL_setAges cL_setAges 6 (some .int) [(0, 12, 15, 13), (0, 12, 19, 15)] ∈ ALL := qA (q_3 35 (by decide +kernel)) rfl
theorem ml_L_17 : Cond.methodLink RL 17 yX5_setAges ∈ ALL := qA (q_3 36 (by decide +kernel)) rfl
theorem im_X5_setAges : Cond.instanceMethod yX5_setAges ∈ ALL := qA (q_3 37 (by decide +kernel)) rfl
theorem sl_X5_setAges : Cond.selects RX5 yX5_setAges yX5_setAges ∈ ALL := qA (q_3 38 (by decide +kernel)) rfl
theorem cd_X5_setAges : Cond.code yX5_setAges cX5_setAges 5 (some .int) ∈ ALL := qA (q_3 39 (by decide +kernel)) rfl
theorem ml_L_109 : Cond.methodLink RL 109 yL_setAnswer ∈ ALL := qA (q_3 40 (by decide +kernel)) rfl
theorem st_L_setAnswer : Cond.static yL_setAnswer ∈ ALL := qA (q_3 41 (by decide +kernel)) rfl
theorem cd_L_setAnswer : Cond.codeWith yL_setAnswer cL_setAnswer 6 (some .int) [(0, 12, 15, 13), (0, 12, 19, 15)] ∈ ALL := qA (q_3 42 (by decide +kernel)) rfl
theorem ml_L_21 : Cond.methodLink RL 21 yX5_setAnswer ∈ ALL := qA (q_3 43 (by decide +kernel)) rfl
theorem im_X5_setAnswer : Cond.instanceMethod yX5_setAnswer ∈ ALL := qA (q_3 44 (by decide +kernel)) rfl
theorem sl_X5_setAnswer : Cond.selects RX5 yX5_setAnswer yX5_setAnswer ∈ ALL := qA (q_3 45 (by decide +kernel)) rfl
theorem cd_X5_setAnswer : Cond.code yX5_setAnswer cX5_setAnswer 4 (some .int) ∈ ALL := qA (q_3 46 (by decide +kernel)) rfl
theorem ml_X5_76 : Cond.methodLink RX5 76 yX5_replaceTruth ∈ ALL := qA (q_3 47 (by decide +kernel)) rfl
theorem im_X5_replaceTruth : Cond.instanceMethod yX5_replaceTruth ∈ ALL := qA (q_3 49 (by decide +kernel)) rfl
theorem cd_X5_replaceTruth : Cond.code yX5_replaceTruth cX5_replaceTruth 6 (some .int) ∈ ALL := qA (q_3 50 (by decide +kernel)) rfl
theorem ml_X5_278 : Cond.methodLink RX5 278 yX2_put ∈ ALL := qA (q_3 51 (by decide +kernel)) rfl
theorem im_X2_put : Cond.instanceMethod yX2_put ∈ ALL := qA (q_3 52 (by decide +kernel)) rfl
theorem sl_X2_put : Cond.selects RX2 yX2_put yX2_put ∈ ALL := qA (q_3 53 (by decide +kernel)) rfl
theorem cd_X2_put : Cond.code yX2_put cX2_put 5 none ∈ ALL := qA (q_3 54 (by decide +kernel)) rfl
theorem ml_L_112 : Cond.methodLink RL 112 yL_setReference ∈ ALL := qA (q_3 56 (by decide +kernel)) rfl
theorem st_L_setReference : Cond.static yL_setReference ∈ ALL := qA (q_3 57 (by decide +kernel)) rfl
theorem cd_L_setReference : Cond.codeWith yL_setReference cL_setReference 6 (some .int) [(0, 12, 15, 13), (0, 12, 19, 15)] ∈ ALL := qA (q_3 58 (by decide +kernel)) rfl
theorem ml_L_24 : Cond.methodLink RL 24 yX5_setReference ∈ ALL := qA (q_3 59 (by decide +kernel)) rfl
theorem im_X5_setReference : Cond.instanceMethod yX5_setReference ∈ ALL := qA (q_3 60 (by decide +kernel)) rfl
theorem sl_X5_setReference : Cond.selects RX5 yX5_setReference yX5_setReference ∈ ALL := qA (q_3 61 (by decide +kernel)) rfl
theorem cd_X5_setReference : Cond.code yX5_setReference cX5_setReference 4 (some .int) ∈ ALL := qA (q_3 62 (by decide +kernel)) rfl
theorem ml_L_115 : Cond.methodLink RL 115 yL_takeAway ∈ ALL := qA (q_3 64 (by decide +kernel)) rfl
theorem st_L_takeAway : Cond.static yL_takeAway ∈ ALL := qA (q_3 65 (by decide +kernel)) rfl
theorem cd_L_takeAway : Cond.codeWith yL_takeAway cL_takeAway 4 (some .int) [(0, 9, 12, 13), (0, 9, 15, 31)] ∈ ALL := qA (q_3 66 (by decide +kernel)) rfl
theorem cl_L_31 : Cond.classLink RL 31 "java/lang/IllegalStateException" ∈ ALL := qA (q_3 67 (by decide +kernel)) rfl
theorem ml_L_27 : Cond.methodLink RL 27 yX5_takeAway ∈ ALL := qA (q_3 68 (by decide +kernel)) rfl
theorem im_X5_takeAway : Cond.instanceMethod yX5_takeAway ∈ ALL := qA (q_3 69 (by decide +kernel)) rfl
theorem sl_X5_takeAway : Cond.selects RX5 yX5_takeAway yX5_takeAway ∈ ALL := qA (q_3 70 (by decide +kernel)) rfl
theorem cd_X5_takeAway : Cond.code yX5_takeAway cX5_takeAway 2 (some .int) ∈ ALL := qA (q_3 71 (by decide +kernel)) rfl
theorem cl_X5_95 : Cond.classLink RX5 95 "java/lang/IllegalStateException" ∈ ALL := qA (q_3 72 (by decide +kernel)) rfl
theorem ia_IllegalStateException : Cond.instantiable "java/lang/IllegalStateException" 6 ∈ ALL := qA (q_3 73 (by decide +kernel)) rfl
theorem ml_L_119 : Cond.methodLink RL 119 yL_solve ∈ ALL := qA (q_3 88 (by decide +kernel)) rfl
theorem st_L_solve : Cond.static yL_solve ∈ ALL := qA (q_3 89 (by decide +kernel)) rfl
theorem cd_L_solve : Cond.codeWith yL_solve cL_solve 4 (some .int) [(0, 9, 12, 13)] ∈ ALL := qA (q_3 90 (by decide +kernel)) rfl
theorem ml_L_33 : Cond.methodLink RL 33 yX5_solve ∈ ALL := qA (q_3 91 (by decide +kernel)) rfl
theorem im_X5_solve : Cond.instanceMethod yX5_solve ∈ ALL := qA (q_3 92 (by decide +kernel)) rfl
theorem sl_X5_solve : Cond.selects RX5 yX5_solve yX5_solve ∈ ALL := qA (q_3 93 (by decide +kernel)) rfl
theorem cd_X5_solve : Cond.code yX5_solve cX5_solve 2 (some .int) ∈ ALL := qA (q_3 94 (by decide +kernel)) rfl
theorem ml_X5_100 : Cond.methodLink RX5 100 yX3_findResult ∈ ALL := qA (q_3 95 (by decide +kernel)) rfl
theorem im_X3_findResult : Cond.instanceMethod yX3_findResult ∈ ALL := qA (q_3 96 (by decide +kernel)) rfl
theorem sl_X3_findResult : Cond.selects RX3 yX3_findResult yX3_findResult ∈ ALL := qA (q_3 97 (by decide +kernel)) rfl
theorem cd_X3_findResult : Cond.code yX3_findResult cX3_findResult 4 (some .int) ∈ ALL := qA (q_3 98 (by decide +kernel)) rfl
theorem ml_X3_60 : Cond.methodLink RX3 60 yX3_takeReply ∈ ALL := qA (q_3 99 (by decide +kernel)) rfl
theorem im_X3_takeReply : Cond.instanceMethod yX3_takeReply ∈ ALL := qA (q_3 101 (by decide +kernel)) rfl
theorem cd_X3_takeReply : Cond.code yX3_takeReply cX3_takeReply 3 none ∈ ALL := qA (q_3 102 (by decide +kernel)) rfl
theorem ml_X3_74 : Cond.methodLink RX3 74 yX3_askTheWay ∈ ALL := qA (q_3 103 (by decide +kernel)) rfl
theorem im_X3_askTheWay : Cond.instanceMethod yX3_askTheWay ∈ ALL := qA (q_3 105 (by decide +kernel)) rfl
theorem cd_X3_askTheWay : Cond.code yX3_askTheWay cX3_askTheWay 5 none ∈ ALL := qA (q_3 106 (by decide +kernel)) rfl
theorem ml_X3_92 : Cond.methodLink RX3 92 yX0_countQuestionTo ∈ ALL := qA (q_3 107 (by decide +kernel)) rfl
theorem im_X0_countQuestionTo : Cond.instanceMethod yX0_countQuestionTo ∈ ALL := qA (q_3 108 (by decide +kernel)) rfl
theorem sl_X0_countQuestionTo : Cond.selects RX0 yX0_countQuestionTo yX0_countQuestionTo ∈ ALL := qA (q_3 109 (by decide +kernel)) rfl
theorem cd_X0_countQuestionTo : Cond.code yX0_countQuestionTo cX0_countQuestionTo 2 none ∈ ALL := qA (q_3 110 (by decide +kernel)) rfl
theorem ml_X3_77 : Cond.methodLink RX3 77 yX3_askRiddle ∈ ALL := qA (q_3 114 (by decide +kernel)) rfl
theorem im_X3_askRiddle : Cond.instanceMethod yX3_askRiddle ∈ ALL := qA (q_3 116 (by decide +kernel)) rfl
theorem cd_X3_askRiddle : Cond.code yX3_askRiddle cX3_askRiddle 4 none ∈ ALL := qA (q_3 117 (by decide +kernel)) rfl
theorem ml_X3_108 : Cond.methodLink RX3 108 yX2_put ∈ ALL := qA (q_3 118 (by decide +kernel)) rfl
theorem ml_L_122 : Cond.methodLink RL 122 yL_forget ∈ ALL := qA (q_3 119 (by decide +kernel)) rfl
theorem st_L_forget : Cond.static yL_forget ∈ ALL := qA (q_3 120 (by decide +kernel)) rfl
theorem cd_L_forget : Cond.codeWith yL_forget cL_forget 4 (some .int) [(0, 9, 12, 13), (0, 9, 15, 31)] ∈ ALL := qA (q_3 121 (by decide +kernel)) rfl
theorem ml_L_36 : Cond.methodLink RL 36 yX5_forget ∈ ALL := qA (q_3 122 (by decide +kernel)) rfl
theorem im_X5_forget : Cond.instanceMethod yX5_forget ∈ ALL := qA (q_3 123 (by decide +kernel)) rfl
theorem sl_X5_forget : Cond.selects RX5 yX5_forget yX5_forget ∈ ALL := qA (q_3 124 (by decide +kernel)) rfl
theorem cd_X5_forget : Cond.code yX5_forget cX5_forget 3 (some .int) ∈ ALL := qA (q_3 125 (by decide +kernel)) rfl
theorem ml_X5_108 : Cond.methodLink RX5 108 yX3_dropReply ∈ ALL := qA (q_3 127 (by decide +kernel)) rfl
theorem im_X3_dropReply : Cond.instanceMethod yX3_dropReply ∈ ALL := qA (q_3 128 (by decide +kernel)) rfl
theorem sl_X3_dropReply : Cond.selects RX3 yX3_dropReply yX3_dropReply ∈ ALL := qA (q_3 129 (by decide +kernel)) rfl
theorem cd_X3_dropReply : Cond.code yX3_dropReply cX3_dropReply 2 none ∈ ALL := qA (q_3 130 (by decide +kernel)) rfl
theorem ml_L_125 : Cond.methodLink RL 125 yL_pass ∈ ALL := qA (q_3 131 (by decide +kernel)) rfl
theorem st_L_pass : Cond.static yL_pass ∈ ALL := qA (q_3 132 (by decide +kernel)) rfl
theorem cd_L_pass : Cond.codeWith yL_pass cL_pass 4 (some .int) [(0, 9, 12, 15), (0, 9, 15, 31)] ∈ ALL := qA (q_3 133 (by decide +kernel)) rfl
theorem ml_L_39 : Cond.methodLink RL 39 yX5_pass ∈ ALL := qA (q_3 134 (by decide +kernel)) rfl
theorem im_X5_pass : Cond.instanceMethod yX5_pass ∈ ALL := qA (q_3 135 (by decide +kernel)) rfl
theorem sl_X5_pass : Cond.selects RX5 yX5_pass yX5_pass ∈ ALL := qA (q_3 136 (by decide +kernel)) rfl
theorem cd_X5_pass : Cond.code yX5_pass cX5_pass 2 (some .int) ∈ ALL := qA (q_3 137 (by decide +kernel)) rfl
theorem ml_X5_111 : Cond.methodLink RX5 111 yX3_hasRoomFor ∈ ALL := qA (q_3 138 (by decide +kernel)) rfl
theorem im_X3_hasRoomFor : Cond.instanceMethod yX3_hasRoomFor ∈ ALL := qA (q_3 139 (by decide +kernel)) rfl
theorem sl_X3_hasRoomFor : Cond.selects RX3 yX3_hasRoomFor yX3_hasRoomFor ∈ ALL := qA (q_3 140 (by decide +kernel)) rfl
theorem cd_X3_hasRoomFor : Cond.code yX3_hasRoomFor cX3_hasRoomFor 2 (some .boolean) ∈ ALL := qA (q_3 141 (by decide +kernel)) rfl
theorem ml_X5_117 : Cond.methodLink RX5 117 yX3_letPass ∈ ALL := qA (q_3 143 (by decide +kernel)) rfl
theorem im_X3_letPass : Cond.instanceMethod yX3_letPass ∈ ALL := qA (q_3 144 (by decide +kernel)) rfl
theorem sl_X3_letPass : Cond.selects RX3 yX3_letPass yX3_letPass ∈ ALL := qA (q_3 145 (by decide +kernel)) rfl
theorem cd_X3_letPass : Cond.code yX3_letPass cX3_letPass 4 (some .int) ∈ ALL := qA (q_3 146 (by decide +kernel)) rfl
theorem ml_X3_122 : Cond.methodLink RX3 122 yX3_isOver ∈ ALL := qA (q_3 147 (by decide +kernel)) rfl
theorem im_X3_isOver : Cond.instanceMethod yX3_isOver ∈ ALL := qA (q_3 149 (by decide +kernel)) rfl
theorem cd_X3_isOver : Cond.code yX3_isOver cX3_isOver 2 (some .boolean) ∈ ALL := qA (q_3 150 (by decide +kernel)) rfl
theorem ml_X3_126 : Cond.methodLink RX3 126 yX3_dropReferral ∈ ALL := qA (q_3 151 (by decide +kernel)) rfl
theorem im_X3_dropReferral : Cond.instanceMethod yX3_dropReferral ∈ ALL := qA (q_3 153 (by decide +kernel)) rfl
theorem cd_X3_dropReferral : Cond.code yX3_dropReferral cX3_dropReferral 2 none ∈ ALL := qA (q_3 154 (by decide +kernel)) rfl
theorem ml_X3_129 : Cond.methodLink RX3 129 yX3_dropReply ∈ ALL := qA (q_3 155 (by decide +kernel)) rfl
theorem ml_L_132 : Cond.methodLink RL 132 yL_parentOf ∈ ALL := qA (q_3 156 (by decide +kernel)) rfl
theorem st_L_parentOf : Cond.static yL_parentOf ∈ ALL := qA (q_3 157 (by decide +kernel)) rfl
theorem cd_L_parentOf : Cond.codeWith yL_parentOf cL_parentOf 4 (some .int) [(0, 9, 12, 13)] ∈ ALL := qA (q_3 158 (by decide +kernel)) rfl
theorem ml_L_42 : Cond.methodLink RL 42 yX5_parentOf ∈ ALL := qA (q_3 159 (by decide +kernel)) rfl
theorem ml_L_135 : Cond.methodLink RL 135 yL_depthOf ∈ ALL := qA (q_3 160 (by decide +kernel)) rfl
theorem st_L_depthOf : Cond.static yL_depthOf ∈ ALL := qA (q_3 161 (by decide +kernel)) rfl
theorem cd_L_depthOf : Cond.codeWith yL_depthOf cL_depthOf 4 (some .int) [(0, 9, 12, 13)] ∈ ALL := qA (q_3 162 (by decide +kernel)) rfl
theorem ml_L_45 : Cond.methodLink RL 45 yX5_depthOf ∈ ALL := qA (q_3 163 (by decide +kernel)) rfl
theorem ml_L_138 : Cond.methodLink RL 138 yL_kindOf ∈ ALL := qA (q_3 164 (by decide +kernel)) rfl
theorem st_L_kindOf : Cond.static yL_kindOf ∈ ALL := qA (q_3 165 (by decide +kernel)) rfl
theorem cd_L_kindOf : Cond.codeWith yL_kindOf cL_kindOf 4 (some .int) [(0, 9, 12, 13)] ∈ ALL := qA (q_3 166 (by decide +kernel)) rfl
theorem ml_L_48 : Cond.methodLink RL 48 yX5_kindOf ∈ ALL := qA (q_3 167 (by decide +kernel)) rfl
theorem ml_L_141 : Cond.methodLink RL 141 yL_valueOf ∈ ALL := qA (q_3 168 (by decide +kernel)) rfl
theorem st_L_valueOf : Cond.static yL_valueOf ∈ ALL := qA (q_3 169 (by decide +kernel)) rfl
theorem cd_L_valueOf : Cond.codeWith yL_valueOf cL_valueOf 4 (some .int) [(0, 9, 12, 13)] ∈ ALL := qA (q_3 170 (by decide +kernel)) rfl
theorem ml_L_51 : Cond.methodLink RL 51 yX5_valueOf ∈ ALL := qA (q_3 171 (by decide +kernel)) rfl
theorem ml_L_144 : Cond.methodLink RL 144 yL_truthOf ∈ ALL := qA (q_3 172 (by decide +kernel)) rfl
theorem st_L_truthOf : Cond.static yL_truthOf ∈ ALL := qA (q_3 173 (by decide +kernel)) rfl
theorem cd_L_truthOf : Cond.codeWith yL_truthOf cL_truthOf 4 (some .int) [(0, 9, 12, 13)] ∈ ALL := qA (q_3 174 (by decide +kernel)) rfl
theorem ml_L_54 : Cond.methodLink RL 54 yX5_truthOf ∈ ALL := qA (q_3 175 (by decide +kernel)) rfl
theorem ml_L_147 : Cond.methodLink RL 147 yL_rememberedOf ∈ ALL := qA (q_3 176 (by decide +kernel)) rfl
theorem st_L_rememberedOf : Cond.static yL_rememberedOf ∈ ALL := qA (q_3 177 (by decide +kernel)) rfl
theorem cd_L_rememberedOf : Cond.codeWith yL_rememberedOf cL_rememberedOf 4 (some .int) [(0, 9, 12, 13)] ∈ ALL := qA (q_3 178 (by decide +kernel)) rfl
theorem ml_L_57 : Cond.methodLink RL 57 yX5_rememberedOf ∈ ALL := qA (q_3 179 (by decide +kernel)) rfl
theorem ml_L_150 : Cond.methodLink RL 150 yL_ticksLeftOf ∈ ALL := qA (q_3 180 (by decide +kernel)) rfl
theorem st_L_ticksLeftOf : Cond.static yL_ticksLeftOf ∈ ALL := qA (q_3 181 (by decide +kernel)) rfl
theorem cd_L_ticksLeftOf : Cond.codeWith yL_ticksLeftOf cL_ticksLeftOf 4 (some .int) [(0, 9, 12, 13)] ∈ ALL := qA (q_3 182 (by decide +kernel)) rfl
theorem ml_L_60 : Cond.methodLink RL 60 yX5_ticksLeftOf ∈ ALL := qA (q_3 183 (by decide +kernel)) rfl
theorem ml_L_153 : Cond.methodLink RL 153 yL_referralLeft ∈ ALL := qA (q_3 184 (by decide +kernel)) rfl
theorem st_L_referralLeft : Cond.static yL_referralLeft ∈ ALL := qA (q_3 185 (by decide +kernel)) rfl
theorem cd_L_referralLeft : Cond.codeWith yL_referralLeft cL_referralLeft 4 (some .int) [(0, 9, 12, 13)] ∈ ALL := qA (q_3 186 (by decide +kernel)) rfl
theorem ml_L_63 : Cond.methodLink RL 63 yX5_referralLeft ∈ ALL := qA (q_3 187 (by decide +kernel)) rfl
theorem ml_L_168 : Cond.methodLink RL 168 yL_isOutOfDate ∈ ALL := qA (q_3 188 (by decide +kernel)) rfl
theorem st_L_isOutOfDate : Cond.static yL_isOutOfDate ∈ ALL := qA (q_3 189 (by decide +kernel)) rfl
theorem cd_L_isOutOfDate : Cond.codeWith yL_isOutOfDate cL_isOutOfDate 4 (some .int) [(0, 16, 19, 13)] ∈ ALL := qA (q_3 190 (by decide +kernel)) rfl
theorem ml_L_66 : Cond.methodLink RL 66 yX5_isOutOfDate ∈ ALL := qA (q_3 191 (by decide +kernel)) rfl
theorem ml_L_183 : Cond.methodLink RL 183 yL_questionsTo ∈ ALL := qA (q_3 192 (by decide +kernel)) rfl
theorem st_L_questionsTo : Cond.static yL_questionsTo ∈ ALL := qA (q_3 193 (by decide +kernel)) rfl
theorem cd_L_questionsTo : Cond.codeWith yL_questionsTo cL_questionsTo 4 (some .int) [(0, 9, 12, 13)] ∈ ALL := qA (q_3 194 (by decide +kernel)) rfl
theorem ml_L_70 : Cond.methodLink RL 70 yX5_questionsTo ∈ ALL := qA (q_3 195 (by decide +kernel)) rfl
theorem ml_L_191 : Cond.methodLink RL 191 yL_wouldSolve ∈ ALL := qA (q_3 196 (by decide +kernel)) rfl
theorem st_L_wouldSolve : Cond.static yL_wouldSolve ∈ ALL := qA (q_3 197 (by decide +kernel)) rfl
theorem cd_L_wouldSolve : Cond.codeWith yL_wouldSolve cL_wouldSolve 4 (some .int) [(0, 9, 12, 13)] ∈ ALL := qA (q_3 198 (by decide +kernel)) rfl
theorem ml_L_73 : Cond.methodLink RL 73 yX5_wouldSolve ∈ ALL := qA (q_3 199 (by decide +kernel)) rfl
theorem ml_L_194 : Cond.methodLink RL 194 yL_costOf ∈ ALL := qA (q_3 200 (by decide +kernel)) rfl
theorem st_L_costOf : Cond.static yL_costOf ∈ ALL := qA (q_3 201 (by decide +kernel)) rfl
theorem cd_L_costOf : Cond.codeWith yL_costOf cL_costOf 4 (some .int) [(0, 9, 12, 13)] ∈ ALL := qA (q_3 202 (by decide +kernel)) rfl
theorem ml_L_76 : Cond.methodLink RL 76 yX5_costOf ∈ ALL := qA (q_3 203 (by decide +kernel)) rfl
theorem ml_L_197 : Cond.methodLink RL 197 yL_ticksUntilTruth ∈ ALL := qA (q_3 204 (by decide +kernel)) rfl
theorem st_L_ticksUntilTruth : Cond.static yL_ticksUntilTruth ∈ ALL := qA (q_3 205 (by decide +kernel)) rfl
theorem cd_L_ticksUntilTruth : Cond.codeWith yL_ticksUntilTruth cL_ticksUntilTruth 4 (some .int) [(0, 9, 12, 13)] ∈ ALL := qA (q_3 206 (by decide +kernel)) rfl
theorem ml_L_79 : Cond.methodLink RL 79 yX5_ticksUntilTruth ∈ ALL := qA (q_3 207 (by decide +kernel)) rfl
theorem im_X5_ticksUntilTruth : Cond.instanceMethod yX5_ticksUntilTruth ∈ ALL := qA (q_3 208 (by decide +kernel)) rfl
theorem sl_X5_ticksUntilTruth : Cond.selects RX5 yX5_ticksUntilTruth yX5_ticksUntilTruth ∈ ALL := qA (q_3 209 (by decide +kernel)) rfl
theorem cd_X5_ticksUntilTruth : Cond.code yX5_ticksUntilTruth cX5_ticksUntilTruth 2 (some .int) ∈ ALL := qA (q_3 210 (by decide +kernel)) rfl
theorem ml_X5_182 : Cond.methodLink RX5 182 yX3_waitForTruth ∈ ALL := qA (q_3 211 (by decide +kernel)) rfl
theorem im_X3_waitForTruth : Cond.instanceMethod yX3_waitForTruth ∈ ALL := qA (q_3 212 (by decide +kernel)) rfl
theorem sl_X3_waitForTruth : Cond.selects RX3 yX3_waitForTruth yX3_waitForTruth ∈ ALL := qA (q_3 213 (by decide +kernel)) rfl
theorem cd_X3_waitForTruth : Cond.code yX3_waitForTruth cX3_waitForTruth 4 (some .int) ∈ ALL := qA (q_3 214 (by decide +kernel)) rfl
theorem ml_X3_143 : Cond.methodLink RX3 143 yX3_trueResult ∈ ALL := qA (q_3 215 (by decide +kernel)) rfl
theorem ml_L_200 : Cond.methodLink RL 200 yL_append ∈ ALL := qA (q_3 216 (by decide +kernel)) rfl
theorem st_L_append : Cond.static yL_append ∈ ALL := qA (q_3 217 (by decide +kernel)) rfl
theorem cd_L_append : Cond.codeWith yL_append cL_append 4 (some .int) [(0, 9, 12, 15), (0, 9, 15, 31)] ∈ ALL := qA (q_3 218 (by decide +kernel)) rfl
theorem ml_L_82 : Cond.methodLink RL 82 yX5_append ∈ ALL := qA (q_3 219 (by decide +kernel)) rfl
theorem im_X5_append : Cond.instanceMethod yX5_append ∈ ALL := qA (q_3 220 (by decide +kernel)) rfl
theorem sl_X5_append : Cond.selects RX5 yX5_append yX5_append ∈ ALL := qA (q_3 221 (by decide +kernel)) rfl
theorem cd_X5_append : Cond.code yX5_append cX5_append 2 (some .int) ∈ ALL := qA (q_3 222 (by decide +kernel)) rfl
theorem ml_X5_190 : Cond.methodLink RX5 190 yX1_add ∈ ALL := qA (q_3 224 (by decide +kernel)) rfl
theorem im_X1_add : Cond.instanceMethod yX1_add ∈ ALL := qA (q_3 225 (by decide +kernel)) rfl
theorem sl_X1_add : Cond.selects RX1 yX1_add yX1_add ∈ ALL := qA (q_3 226 (by decide +kernel)) rfl
theorem cd_X1_add : Cond.code yX1_add cX1_add 2 none ∈ ALL := qA (q_3 227 (by decide +kernel)) rfl
theorem ml_L_211 : Cond.methodLink RL 211 yL_runActs ∈ ALL := qA (q_3 228 (by decide +kernel)) rfl
theorem st_L_runActs : Cond.static yL_runActs ∈ ALL := qA (q_3 229 (by decide +kernel)) rfl
theorem cd_L_runActs : Cond.codeWith yL_runActs cL_runActs 3 (some .int) [(0, 8, 11, 31)] ∈ ALL := qA (q_3 230 (by decide +kernel)) rfl
theorem ml_L_85 : Cond.methodLink RL 85 yX5_runActs ∈ ALL := qA (q_3 231 (by decide +kernel)) rfl
theorem im_X5_runActs : Cond.instanceMethod yX5_runActs ∈ ALL := qA (q_3 232 (by decide +kernel)) rfl
theorem sl_X5_runActs : Cond.selects RX5 yX5_runActs yX5_runActs ∈ ALL := qA (q_3 233 (by decide +kernel)) rfl
theorem cd_X5_runActs : Cond.code yX5_runActs cX5_runActs 2 (some .int) ∈ ALL := qA (q_3 234 (by decide +kernel)) rfl
theorem ml_X5_201 : Cond.methodLink RX5 201 yX5_letHappen ∈ ALL := qA (q_3 236 (by decide +kernel)) rfl
theorem im_X5_letHappen : Cond.instanceMethod yX5_letHappen ∈ ALL := qA (q_3 238 (by decide +kernel)) rfl
theorem cd_X5_letHappen : Cond.code yX5_letHappen cX5_letHappen 3 (some .boolean) ∈ ALL := qA (q_3 239 (by decide +kernel)) rfl
theorem ml_L_215 : Cond.methodLink RL 215 yL_undo ∈ ALL := qA (q_4 0 (by decide +kernel)) rfl
theorem st_L_undo : Cond.static yL_undo ∈ ALL := qA (q_4 1 (by decide +kernel)) rfl
theorem cd_L_undo : Cond.codeWith yL_undo cL_undo 3 (some .int) [(0, 8, 11, 31)] ∈ ALL := qA (q_4 2 (by decide +kernel)) rfl
theorem ml_L_89 : Cond.methodLink RL 89 yX5_undo ∈ ALL := qA (q_4 3 (by decide +kernel)) rfl
theorem im_X5_undo : Cond.instanceMethod yX5_undo ∈ ALL := qA (q_4 4 (by decide +kernel)) rfl
theorem sl_X5_undo : Cond.selects RX5 yX5_undo yX5_undo ∈ ALL := qA (q_4 5 (by decide +kernel)) rfl
theorem cd_X5_undo : Cond.code yX5_undo cX5_undo 2 (some .int) ∈ ALL := qA (q_4 6 (by decide +kernel)) rfl
theorem cl_L_93 : Cond.classLink RL 93 RX6 ∈ ALL := qA (q_4 8 (by decide +kernel)) rfl
theorem ia_X6 : Cond.instantiable RX6 11 ∈ ALL := qA (q_4 9 (by decide +kernel)) rfl
theorem ml_L_95 : Cond.methodLink RL 95 yX6_init ∈ ALL := qA (q_4 10 (by decide +kernel)) rfl
theorem im_X6_init : Cond.instanceMethod yX6_init ∈ ALL := qA (q_4 11 (by decide +kernel)) rfl
theorem cd_X6_init : Cond.code yX6_init cX6_init 2 none ∈ ALL := qA (q_4 12 (by decide +kernel)) rfl
theorem ml_X6_1 : Cond.methodLink RX6 1 objectInit ∈ ALL := qA (q_4 13 (by decide +kernel)) rfl
theorem ml_X6_25 : Cond.methodLink RX6 25 yX6_putsZone ∈ ALL := qA (q_4 14 (by decide +kernel)) rfl
theorem im_X6_putsZone : Cond.instanceMethod yX6_putsZone ∈ ALL := qA (q_4 16 (by decide +kernel)) rfl
theorem cd_X6_putsZone : Cond.code yX6_putsZone cX6_putsZone 4 none ∈ ALL := qA (q_4 17 (by decide +kernel)) rfl
theorem ml_X6_29 : Cond.methodLink RX6 29 yX6_puts ∈ ALL := qA (q_4 18 (by decide +kernel)) rfl
theorem im_X6_puts : Cond.instanceMethod yX6_puts ∈ ALL := qA (q_4 20 (by decide +kernel)) rfl
theorem cd_X6_puts : Cond.code yX6_puts cX6_puts 4 none ∈ ALL := qA (q_4 21 (by decide +kernel)) rfl
theorem fl_X6_32 : Cond.fieldLink RX6 32 "RiddlePostModel" "thrown" "I" ∈ ALL := qA (q_4 22 (by decide +kernel)) rfl
theorem fl_X6_7 : Cond.fieldLink RX6 7 "RiddlePostModel" "state" "[I" ∈ ALL := qA (q_4 23 (by decide +kernel)) rfl
theorem fl_X6_13 : Cond.fieldLink RX6 13 "RiddlePostModel" "history" "[I" ∈ ALL := qA (q_4 24 (by decide +kernel)) rfl
theorem fl_X6_36 : Cond.fieldLink RX6 36 "RiddlePostModel" "recorded" "I" ∈ ALL := qA (q_4 25 (by decide +kernel)) rfl
theorem fl_X6_16 : Cond.fieldLink RX6 16 "RiddlePostModel" "kept" "[I" ∈ ALL := qA (q_4 26 (by decide +kernel)) rfl
theorem fl_X6_19 : Cond.fieldLink RX6 19 "RiddlePostModel" "text" "[I" ∈ ALL := qA (q_4 27 (by decide +kernel)) rfl
theorem fl_X6_134 : Cond.fieldLink RX6 134 "RiddlePostModel" "textLength" "I" ∈ ALL := qA (q_4 28 (by decide +kernel)) rfl
theorem fl_X6_22 : Cond.fieldLink RX6 22 "RiddlePostModel" "way" "[I" ∈ ALL := qA (q_4 29 (by decide +kernel)) rfl
theorem fl_X6_137 : Cond.fieldLink RX6 137 "RiddlePostModel" "at" "I" ∈ ALL := qA (q_4 30 (by decide +kernel)) rfl
theorem fl_X6_147 : Cond.fieldLink RX6 147 "RiddlePostModel" "kind" "I" ∈ ALL := qA (q_4 31 (by decide +kernel)) rfl
theorem fl_X6_144 : Cond.fieldLink RX6 144 "RiddlePostModel" "number" "I" ∈ ALL := qA (q_4 32 (by decide +kernel)) rfl
theorem ml_L_102 : Cond.methodLink RL 102 yX6_thrown ∈ ALL := qA (q_4 56 (by decide +kernel)) rfl
theorem im_X6_thrown : Cond.instanceMethod yX6_thrown ∈ ALL := qA (q_4 57 (by decide +kernel)) rfl
theorem sl_X6_thrown : Cond.selects RX6 yX6_thrown yX6_thrown ∈ ALL := qA (q_4 58 (by decide +kernel)) rfl
theorem cd_X6_thrown : Cond.code yX6_thrown cX6_thrown 1 (some .int) ∈ ALL := qA (q_4 59 (by decide +kernel)) rfl
theorem ml_L_101 : Cond.methodLink RL 101 yX6_setParent ∈ ALL := qA (q_4 60 (by decide +kernel)) rfl
theorem im_X6_setParent : Cond.instanceMethod yX6_setParent ∈ ALL := qA (q_4 61 (by decide +kernel)) rfl
theorem sl_X6_setParent : Cond.selects RX6 yX6_setParent yX6_setParent ∈ ALL := qA (q_4 62 (by decide +kernel)) rfl
theorem cd_X6_setParent : Cond.code yX6_setParent cX6_setParent 4 (some .int) ∈ ALL := qA (q_4 63 (by decide +kernel)) rfl
theorem ml_X6_43 : Cond.methodLink RX6 43 yX6_within ∈ ALL := qA (q_4 64 (by decide +kernel)) rfl
theorem st_X6_within : Cond.static yX6_within ∈ ALL := qA (q_4 65 (by decide +kernel)) rfl
theorem cd_X6_within : Cond.code yX6_within cX6_within 3 (some .boolean) ∈ ALL := qA (q_4 66 (by decide +kernel)) rfl
theorem ml_X6_47 : Cond.methodLink RX6 47 yX6_record ∈ ALL := qA (q_4 67 (by decide +kernel)) rfl
theorem im_X6_record : Cond.instanceMethod yX6_record ∈ ALL := qA (q_4 69 (by decide +kernel)) rfl
theorem cd_X6_record : Cond.code yX6_record cX6_record 2 none ∈ ALL := qA (q_4 70 (by decide +kernel)) rfl
theorem ml_X6_39 : Cond.methodLink RX6 39 yX6_lays ∈ ALL := qA (q_4 71 (by decide +kernel)) rfl
theorem st_X6_lays : Cond.static yX6_lays ∈ ALL := qA (q_4 72 (by decide +kernel)) rfl
theorem cd_X6_lays : Cond.code yX6_lays cX6_lays 5 none ∈ ALL := qA (q_4 73 (by decide +kernel)) rfl
theorem ml_X6_50 : Cond.methodLink RX6 50 yX6_ofZone ∈ ALL := qA (q_4 74 (by decide +kernel)) rfl
theorem im_X6_ofZone : Cond.instanceMethod yX6_ofZone ∈ ALL := qA (q_4 76 (by decide +kernel)) rfl
theorem cd_X6_ofZone : Cond.code yX6_ofZone cX6_ofZone 3 (some .int) ∈ ALL := qA (q_4 77 (by decide +kernel)) rfl
theorem ml_L_108 : Cond.methodLink RL 108 yX6_setAges ∈ ALL := qA (q_4 78 (by decide +kernel)) rfl
theorem im_X6_setAges : Cond.instanceMethod yX6_setAges ∈ ALL := qA (q_4 79 (by decide +kernel)) rfl
theorem sl_X6_setAges : Cond.selects RX6 yX6_setAges yX6_setAges ∈ ALL := qA (q_4 80 (by decide +kernel)) rfl
theorem cd_X6_setAges : Cond.code yX6_setAges cX6_setAges 5 (some .int) ∈ ALL := qA (q_4 81 (by decide +kernel)) rfl
theorem ml_X6_54 : Cond.methodLink RX6 54 yX6_isZone ∈ ALL := qA (q_4 82 (by decide +kernel)) rfl
theorem st_X6_isZone : Cond.static yX6_isZone ∈ ALL := qA (q_4 83 (by decide +kernel)) rfl
theorem cd_X6_isZone : Cond.code yX6_isZone cX6_isZone 1 (some .boolean) ∈ ALL := qA (q_4 84 (by decide +kernel)) rfl
theorem ml_X6_58 : Cond.methodLink RX6 58 yX6_isAge ∈ ALL := qA (q_4 85 (by decide +kernel)) rfl
theorem st_X6_isAge : Cond.static yX6_isAge ∈ ALL := qA (q_4 86 (by decide +kernel)) rfl
theorem cd_X6_isAge : Cond.code yX6_isAge cX6_isAge 1 (some .boolean) ∈ ALL := qA (q_4 87 (by decide +kernel)) rfl
theorem ml_L_111 : Cond.methodLink RL 111 yX6_setAnswer ∈ ALL := qA (q_4 88 (by decide +kernel)) rfl
theorem im_X6_setAnswer : Cond.instanceMethod yX6_setAnswer ∈ ALL := qA (q_4 89 (by decide +kernel)) rfl
theorem sl_X6_setAnswer : Cond.selects RX6 yX6_setAnswer yX6_setAnswer ∈ ALL := qA (q_4 90 (by decide +kernel)) rfl
theorem cd_X6_setAnswer : Cond.code yX6_setAnswer cX6_setAnswer 4 (some .int) ∈ ALL := qA (q_4 91 (by decide +kernel)) rfl
theorem ml_X6_64 : Cond.methodLink RX6 64 yX6_isRiddle ∈ ALL := qA (q_4 92 (by decide +kernel)) rfl
theorem st_X6_isRiddle : Cond.static yX6_isRiddle ∈ ALL := qA (q_4 93 (by decide +kernel)) rfl
theorem cd_X6_isRiddle : Cond.code yX6_isRiddle cX6_isRiddle 1 (some .boolean) ∈ ALL := qA (q_4 94 (by decide +kernel)) rfl
theorem ml_X6_67 : Cond.methodLink RX6 67 yX6_gives ∈ ALL := qA (q_4 95 (by decide +kernel)) rfl
theorem im_X6_gives : Cond.instanceMethod yX6_gives ∈ ALL := qA (q_4 97 (by decide +kernel)) rfl
theorem cd_X6_gives : Cond.code yX6_gives cX6_gives 6 (some .int) ∈ ALL := qA (q_4 98 (by decide +kernel)) rfl
theorem ml_X6_61 : Cond.methodLink RX6 61 yX6_of ∈ ALL := qA (q_4 99 (by decide +kernel)) rfl
theorem im_X6_of : Cond.instanceMethod yX6_of ∈ ALL := qA (q_4 101 (by decide +kernel)) rfl
theorem cd_X6_of : Cond.code yX6_of cX6_of 3 (some .int) ∈ ALL := qA (q_4 102 (by decide +kernel)) rfl
theorem ml_L_114 : Cond.methodLink RL 114 yX6_setReference ∈ ALL := qA (q_4 103 (by decide +kernel)) rfl
theorem im_X6_setReference : Cond.instanceMethod yX6_setReference ∈ ALL := qA (q_4 104 (by decide +kernel)) rfl
theorem sl_X6_setReference : Cond.selects RX6 yX6_setReference yX6_setReference ∈ ALL := qA (q_4 105 (by decide +kernel)) rfl
theorem cd_X6_setReference : Cond.code yX6_setReference cX6_setReference 4 (some .int) ∈ ALL := qA (q_4 106 (by decide +kernel)) rfl
theorem ml_L_118 : Cond.methodLink RL 118 yX6_takeAway ∈ ALL := qA (q_4 107 (by decide +kernel)) rfl
theorem im_X6_takeAway : Cond.instanceMethod yX6_takeAway ∈ ALL := qA (q_4 108 (by decide +kernel)) rfl
theorem sl_X6_takeAway : Cond.selects RX6 yX6_takeAway yX6_takeAway ∈ ALL := qA (q_4 109 (by decide +kernel)) rfl
theorem cd_X6_takeAway : Cond.code yX6_takeAway cX6_takeAway 2 (some .int) ∈ ALL := qA (q_4 110 (by decide +kernel)) rfl
theorem ml_L_121 : Cond.methodLink RL 121 yX6_solve ∈ ALL := qA (q_4 111 (by decide +kernel)) rfl
theorem im_X6_solve : Cond.instanceMethod yX6_solve ∈ ALL := qA (q_4 112 (by decide +kernel)) rfl
theorem sl_X6_solve : Cond.selects RX6 yX6_solve yX6_solve ∈ ALL := qA (q_4 113 (by decide +kernel)) rfl
theorem cd_X6_solve : Cond.code yX6_solve cX6_solve 2 (some .int) ∈ ALL := qA (q_4 114 (by decide +kernel)) rfl
theorem ml_X6_85 : Cond.methodLink RX6 85 yX6_solvesFirst ∈ ALL := qA (q_4 115 (by decide +kernel)) rfl
theorem im_X6_solvesFirst : Cond.instanceMethod yX6_solvesFirst ∈ ALL := qA (q_4 117 (by decide +kernel)) rfl
theorem cd_X6_solvesFirst : Cond.code yX6_solvesFirst cX6_solvesFirst 2 (some .int) ∈ ALL := qA (q_4 118 (by decide +kernel)) rfl
theorem ml_X6_81 : Cond.methodLink RX6 81 yX6_solves ∈ ALL := qA (q_4 119 (by decide +kernel)) rfl
theorem im_X6_solves : Cond.instanceMethod yX6_solves ∈ ALL := qA (q_4 121 (by decide +kernel)) rfl
theorem cd_X6_solves : Cond.code yX6_solves cX6_solves 4 (some .int) ∈ ALL := qA (q_4 122 (by decide +kernel)) rfl
theorem ml_X6_78 : Cond.methodLink RX6 78 yX6_asks ∈ ALL := qA (q_4 123 (by decide +kernel)) rfl
theorem im_X6_asks : Cond.instanceMethod yX6_asks ∈ ALL := qA (q_4 125 (by decide +kernel)) rfl
theorem cd_X6_asks : Cond.code yX6_asks cX6_asks 4 none ∈ ALL := qA (q_4 126 (by decide +kernel)) rfl
theorem ml_X6_75 : Cond.methodLink RX6 75 yX6_comesTo ∈ ALL := qA (q_4 127 (by decide +kernel)) rfl
theorem im_X6_comesTo : Cond.instanceMethod yX6_comesTo ∈ ALL := qA (q_4 129 (by decide +kernel)) rfl
theorem cd_X6_comesTo : Cond.code yX6_comesTo cX6_comesTo 5 none ∈ ALL := qA (q_4 130 (by decide +kernel)) rfl
theorem ml_X6_71 : Cond.methodLink RX6 71 yX6_costs ∈ ALL := qA (q_4 131 (by decide +kernel)) rfl
theorem im_X6_costs : Cond.instanceMethod yX6_costs ∈ ALL := qA (q_4 133 (by decide +kernel)) rfl
theorem cd_X6_costs : Cond.code yX6_costs cX6_costs 2 none ∈ ALL := qA (q_4 134 (by decide +kernel)) rfl
theorem ml_L_124 : Cond.methodLink RL 124 yX6_forget ∈ ALL := qA (q_4 135 (by decide +kernel)) rfl
theorem im_X6_forget : Cond.instanceMethod yX6_forget ∈ ALL := qA (q_4 136 (by decide +kernel)) rfl
theorem sl_X6_forget : Cond.selects RX6 yX6_forget yX6_forget ∈ ALL := qA (q_4 137 (by decide +kernel)) rfl
theorem cd_X6_forget : Cond.code yX6_forget cX6_forget 3 (some .int) ∈ ALL := qA (q_4 138 (by decide +kernel)) rfl
theorem ml_X6_88 : Cond.methodLink RX6 88 yX6_forgets ∈ ALL := qA (q_4 139 (by decide +kernel)) rfl
theorem im_X6_forgets : Cond.instanceMethod yX6_forgets ∈ ALL := qA (q_4 141 (by decide +kernel)) rfl
theorem cd_X6_forgets : Cond.code yX6_forgets cX6_forgets 2 none ∈ ALL := qA (q_4 142 (by decide +kernel)) rfl
theorem ml_L_127 : Cond.methodLink RL 127 yX6_pass ∈ ALL := qA (q_4 143 (by decide +kernel)) rfl
theorem im_X6_pass : Cond.instanceMethod yX6_pass ∈ ALL := qA (q_4 144 (by decide +kernel)) rfl
theorem sl_X6_pass : Cond.selects RX6 yX6_pass yX6_pass ∈ ALL := qA (q_4 145 (by decide +kernel)) rfl
theorem cd_X6_pass : Cond.code yX6_pass cX6_pass 2 (some .int) ∈ ALL := qA (q_4 146 (by decide +kernel)) rfl
theorem ml_X6_91 : Cond.methodLink RX6 91 yX6_passes ∈ ALL := qA (q_4 147 (by decide +kernel)) rfl
theorem im_X6_passes : Cond.instanceMethod yX6_passes ∈ ALL := qA (q_4 149 (by decide +kernel)) rfl
theorem cd_X6_passes : Cond.code yX6_passes cX6_passes 4 (some .int) ∈ ALL := qA (q_4 150 (by decide +kernel)) rfl
theorem ml_L_131 : Cond.methodLink RL 131 yX6_time ∈ ALL := qA (q_4 151 (by decide +kernel)) rfl
theorem im_X6_time : Cond.instanceMethod yX6_time ∈ ALL := qA (q_4 152 (by decide +kernel)) rfl
theorem sl_X6_time : Cond.selects RX6 yX6_time yX6_time ∈ ALL := qA (q_4 153 (by decide +kernel)) rfl
theorem cd_X6_time : Cond.code yX6_time cX6_time 1 (some .int) ∈ ALL := qA (q_4 154 (by decide +kernel)) rfl
theorem ml_X6_94 : Cond.methodLink RX6 94 yX6_tells ∈ ALL := qA (q_4 155 (by decide +kernel)) rfl
theorem im_X6_tells : Cond.instanceMethod yX6_tells ∈ ALL := qA (q_4 157 (by decide +kernel)) rfl
theorem cd_X6_tells : Cond.code yX6_tells cX6_tells 2 (some .int) ∈ ALL := qA (q_4 158 (by decide +kernel)) rfl
theorem ml_L_134 : Cond.methodLink RL 134 yX6_parentOf ∈ ALL := qA (q_4 159 (by decide +kernel)) rfl
theorem im_X6_parentOf : Cond.instanceMethod yX6_parentOf ∈ ALL := qA (q_4 160 (by decide +kernel)) rfl
theorem sl_X6_parentOf : Cond.selects RX6 yX6_parentOf yX6_parentOf ∈ ALL := qA (q_4 161 (by decide +kernel)) rfl
theorem cd_X6_parentOf : Cond.code yX6_parentOf cX6_parentOf 2 (some .int) ∈ ALL := qA (q_4 162 (by decide +kernel)) rfl
theorem ml_X6_97 : Cond.methodLink RX6 97 yX6_tellsZone ∈ ALL := qA (q_4 163 (by decide +kernel)) rfl
theorem im_X6_tellsZone : Cond.instanceMethod yX6_tellsZone ∈ ALL := qA (q_4 165 (by decide +kernel)) rfl
theorem cd_X6_tellsZone : Cond.code yX6_tellsZone cX6_tellsZone 3 (some .int) ∈ ALL := qA (q_4 166 (by decide +kernel)) rfl
theorem ml_L_137 : Cond.methodLink RL 137 yX6_depthOf ∈ ALL := qA (q_4 167 (by decide +kernel)) rfl
theorem im_X6_depthOf : Cond.instanceMethod yX6_depthOf ∈ ALL := qA (q_4 168 (by decide +kernel)) rfl
theorem sl_X6_depthOf : Cond.selects RX6 yX6_depthOf yX6_depthOf ∈ ALL := qA (q_4 169 (by decide +kernel)) rfl
theorem cd_X6_depthOf : Cond.code yX6_depthOf cX6_depthOf 2 (some .int) ∈ ALL := qA (q_4 170 (by decide +kernel)) rfl
theorem ml_X6_100 : Cond.methodLink RX6 100 yX6_depth ∈ ALL := qA (q_4 171 (by decide +kernel)) rfl
theorem im_X6_depth : Cond.instanceMethod yX6_depth ∈ ALL := qA (q_4 173 (by decide +kernel)) rfl
theorem cd_X6_depth : Cond.code yX6_depth cX6_depth 4 (some .int) ∈ ALL := qA (q_4 174 (by decide +kernel)) rfl
theorem ml_L_140 : Cond.methodLink RL 140 yX6_kindOf ∈ ALL := qA (q_4 175 (by decide +kernel)) rfl
theorem im_X6_kindOf : Cond.instanceMethod yX6_kindOf ∈ ALL := qA (q_4 176 (by decide +kernel)) rfl
theorem sl_X6_kindOf : Cond.selects RX6 yX6_kindOf yX6_kindOf ∈ ALL := qA (q_4 177 (by decide +kernel)) rfl
theorem cd_X6_kindOf : Cond.code yX6_kindOf cX6_kindOf 2 (some .int) ∈ ALL := qA (q_4 178 (by decide +kernel)) rfl
theorem ml_X6_103 : Cond.methodLink RX6 103 yX6_tellsRiddle ∈ ALL := qA (q_4 179 (by decide +kernel)) rfl
theorem im_X6_tellsRiddle : Cond.instanceMethod yX6_tellsRiddle ∈ ALL := qA (q_4 181 (by decide +kernel)) rfl
theorem cd_X6_tellsRiddle : Cond.code yX6_tellsRiddle cX6_tellsRiddle 3 (some .int) ∈ ALL := qA (q_4 182 (by decide +kernel)) rfl
theorem ml_L_143 : Cond.methodLink RL 143 yX6_valueOf ∈ ALL := qA (q_4 183 (by decide +kernel)) rfl
theorem im_X6_valueOf : Cond.instanceMethod yX6_valueOf ∈ ALL := qA (q_4 184 (by decide +kernel)) rfl
theorem sl_X6_valueOf : Cond.selects RX6 yX6_valueOf yX6_valueOf ∈ ALL := qA (q_4 185 (by decide +kernel)) rfl
theorem cd_X6_valueOf : Cond.code yX6_valueOf cX6_valueOf 2 (some .int) ∈ ALL := qA (q_4 186 (by decide +kernel)) rfl
theorem ml_L_146 : Cond.methodLink RL 146 yX6_truthOf ∈ ALL := qA (q_4 187 (by decide +kernel)) rfl
theorem im_X6_truthOf : Cond.instanceMethod yX6_truthOf ∈ ALL := qA (q_4 188 (by decide +kernel)) rfl
theorem sl_X6_truthOf : Cond.selects RX6 yX6_truthOf yX6_truthOf ∈ ALL := qA (q_4 189 (by decide +kernel)) rfl
theorem cd_X6_truthOf : Cond.code yX6_truthOf cX6_truthOf 2 (some .int) ∈ ALL := qA (q_4 190 (by decide +kernel)) rfl
theorem ml_X6_106 : Cond.methodLink RX6 106 yX6_truth ∈ ALL := qA (q_4 191 (by decide +kernel)) rfl
theorem im_X6_truth : Cond.instanceMethod yX6_truth ∈ ALL := qA (q_4 193 (by decide +kernel)) rfl
theorem cd_X6_truth : Cond.code yX6_truth cX6_truth 4 (some .int) ∈ ALL := qA (q_4 194 (by decide +kernel)) rfl
theorem ml_L_149 : Cond.methodLink RL 149 yX6_rememberedOf ∈ ALL := qA (q_4 195 (by decide +kernel)) rfl
theorem im_X6_rememberedOf : Cond.instanceMethod yX6_rememberedOf ∈ ALL := qA (q_4 196 (by decide +kernel)) rfl
theorem sl_X6_rememberedOf : Cond.selects RX6 yX6_rememberedOf yX6_rememberedOf ∈ ALL := qA (q_4 197 (by decide +kernel)) rfl
theorem cd_X6_rememberedOf : Cond.code yX6_rememberedOf cX6_rememberedOf 2 (some .int) ∈ ALL := qA (q_4 198 (by decide +kernel)) rfl
theorem ml_L_152 : Cond.methodLink RL 152 yX6_ticksLeftOf ∈ ALL := qA (q_4 199 (by decide +kernel)) rfl
theorem im_X6_ticksLeftOf : Cond.instanceMethod yX6_ticksLeftOf ∈ ALL := qA (q_4 200 (by decide +kernel)) rfl
theorem sl_X6_ticksLeftOf : Cond.selects RX6 yX6_ticksLeftOf yX6_ticksLeftOf ∈ ALL := qA (q_4 201 (by decide +kernel)) rfl
theorem cd_X6_ticksLeftOf : Cond.code yX6_ticksLeftOf cX6_ticksLeftOf 2 (some .int) ∈ ALL := qA (q_4 202 (by decide +kernel)) rfl
theorem ml_X6_109 : Cond.methodLink RX6 109 yX6_leftUntil ∈ ALL := qA (q_4 203 (by decide +kernel)) rfl
theorem im_X6_leftUntil : Cond.instanceMethod yX6_leftUntil ∈ ALL := qA (q_4 205 (by decide +kernel)) rfl
theorem cd_X6_leftUntil : Cond.code yX6_leftUntil cX6_leftUntil 2 (some .int) ∈ ALL := qA (q_4 206 (by decide +kernel)) rfl
theorem ml_L_155 : Cond.methodLink RL 155 yX6_referralLeft ∈ ALL := qA (q_4 207 (by decide +kernel)) rfl
theorem im_X6_referralLeft : Cond.instanceMethod yX6_referralLeft ∈ ALL := qA (q_4 208 (by decide +kernel)) rfl
theorem sl_X6_referralLeft : Cond.selects RX6 yX6_referralLeft yX6_referralLeft ∈ ALL := qA (q_4 209 (by decide +kernel)) rfl
theorem cd_X6_referralLeft : Cond.code yX6_referralLeft cX6_referralLeft 2 (some .int) ∈ ALL := qA (q_4 210 (by decide +kernel)) rfl
theorem ml_L_159 : Cond.methodLink RL 159 yX6_remembered ∈ ALL := qA (q_4 211 (by decide +kernel)) rfl
theorem im_X6_remembered : Cond.instanceMethod yX6_remembered ∈ ALL := qA (q_4 212 (by decide +kernel)) rfl
theorem sl_X6_remembered : Cond.selects RX6 yX6_remembered yX6_remembered ∈ ALL := qA (q_4 213 (by decide +kernel)) rfl
theorem cd_X6_remembered : Cond.code yX6_remembered cX6_remembered 1 (some .int) ∈ ALL := qA (q_4 214 (by decide +kernel)) rfl
theorem ml_X6_112 : Cond.methodLink RX6 112 yX6_memories ∈ ALL := qA (q_4 215 (by decide +kernel)) rfl
theorem im_X6_memories : Cond.instanceMethod yX6_memories ∈ ALL := qA (q_4 217 (by decide +kernel)) rfl
theorem cd_X6_memories : Cond.code yX6_memories cX6_memories 3 (some .int) ∈ ALL := qA (q_4 218 (by decide +kernel)) rfl
theorem ml_L_163 : Cond.methodLink RL 163 yX6_rememberedByAccount ∈ ALL := qA (q_4 219 (by decide +kernel)) rfl
theorem im_X6_rememberedByAccount : Cond.instanceMethod yX6_rememberedByAccount ∈ ALL := qA (q_4 220 (by decide +kernel)) rfl
theorem sl_X6_rememberedByAccount : Cond.selects RX6 yX6_rememberedByAccount yX6_rememberedByAccount ∈ ALL := qA (q_4 221 (by decide +kernel)) rfl
theorem cd_X6_rememberedByAccount : Cond.code yX6_rememberedByAccount cX6_rememberedByAccount 1 (some .int) ∈ ALL := qA (q_4 222 (by decide +kernel)) rfl
theorem ml_L_167 : Cond.methodLink RL 167 yX6_ticksUntilForgetting ∈ ALL := qA (q_4 223 (by decide +kernel)) rfl
theorem im_X6_ticksUntilForgetting : Cond.instanceMethod yX6_ticksUntilForgetting ∈ ALL := qA (q_4 224 (by decide +kernel)) rfl
theorem sl_X6_ticksUntilForgetting : Cond.selects RX6 yX6_ticksUntilForgetting yX6_ticksUntilForgetting ∈ ALL := qA (q_4 225 (by decide +kernel)) rfl
theorem cd_X6_ticksUntilForgetting : Cond.code yX6_ticksUntilForgetting cX6_ticksUntilForgetting 1 (some .int) ∈ ALL := qA (q_4 226 (by decide +kernel)) rfl
theorem ml_X6_119 : Cond.methodLink RX6 119 yX6_untilForgetting ∈ ALL := qA (q_4 227 (by decide +kernel)) rfl
theorem im_X6_untilForgetting : Cond.instanceMethod yX6_untilForgetting ∈ ALL := qA (q_4 229 (by decide +kernel)) rfl
theorem cd_X6_untilForgetting : Cond.code yX6_untilForgetting cX6_untilForgetting 3 (some .int) ∈ ALL := qA (q_4 230 (by decide +kernel)) rfl
theorem ml_X6_116 : Cond.methodLink RX6 116 yX6_sooner ∈ ALL := qA (q_4 231 (by decide +kernel)) rfl
theorem st_X6_sooner : Cond.static yX6_sooner ∈ ALL := qA (q_4 232 (by decide +kernel)) rfl
theorem cd_X6_sooner : Cond.code yX6_sooner cX6_sooner 2 (some .int) ∈ ALL := qA (q_4 233 (by decide +kernel)) rfl
theorem ml_L_170 : Cond.methodLink RL 170 yX6_isOutOfDate ∈ ALL := qA (q_4 234 (by decide +kernel)) rfl
theorem im_X6_isOutOfDate : Cond.instanceMethod yX6_isOutOfDate ∈ ALL := qA (q_4 235 (by decide +kernel)) rfl
theorem sl_X6_isOutOfDate : Cond.selects RX6 yX6_isOutOfDate yX6_isOutOfDate ∈ ALL := qA (q_4 236 (by decide +kernel)) rfl
theorem cd_X6_isOutOfDate : Cond.code yX6_isOutOfDate cX6_isOutOfDate 2 (some .boolean) ∈ ALL := qA (q_4 237 (by decide +kernel)) rfl
theorem ml_X6_122 : Cond.methodLink RX6 122 yX6_isOld ∈ ALL := qA (q_4 238 (by decide +kernel)) rfl
theorem im_X6_isOld : Cond.instanceMethod yX6_isOld ∈ ALL := qA (q_5 0 (by decide +kernel)) rfl
theorem cd_X6_isOld : Cond.code yX6_isOld cX6_isOld 4 (some .boolean) ∈ ALL := qA (q_5 1 (by decide +kernel)) rfl
theorem ml_L_174 : Cond.methodLink RL 174 yX6_solved ∈ ALL := qA (q_5 2 (by decide +kernel)) rfl
theorem im_X6_solved : Cond.instanceMethod yX6_solved ∈ ALL := qA (q_5 3 (by decide +kernel)) rfl
theorem sl_X6_solved : Cond.selects RX6 yX6_solved yX6_solved ∈ ALL := qA (q_5 4 (by decide +kernel)) rfl
theorem cd_X6_solved : Cond.code yX6_solved cX6_solved 1 (some .int) ∈ ALL := qA (q_5 5 (by decide +kernel)) rfl
theorem ml_L_178 : Cond.methodLink RL 178 yX6_questions ∈ ALL := qA (q_5 6 (by decide +kernel)) rfl
theorem im_X6_questions : Cond.instanceMethod yX6_questions ∈ ALL := qA (q_5 7 (by decide +kernel)) rfl
theorem sl_X6_questions : Cond.selects RX6 yX6_questions yX6_questions ∈ ALL := qA (q_5 8 (by decide +kernel)) rfl
theorem cd_X6_questions : Cond.code yX6_questions cX6_questions 1 (some .int) ∈ ALL := qA (q_5 9 (by decide +kernel)) rfl
theorem ml_L_182 : Cond.methodLink RL 182 yX6_hits ∈ ALL := qA (q_5 10 (by decide +kernel)) rfl
theorem im_X6_hits : Cond.instanceMethod yX6_hits ∈ ALL := qA (q_5 11 (by decide +kernel)) rfl
theorem sl_X6_hits : Cond.selects RX6 yX6_hits yX6_hits ∈ ALL := qA (q_5 12 (by decide +kernel)) rfl
theorem cd_X6_hits : Cond.code yX6_hits cX6_hits 1 (some .int) ∈ ALL := qA (q_5 13 (by decide +kernel)) rfl
theorem ml_L_185 : Cond.methodLink RL 185 yX6_questionsTo ∈ ALL := qA (q_5 14 (by decide +kernel)) rfl
theorem im_X6_questionsTo : Cond.instanceMethod yX6_questionsTo ∈ ALL := qA (q_5 15 (by decide +kernel)) rfl
theorem sl_X6_questionsTo : Cond.selects RX6 yX6_questionsTo yX6_questionsTo ∈ ALL := qA (q_5 16 (by decide +kernel)) rfl
theorem cd_X6_questionsTo : Cond.code yX6_questionsTo cX6_questionsTo 2 (some .int) ∈ ALL := qA (q_5 17 (by decide +kernel)) rfl
theorem ml_L_190 : Cond.methodLink RL 190 yX6_meanQuestions ∈ ALL := qA (q_5 18 (by decide +kernel)) rfl
theorem im_X6_meanQuestions : Cond.instanceMethod yX6_meanQuestions ∈ ALL := qA (q_5 19 (by decide +kernel)) rfl
theorem sl_X6_meanQuestions : Cond.selects RX6 yX6_meanQuestions yX6_meanQuestions ∈ ALL := qA (q_5 20 (by decide +kernel)) rfl
theorem cd_X6_meanQuestions : Cond.code yX6_meanQuestions cX6_meanQuestions 1 (some .double) ∈ ALL := qA (q_5 21 (by decide +kernel)) rfl
theorem ml_L_193 : Cond.methodLink RL 193 yX6_wouldSolve ∈ ALL := qA (q_5 22 (by decide +kernel)) rfl
theorem im_X6_wouldSolve : Cond.instanceMethod yX6_wouldSolve ∈ ALL := qA (q_5 23 (by decide +kernel)) rfl
theorem sl_X6_wouldSolve : Cond.selects RX6 yX6_wouldSolve yX6_wouldSolve ∈ ALL := qA (q_5 24 (by decide +kernel)) rfl
theorem cd_X6_wouldSolve : Cond.code yX6_wouldSolve cX6_wouldSolve 2 (some .int) ∈ ALL := qA (q_5 25 (by decide +kernel)) rfl
theorem ml_X6_125 : Cond.methodLink RX6 125 yX6_would ∈ ALL := qA (q_5 26 (by decide +kernel)) rfl
theorem im_X6_would : Cond.instanceMethod yX6_would ∈ ALL := qA (q_5 28 (by decide +kernel)) rfl
theorem cd_X6_would : Cond.code yX6_would cX6_would 3 (some .int) ∈ ALL := qA (q_5 29 (by decide +kernel)) rfl
theorem ml_L_196 : Cond.methodLink RL 196 yX6_costOf ∈ ALL := qA (q_5 30 (by decide +kernel)) rfl
theorem im_X6_costOf : Cond.instanceMethod yX6_costOf ∈ ALL := qA (q_5 31 (by decide +kernel)) rfl
theorem sl_X6_costOf : Cond.selects RX6 yX6_costOf yX6_costOf ∈ ALL := qA (q_5 32 (by decide +kernel)) rfl
theorem cd_X6_costOf : Cond.code yX6_costOf cX6_costOf 2 (some .int) ∈ ALL := qA (q_5 33 (by decide +kernel)) rfl
theorem ml_X6_128 : Cond.methodLink RX6 128 yX6_cost ∈ ALL := qA (q_5 34 (by decide +kernel)) rfl
theorem im_X6_cost : Cond.instanceMethod yX6_cost ∈ ALL := qA (q_5 36 (by decide +kernel)) rfl
theorem cd_X6_cost : Cond.code yX6_cost cX6_cost 3 (some .int) ∈ ALL := qA (q_5 37 (by decide +kernel)) rfl
theorem ml_L_199 : Cond.methodLink RL 199 yX6_ticksUntilTruth ∈ ALL := qA (q_5 38 (by decide +kernel)) rfl
theorem im_X6_ticksUntilTruth : Cond.instanceMethod yX6_ticksUntilTruth ∈ ALL := qA (q_5 39 (by decide +kernel)) rfl
theorem sl_X6_ticksUntilTruth : Cond.selects RX6 yX6_ticksUntilTruth yX6_ticksUntilTruth ∈ ALL := qA (q_5 40 (by decide +kernel)) rfl
theorem cd_X6_ticksUntilTruth : Cond.code yX6_ticksUntilTruth cX6_ticksUntilTruth 4 (some .int) ∈ ALL := qA (q_5 41 (by decide +kernel)) rfl
theorem ml_X6_131 : Cond.methodLink RX6 131 yX6_wouldIn ∈ ALL := qA (q_5 42 (by decide +kernel)) rfl
theorem im_X6_wouldIn : Cond.instanceMethod yX6_wouldIn ∈ ALL := qA (q_5 44 (by decide +kernel)) rfl
theorem cd_X6_wouldIn : Cond.code yX6_wouldIn cX6_wouldIn 4 (some .int) ∈ ALL := qA (q_5 45 (by decide +kernel)) rfl
theorem ml_L_202 : Cond.methodLink RL 202 yX6_append ∈ ALL := qA (q_5 46 (by decide +kernel)) rfl
theorem im_X6_append : Cond.instanceMethod yX6_append ∈ ALL := qA (q_5 47 (by decide +kernel)) rfl
theorem sl_X6_append : Cond.selects RX6 yX6_append yX6_append ∈ ALL := qA (q_5 48 (by decide +kernel)) rfl
theorem cd_X6_append : Cond.code yX6_append cX6_append 2 (some .int) ∈ ALL := qA (q_5 49 (by decide +kernel)) rfl
theorem ml_L_206 : Cond.methodLink RL 206 yX6_clearText ∈ ALL := qA (q_5 50 (by decide +kernel)) rfl
theorem im_X6_clearText : Cond.instanceMethod yX6_clearText ∈ ALL := qA (q_5 51 (by decide +kernel)) rfl
theorem sl_X6_clearText : Cond.selects RX6 yX6_clearText yX6_clearText ∈ ALL := qA (q_5 52 (by decide +kernel)) rfl
theorem cd_X6_clearText : Cond.code yX6_clearText cX6_clearText 2 (some .int) ∈ ALL := qA (q_5 53 (by decide +kernel)) rfl
theorem ml_L_210 : Cond.methodLink RL 210 yX6_firstError ∈ ALL := qA (q_5 54 (by decide +kernel)) rfl
theorem im_X6_firstError : Cond.instanceMethod yX6_firstError ∈ ALL := qA (q_5 55 (by decide +kernel)) rfl
theorem sl_X6_firstError : Cond.selects RX6 yX6_firstError yX6_firstError ∈ ALL := qA (q_5 56 (by decide +kernel)) rfl
theorem cd_X6_firstError : Cond.code yX6_firstError cX6_firstError 1 (some .int) ∈ ALL := qA (q_5 57 (by decide +kernel)) rfl
theorem ml_X6_157 : Cond.methodLink RX6 157 yX6_findError ∈ ALL := qA (q_5 58 (by decide +kernel)) rfl
theorem im_X6_findError : Cond.instanceMethod yX6_findError ∈ ALL := qA (q_5 60 (by decide +kernel)) rfl
theorem cd_X6_findError : Cond.code yX6_findError cX6_findError 1 (some .int) ∈ ALL := qA (q_5 61 (by decide +kernel)) rfl
theorem ml_X6_153 : Cond.methodLink RX6 153 yX6_readsAct ∈ ALL := qA (q_5 62 (by decide +kernel)) rfl
theorem im_X6_readsAct : Cond.instanceMethod yX6_readsAct ∈ ALL := qA (q_5 64 (by decide +kernel)) rfl
theorem cd_X6_readsAct : Cond.code yX6_readsAct cX6_readsAct 1 (some .boolean) ∈ ALL := qA (q_5 65 (by decide +kernel)) rfl
theorem ml_X6_140 : Cond.methodLink RX6 140 yX6_accepts ∈ ALL := qA (q_5 66 (by decide +kernel)) rfl
theorem im_X6_accepts : Cond.instanceMethod yX6_accepts ∈ ALL := qA (q_5 68 (by decide +kernel)) rfl
theorem cd_X6_accepts : Cond.code yX6_accepts cX6_accepts 4 (some .boolean) ∈ ALL := qA (q_5 69 (by decide +kernel)) rfl
theorem ml_X6_150 : Cond.methodLink RX6 150 yX6_readsNumber ∈ ALL := qA (q_5 70 (by decide +kernel)) rfl
theorem im_X6_readsNumber : Cond.instanceMethod yX6_readsNumber ∈ ALL := qA (q_5 72 (by decide +kernel)) rfl
theorem cd_X6_readsNumber : Cond.code yX6_readsNumber cX6_readsNumber 3 (some .boolean) ∈ ALL := qA (q_5 73 (by decide +kernel)) rfl
theorem ml_L_214 : Cond.methodLink RL 214 yX6_runActs ∈ ALL := qA (q_5 74 (by decide +kernel)) rfl
theorem im_X6_runActs : Cond.instanceMethod yX6_runActs ∈ ALL := qA (q_5 75 (by decide +kernel)) rfl
theorem sl_X6_runActs : Cond.selects RX6 yX6_runActs yX6_runActs ∈ ALL := qA (q_5 76 (by decide +kernel)) rfl
theorem cd_X6_runActs : Cond.code yX6_runActs cX6_runActs 3 (some .int) ∈ ALL := qA (q_5 77 (by decide +kernel)) rfl
theorem ml_X6_160 : Cond.methodLink RX6 160 yX6_happens ∈ ALL := qA (q_5 78 (by decide +kernel)) rfl
theorem im_X6_happens : Cond.instanceMethod yX6_happens ∈ ALL := qA (q_5 80 (by decide +kernel)) rfl
theorem cd_X6_happens : Cond.code yX6_happens cX6_happens 2 (some .boolean) ∈ ALL := qA (q_5 81 (by decide +kernel)) rfl
theorem ml_L_217 : Cond.methodLink RL 217 yX6_undo ∈ ALL := qA (q_5 82 (by decide +kernel)) rfl
theorem im_X6_undo : Cond.instanceMethod yX6_undo ∈ ALL := qA (q_5 83 (by decide +kernel)) rfl
theorem sl_X6_undo : Cond.selects RX6 yX6_undo yX6_undo ∈ ALL := qA (q_5 84 (by decide +kernel)) rfl
theorem cd_X6_undo : Cond.code yX6_undo cX6_undo 1 (some .int) ∈ ALL := qA (q_5 85 (by decide +kernel)) rfl
theorem ml_L_222 : Cond.methodLink RL 222 yX6_digest ∈ ALL := qA (q_5 86 (by decide +kernel)) rfl
theorem im_X6_digest : Cond.instanceMethod yX6_digest ∈ ALL := qA (q_5 87 (by decide +kernel)) rfl
theorem sl_X6_digest : Cond.selects RX6 yX6_digest yX6_digest ∈ ALL := qA (q_5 88 (by decide +kernel)) rfl
theorem cd_X6_digest : Cond.code yX6_digest cX6_digest 4 (some .long) ∈ ALL := qA (q_5 89 (by decide +kernel)) rfl
theorem kl_X6_163 : Cond.constantLong RX6 163 (725) ∈ ALL := qA (q_5 90 (by decide +kernel)) rfl
theorem kl_X6_165 : Cond.constantLong RX6 165 (31) ∈ ALL := qA (q_5 91 (by decide +kernel)) rfl
theorem ac_long : Cond.arrayClass .long ∈ ALL := qA (q_5 92 (by decide +kernel)) rfl
theorem sl_X1_addAct : Cond.selects RX1 yX1_addAct yX1_addAct ∈ ALL := qP (y := yX1_addAct) (n := 5) (List.mem_of_getElem? (i := 0) (by decide +kernel)) rfl
theorem sl_X5_mixZone : Cond.selects RX5 yX5_mixZone yX5_mixZone ∈ ALL := qP (y := yX5_mixZone) (n := 4) (List.mem_of_getElem? (i := 1) (by decide +kernel)) rfl
theorem sl_X5_mixRiddle : Cond.selects RX5 yX5_mixRiddle yX5_mixRiddle ∈ ALL := qP (y := yX5_mixRiddle) (n := 4) (List.mem_of_getElem? (i := 3) (by decide +kernel)) rfl
theorem sl_X3_lackingReferrals : Cond.selects RX3 yX3_lackingReferrals yX3_lackingReferrals ∈ ALL := qP (y := yX3_lackingReferrals) (n := 6) (List.mem_of_getElem? (i := 4) (by decide +kernel)) rfl
theorem sl_X3_lacksReferral : Cond.selects RX3 yX3_lacksReferral yX3_lacksReferral ∈ ALL := qP (y := yX3_lacksReferral) (n := 6) (List.mem_of_getElem? (i := 5) (by decide +kernel)) rfl
theorem sl_X5_save : Cond.selects RX5 yX5_save yX5_save ∈ ALL := qP (y := yX5_save) (n := 4) (List.mem_of_getElem? (i := 6) (by decide +kernel)) rfl
theorem sl_X5_moveOldestToEnd : Cond.selects RX5 yX5_moveOldestToEnd yX5_moveOldestToEnd ∈ ALL := qP (y := yX5_moveOldestToEnd) (n := 4) (List.mem_of_getElem? (i := 7) (by decide +kernel)) rfl
theorem sl_X5_savedAt : Cond.selects RX5 yX5_savedAt yX5_savedAt ∈ ALL := qP (y := yX5_savedAt) (n := 4) (List.mem_of_getElem? (i := 8) (by decide +kernel)) rfl
theorem sl_X5_replaceTruth : Cond.selects RX5 yX5_replaceTruth yX5_replaceTruth ∈ ALL := qP (y := yX5_replaceTruth) (n := 4) (List.mem_of_getElem? (i := 9) (by decide +kernel)) rfl
theorem sl_X3_takeReply : Cond.selects RX3 yX3_takeReply yX3_takeReply ∈ ALL := qP (y := yX3_takeReply) (n := 6) (List.mem_of_getElem? (i := 10) (by decide +kernel)) rfl
theorem sl_X3_askTheWay : Cond.selects RX3 yX3_askTheWay yX3_askTheWay ∈ ALL := qP (y := yX3_askTheWay) (n := 6) (List.mem_of_getElem? (i := 11) (by decide +kernel)) rfl
theorem sl_X3_askRiddle : Cond.selects RX3 yX3_askRiddle yX3_askRiddle ∈ ALL := qP (y := yX3_askRiddle) (n := 6) (List.mem_of_getElem? (i := 12) (by decide +kernel)) rfl
theorem sl_X3_isOver : Cond.selects RX3 yX3_isOver yX3_isOver ∈ ALL := qP (y := yX3_isOver) (n := 6) (List.mem_of_getElem? (i := 13) (by decide +kernel)) rfl
theorem sl_X3_dropReferral : Cond.selects RX3 yX3_dropReferral yX3_dropReferral ∈ ALL := qP (y := yX3_dropReferral) (n := 6) (List.mem_of_getElem? (i := 14) (by decide +kernel)) rfl
theorem sl_X5_letHappen : Cond.selects RX5 yX5_letHappen yX5_letHappen ∈ ALL := qP (y := yX5_letHappen) (n := 4) (List.mem_of_getElem? (i := 15) (by decide +kernel)) rfl
theorem sl_X6_putsZone : Cond.selects RX6 yX6_putsZone yX6_putsZone ∈ ALL := qP (y := yX6_putsZone) (n := 11) (List.mem_of_getElem? (i := 16) (by decide +kernel)) rfl
theorem sl_X6_puts : Cond.selects RX6 yX6_puts yX6_puts ∈ ALL := qP (y := yX6_puts) (n := 11) (List.mem_of_getElem? (i := 17) (by decide +kernel)) rfl
theorem sl_X6_record : Cond.selects RX6 yX6_record yX6_record ∈ ALL := qP (y := yX6_record) (n := 11) (List.mem_of_getElem? (i := 18) (by decide +kernel)) rfl
theorem sl_X6_ofZone : Cond.selects RX6 yX6_ofZone yX6_ofZone ∈ ALL := qP (y := yX6_ofZone) (n := 11) (List.mem_of_getElem? (i := 19) (by decide +kernel)) rfl
theorem sl_X6_gives : Cond.selects RX6 yX6_gives yX6_gives ∈ ALL := qP (y := yX6_gives) (n := 11) (List.mem_of_getElem? (i := 20) (by decide +kernel)) rfl
theorem sl_X6_of : Cond.selects RX6 yX6_of yX6_of ∈ ALL := qP (y := yX6_of) (n := 11) (List.mem_of_getElem? (i := 21) (by decide +kernel)) rfl
theorem sl_X6_solvesFirst : Cond.selects RX6 yX6_solvesFirst yX6_solvesFirst ∈ ALL := qP (y := yX6_solvesFirst) (n := 11) (List.mem_of_getElem? (i := 22) (by decide +kernel)) rfl
theorem sl_X6_solves : Cond.selects RX6 yX6_solves yX6_solves ∈ ALL := qP (y := yX6_solves) (n := 11) (List.mem_of_getElem? (i := 23) (by decide +kernel)) rfl
theorem sl_X6_asks : Cond.selects RX6 yX6_asks yX6_asks ∈ ALL := qP (y := yX6_asks) (n := 11) (List.mem_of_getElem? (i := 24) (by decide +kernel)) rfl
theorem sl_X6_comesTo : Cond.selects RX6 yX6_comesTo yX6_comesTo ∈ ALL := qP (y := yX6_comesTo) (n := 11) (List.mem_of_getElem? (i := 25) (by decide +kernel)) rfl
theorem sl_X6_costs : Cond.selects RX6 yX6_costs yX6_costs ∈ ALL := qP (y := yX6_costs) (n := 11) (List.mem_of_getElem? (i := 26) (by decide +kernel)) rfl
theorem sl_X6_forgets : Cond.selects RX6 yX6_forgets yX6_forgets ∈ ALL := qP (y := yX6_forgets) (n := 11) (List.mem_of_getElem? (i := 27) (by decide +kernel)) rfl
theorem sl_X6_passes : Cond.selects RX6 yX6_passes yX6_passes ∈ ALL := qP (y := yX6_passes) (n := 11) (List.mem_of_getElem? (i := 28) (by decide +kernel)) rfl
theorem sl_X6_tells : Cond.selects RX6 yX6_tells yX6_tells ∈ ALL := qP (y := yX6_tells) (n := 11) (List.mem_of_getElem? (i := 29) (by decide +kernel)) rfl
theorem sl_X6_tellsZone : Cond.selects RX6 yX6_tellsZone yX6_tellsZone ∈ ALL := qP (y := yX6_tellsZone) (n := 11) (List.mem_of_getElem? (i := 30) (by decide +kernel)) rfl
theorem sl_X6_depth : Cond.selects RX6 yX6_depth yX6_depth ∈ ALL := qP (y := yX6_depth) (n := 11) (List.mem_of_getElem? (i := 31) (by decide +kernel)) rfl
theorem sl_X6_tellsRiddle : Cond.selects RX6 yX6_tellsRiddle yX6_tellsRiddle ∈ ALL := qP (y := yX6_tellsRiddle) (n := 11) (List.mem_of_getElem? (i := 32) (by decide +kernel)) rfl
theorem sl_X6_truth : Cond.selects RX6 yX6_truth yX6_truth ∈ ALL := qP (y := yX6_truth) (n := 11) (List.mem_of_getElem? (i := 33) (by decide +kernel)) rfl
theorem sl_X6_leftUntil : Cond.selects RX6 yX6_leftUntil yX6_leftUntil ∈ ALL := qP (y := yX6_leftUntil) (n := 11) (List.mem_of_getElem? (i := 34) (by decide +kernel)) rfl
theorem sl_X6_memories : Cond.selects RX6 yX6_memories yX6_memories ∈ ALL := qP (y := yX6_memories) (n := 11) (List.mem_of_getElem? (i := 35) (by decide +kernel)) rfl
theorem sl_X6_untilForgetting : Cond.selects RX6 yX6_untilForgetting yX6_untilForgetting ∈ ALL := qP (y := yX6_untilForgetting) (n := 11) (List.mem_of_getElem? (i := 36) (by decide +kernel)) rfl
theorem sl_X6_isOld : Cond.selects RX6 yX6_isOld yX6_isOld ∈ ALL := qP (y := yX6_isOld) (n := 11) (List.mem_of_getElem? (i := 37) (by decide +kernel)) rfl
theorem sl_X6_would : Cond.selects RX6 yX6_would yX6_would ∈ ALL := qP (y := yX6_would) (n := 11) (List.mem_of_getElem? (i := 38) (by decide +kernel)) rfl
theorem sl_X6_cost : Cond.selects RX6 yX6_cost yX6_cost ∈ ALL := qP (y := yX6_cost) (n := 11) (List.mem_of_getElem? (i := 39) (by decide +kernel)) rfl
theorem sl_X6_wouldIn : Cond.selects RX6 yX6_wouldIn yX6_wouldIn ∈ ALL := qP (y := yX6_wouldIn) (n := 11) (List.mem_of_getElem? (i := 40) (by decide +kernel)) rfl
theorem sl_X6_findError : Cond.selects RX6 yX6_findError yX6_findError ∈ ALL := qP (y := yX6_findError) (n := 11) (List.mem_of_getElem? (i := 41) (by decide +kernel)) rfl
theorem sl_X6_readsAct : Cond.selects RX6 yX6_readsAct yX6_readsAct ∈ ALL := qP (y := yX6_readsAct) (n := 11) (List.mem_of_getElem? (i := 42) (by decide +kernel)) rfl
theorem sl_X6_accepts : Cond.selects RX6 yX6_accepts yX6_accepts ∈ ALL := qP (y := yX6_accepts) (n := 11) (List.mem_of_getElem? (i := 43) (by decide +kernel)) rfl
theorem sl_X6_readsNumber : Cond.selects RX6 yX6_readsNumber yX6_readsNumber ∈ ALL := qP (y := yX6_readsNumber) (n := 11) (List.mem_of_getElem? (i := 44) (by decide +kernel)) rfl
theorem sl_X6_happens : Cond.selects RX6 yX6_happens yX6_happens ∈ ALL := qP (y := yX6_happens) (n := 11) (List.mem_of_getElem? (i := 45) (by decide +kernel)) rfl
theorem inX0 : ∀ w ∈ wsX00, w ∈ ALL := List.forall_mem_cons.mpr ⟨qA (q_1 92 (by decide +kernel)) rfl, List.forall_mem_cons.mpr ⟨qA (q_1 94 (by decide +kernel)) rfl, List.forall_mem_cons.mpr ⟨qA (q_1 96 (by decide +kernel)) rfl, List.forall_mem_cons.mpr ⟨qA (q_1 98 (by decide +kernel)) rfl, List.forall_mem_cons.mpr ⟨qA (q_1 100 (by decide +kernel)) rfl, List.forall_mem_cons.mpr ⟨qA (q_1 102 (by decide +kernel)) rfl, fun _ h => nomatch h⟩⟩⟩⟩⟩⟩
theorem inX1 : ∀ w ∈ wsX10, w ∈ ALL := List.forall_mem_cons.mpr ⟨qA (q_1 146 (by decide +kernel)) rfl, List.forall_mem_cons.mpr ⟨qA (q_1 148 (by decide +kernel)) rfl, List.forall_mem_cons.mpr ⟨qA (q_1 150 (by decide +kernel)) rfl, List.forall_mem_cons.mpr ⟨qA (q_1 152 (by decide +kernel)) rfl, List.forall_mem_cons.mpr ⟨qA (q_1 154 (by decide +kernel)) rfl, fun _ h => nomatch h⟩⟩⟩⟩⟩
theorem inX2 : ∀ w ∈ wsX20, w ∈ ALL := List.forall_mem_cons.mpr ⟨qA (q_1 63 (by decide +kernel)) rfl, List.forall_mem_cons.mpr ⟨qA (q_1 65 (by decide +kernel)) rfl, List.forall_mem_cons.mpr ⟨qA (q_1 67 (by decide +kernel)) rfl, fun _ h => nomatch h⟩⟩⟩
theorem inX3 : ∀ w ∈ wsX30, w ∈ ALL := List.forall_mem_cons.mpr ⟨qA (q_1 117 (by decide +kernel)) rfl, List.forall_mem_cons.mpr ⟨qA (q_1 119 (by decide +kernel)) rfl, List.forall_mem_cons.mpr ⟨qA (q_1 121 (by decide +kernel)) rfl, List.forall_mem_cons.mpr ⟨qA (q_1 123 (by decide +kernel)) rfl, List.forall_mem_cons.mpr ⟨qA (q_1 125 (by decide +kernel)) rfl, List.forall_mem_cons.mpr ⟨qA (q_1 127 (by decide +kernel)) rfl, fun _ h => nomatch h⟩⟩⟩⟩⟩⟩
theorem inX4 : ∀ w ∈ wsX40, w ∈ ALL := List.forall_mem_cons.mpr ⟨qA (q_1 46 (by decide +kernel)) rfl, List.forall_mem_cons.mpr ⟨qA (q_1 48 (by decide +kernel)) rfl, List.forall_mem_cons.mpr ⟨qA (q_1 50 (by decide +kernel)) rfl, fun _ h => nomatch h⟩⟩⟩
theorem inX5 : ∀ w ∈ wsX50, w ∈ ALL := List.forall_mem_cons.mpr ⟨qA (q_1 161 (by decide +kernel)) rfl, List.forall_mem_cons.mpr ⟨qA (q_1 163 (by decide +kernel)) rfl, List.forall_mem_cons.mpr ⟨qA (q_1 165 (by decide +kernel)) rfl, List.forall_mem_cons.mpr ⟨qA (q_1 167 (by decide +kernel)) rfl, fun _ h => nomatch h⟩⟩⟩⟩
theorem inX6 : ∀ w ∈ wsX60, w ∈ ALL := List.forall_mem_cons.mpr ⟨qA (q_4 33 (by decide +kernel)) rfl, List.forall_mem_cons.mpr ⟨qA (q_4 35 (by decide +kernel)) rfl, List.forall_mem_cons.mpr ⟨qA (q_4 37 (by decide +kernel)) rfl, List.forall_mem_cons.mpr ⟨qA (q_4 39 (by decide +kernel)) rfl, List.forall_mem_cons.mpr ⟨qA (q_4 41 (by decide +kernel)) rfl, List.forall_mem_cons.mpr ⟨qA (q_4 43 (by decide +kernel)) rfl, List.forall_mem_cons.mpr ⟨qA (q_4 45 (by decide +kernel)) rfl, List.forall_mem_cons.mpr ⟨qA (q_4 47 (by decide +kernel)) rfl, List.forall_mem_cons.mpr ⟨qA (q_4 49 (by decide +kernel)) rfl, List.forall_mem_cons.mpr ⟨qA (q_4 51 (by decide +kernel)) rfl, List.forall_mem_cons.mpr ⟨qA (q_4 53 (by decide +kernel)) rfl, fun _ h => nomatch h⟩⟩⟩⟩⟩⟩⟩⟩⟩⟩⟩
end
section
/-! the numbers: whole numbers read as ints of the machine -/
def I (z : Int) : Int32 := Int32.ofInt z
theorem I_add (a b : Int) : I a + I b = I (a + b) := (Int32.ofInt_add a b).symm
theorem I_mul (a b : Int) : I a * I b = I (a * b) := (Int32.ofInt_mul a b).symm
theorem I_sub (a b : Int) : I a - I b = I (a - b) := (Int32.ofInt_sub a b).symm
theorem I_toInt {a : Int} (h : -2147483648 ≤ a ∧ a ≤ 2147483647) : (I a).toInt = a := by
  unfold I
  rw [Int32.toInt_ofInt]
  unfold Int.bmod
  have : (a % ((2:Nat)^32 : Nat)) = if 0 ≤ a then a else a + 4294967296 := by split <;> omega
  rw [this]
  have hz : ((Int32.size : Nat) : Int) = 4294967296 := rfl
  dsimp only
  rw [hz]
  split <;> split <;> omega
theorem I_of (x : Int32) : I x.toInt = x := Int32.ofInt_toInt x
theorem I_rng (x : Int32) : -2147483648 ≤ x.toInt ∧ x.toInt ≤ 2147483647 := by
  have h1 := Int32.le_toInt x
  have h2 := Int32.toInt_lt x
  omega
theorem I_inj {a b : Int} (ha : -2147483648 ≤ a ∧ a ≤ 2147483647) (hb : -2147483648 ≤ b ∧ b ≤ 2147483647) : I a = I b ↔ a = b := by
  constructor
  · intro h
    have := congrArg Int32.toInt h
    rwa [I_toInt ha, I_toInt hb] at this
  · intro h; rw [h]
theorem I_lt {a b : Int} (ha : -2147483648 ≤ a ∧ a ≤ 2147483647) (hb : -2147483648 ≤ b ∧ b ≤ 2147483647) : I a < I b ↔ a < b := by
  rw [Int32.lt_iff_toInt_lt, I_toInt ha, I_toInt hb]
theorem I_le {a b : Int} (ha : -2147483648 ≤ a ∧ a ≤ 2147483647) (hb : -2147483648 ≤ b ∧ b ≤ 2147483647) : I a ≤ I b ↔ a ≤ b := by
  rw [Int32.le_iff_toInt_le, I_toInt ha, I_toInt hb]
theorem I_0 : I 0 = 0 := rfl
theorem I_nat {n : Nat} (h : n ≤ 2147483647) : (I (n : Int)).toNatClampNeg = n := by
  rw [← Int32.toNat_toInt, I_toInt (by omega)]
  simp
theorem I_in {n L : Nat} (h : n < L) (hL : L ≤ 2147483647) : vp_in (I (n : Int)) L := by
  unfold vp_in
  rw [I_nat (by omega)]
  rw [show (0 : Int32) = I 0 from rfl, I_lt (by omega) (by omega)]
  omega
def up {α : Type} (f : Nat → α) (k : Nat) (v : α) : Nat → α := fun j => if j = k then v else f j
theorem up_eq {α : Type} (f : Nat → α) (k : Nat) (v : α) : up f k v k = v := by simp [up]
theorem up_ne {α : Type} (f : Nat → α) {k j : Nat} (v : α) (h : j ≠ k) : up f k v j = f j := by simp [up, h]
theorem upd_I (g : Nat → Int) (k : Nat) (v : Int) : upd (fun i => I (g i)) k (I v) = fun i => I (up g k v i) := by
  funext j
  unfold upd up
  split <;> rfl
/-! the tables' side of a method's start: classes, array classes, private members of nest mates -/
abbrev nwL : List Cond := [.methodLinkNest RX5 9 yX3_init RX5, .methodLinkNest RX3 34 yX0_init RX5, .methodLinkNest RX5 26 yX1_init RX5,
  .methodLinkNest RX3 88 yX5_read RX5, .methodLinkNest RX2 29 yX5_read RX5, .methodLinkNest RX1 32 yX5_read RX5, .methodLinkNest RX1 25 yX5_write RX5, .methodLinkNest RX4 25 yX5_read RX5,
  .methodLinkNest RX4 21 yX5_copyRow RX5, .methodLinkNest RX2 21 yX5_copyRow RX5, .methodLinkNest RX3 50 yX5_copyRow RX5, .methodLinkNest RX0 31 yX5_copyRow RX5, .methodLinkNest RX2 25 yX5_write RX5,
  .methodLinkNest RX0 35 yX5_read RX5, .methodLinkNest RX0 39 yX5_write RX5, .methodLinkNest RX3 98 yX5_write RX5]
def nwB : Cond → Bool
  | .methodLinkNest _ _ _ _ => true
  | _ => false
def nwA (L : List Cond) (U : State) : Prop := ∀ w ∈ L, nwB w = true ∧ va_Nw w U
theorem nwA.warm {L : List Cond} {s U : State} (hW : s.WarmedH U.vm) (h : nwA L s) : nwA L U := by
  intro w hw
  obtain ⟨h1, h2⟩ := h w hw
  refine ⟨h1, ?_⟩
  cases w <;> first | exact va_Nw.warmM hW h2 | cases h1
theorem nwA.same {L : List Cond} {s U : State} (hv : s.vm = U.vm) (h : nwA L s) : nwA L U := by
  intro w hw
  obtain ⟨h1, h2⟩ := h w hw
  refine ⟨h1, ?_⟩
  cases w <;> first | (cases h1; done) | exact va_Nw.same rfl hv h2
abbrev Env3 : Type := va_G × ClassId × ClassId × ClassId
abbrev tyL (E : Env3) : List (ClassId × FieldType) := [(E.2.1, .int), (E.2.2.1, .object RX3), (E.2.2.2, .long)]
def KB (E : Env3) (U : State) : Prop := va_K E.1 vwCl (tyL E) U ∧ nwA nwL U
theorem KB.warm {E : Env3} {s U : State} (hW : s.WarmedH U.vm) (h : KB E s) : KB E U := ⟨va_K.moved hW.alike h.1, nwA.warm hW h.2⟩
theorem KB.same {E : Env3} {s U : State} (hv : s.vm = U.vm) (h : KB E s) : KB E U := ⟨va_K.moved (by rw [hv]; exact Vm.Alike.refl _) h.1, nwA.same hv h.2⟩
/-! a contract's start and ends -/
def adIn (ws : va_W) : Nat → Prop := fun q => ∃ (k : Nat) (e : va_E), ws[k]? = some (q, e)
theorem adIn_eq {a b : va_W} (h : a.map (·.1) = b.map (·.1)) {q : Nat} (hq : adIn a q) : adIn b q := by
  obtain ⟨k, e, hk⟩ := hq
  have h1 : (a.map (·.1))[k]? = some q := by rw [List.getElem?_map, hk]; rfl
  rw [h, List.getElem?_map] at h1
  cases hb : b[k]? with
  | none => rw [hb] at h1; cases h1
  | some x => rw [hb] at h1; exact ⟨k, x.2, by rw [hb]; exact congrArg some (Prod.ext (Option.some.inj h1) rfl)⟩
def pR (av : List Value) (E : Env3) (ws : va_W) : Array Value → State → Prop := fun v U => v = av.toArray ∧ va_P E.1 vwCl ws U.heap ∧ KB E U
theorem pR_blind {av : List Value} {E : Env3} {ws : va_W} : FrameBlind (pR av E ws) := fun _ U _ _ h => ⟨h.1, h.2.1, KB.same (s := U) rfl h.2.2⟩
theorem pR_S {av : List Value} {E : Env3} {ws : va_W} {s : State} {H : Heap} (hP : va_P E.1 vwCl ws H) (hK : KB E s) : PreS s H (pR av E ws) av :=
  ⟨pR_blind, fun U hU hW => ⟨rfl, by rw [hU]; exact hP, hK.warm hW⟩⟩
theorem pR_V {b : Nat} {As : List Value} {E : Env3} {ws : va_W} {s : State} {H : Heap} {ci q0 : Nat} {fs : List Value} {C : String} {T : u_T} {N : Nat} (hP : va_P E.1 vwCl ws H) (hK : KB E s) (hb : ws[q0]? = some (b, .inr (ci, fs))) (hc : vwCl[ci]? = some (C, T, N)) : PreV s H C b (pR (.ref b :: As) E ws) As :=
  ⟨pR_blind, va_recv hK.1 hP (ci := ci) (q0 := q0) hc hb, fun U hU hW => ⟨rfl, by rw [hU]; exact hP, hK.warm hW⟩⟩
/-- an answer, and nothing is written -/
def qS (v : Option Value) : Array Value → State → Outcome → State → Prop := fun _ st oc t => oc = .returned v ∧ t.heap = st.heap
/-- an answer, and the cells of ws have become ws' -/
def qW (v : Option Value) (E : Env3) (ws ws' : va_W) : Array Value → State → Outcome → State → Prop := fun _ st oc t => oc = .returned v ∧ va_P E.1 vwCl ws' t.heap ∧ va_F (adIn ws) st t
theorem dm {A : Nat → Prop} {ws ws' : va_W} (h : va_D A ws) (e : ws.map (·.1) = ws'.map (·.1)) : va_D A ws' := by
  have key : ∀ (k : Nat) (q : Nat × va_E), ws'[k]? = some q → ∃ q0, ws[k]? = some q0 ∧ q0.1 = q.1 := by
    intro k q hk
    have h1 : (ws'.map (·.1))[k]? = some q.1 := by rw [List.getElem?_map, hk]; rfl
    rw [← e, List.getElem?_map] at h1
    cases hb : ws[k]? with
    | none => rw [hb] at h1; cases h1
    | some x => rw [hb] at h1; exact ⟨x, rfl, Option.some.inj h1⟩
  refine ⟨fun i j x y hi hj hxy => ?_, fun k q hk => ?_⟩
  · obtain ⟨x0, h1, h2⟩ := key i x hi
    obtain ⟨y0, h3, h4⟩ := key j y hj
    exact h.1 i j x0 y0 h1 h3 (h2.trans (hxy.trans h4.symm))
  · obtain ⟨q0, h1, h2⟩ := key k q hk
    rw [← h2]
    exact h.2 k q0 h1
theorem dself {ws : va_W} (h : va_D (fun _ => True) ws) : va_D (adIn ws) ws := ⟨h.1, fun k q hk => ⟨k, q.2, hk⟩⟩
def setAll : va_W → List Nat → va_W → va_W
  | ws, i :: is, q :: qs => setAll (ws.set i q) is qs
  | ws, _, _ => ws
/-- cells at some places are new, those at the others stay -/
theorem mj_P {D : va_G} {cl : List vw_C} {A0 : Nat → Prop} {ws wc w1 ws' : va_W} {H H1 : Heap} (is : List Nat) (hP : va_P D cl ws H) (hD : va_D A0 ws) (hC : is.map (fun i => ws[i]?) = wc.map some)
    (hk : ∀ q : Nat, q < H.size → ¬ adIn wc q → H1[q]? = H[q]?) (hP1 : va_P D cl w1 H1) (hw : setAll ws is w1 = ws') (hn : va_nd is = true) (hl : is.length = w1.length) : va_P D cl ws' H1 := by
  have rest : ∀ (k : Nat) (q : Nat × va_E), ws[k]? = some q → k ∉ is → va_at D cl q H1 := by
    intro k q hq hk'
    refine (hP k q hq).kept (hk q.1 (hP k q hq).lt fun hin => ?_)
    obtain ⟨j, e, hj⟩ := hin
    have h1 : (is.map (fun i => ws[i]?))[j]? = some (some (q.1, e)) := by rw [hC, List.getElem?_map, hj]; rfl
    rw [List.getElem?_map] at h1
    cases hi : is[j]? with
    | none => rw [hi] at h1; cases h1
    | some i =>
      rw [hi] at h1
      have := hD.1 k i q (q.1, e) hq (Option.some.inj h1) rfl
      subst this
      exact hk' (List.mem_of_getElem? hi)
  have gen : ∀ (is : List Nat) (w1 v : va_W), va_nd is = true → is.length = w1.length → (∀ (k : Nat) (q : Nat × va_E), v[k]? = some q → k ∉ is → va_at D cl q H1) → (∀ (k : Nat) (q : Nat × va_E), w1[k]? = some q → va_at D cl q H1) → va_P D cl (setAll v is w1) H1 := by
    intro is
    induction is with
    | nil =>
      intro w1 v _ hl h1 h2
      cases w1 with
      | nil => exact fun k q hk => h1 k q hk (fun h => nomatch h)
      | cons a b => simp at hl
    | cons i is ih =>
      intro w1 v hn hl h1 h2
      cases w1 with
      | nil => simp at hl
      | cons q1 w1 =>
        simp only [va_nd, Bool.and_eq_true, decide_eq_true_eq] at hn
        refine ih w1 (v.set i q1) hn.2 (by simpa using hl) (fun k q hk hni => ?_) (fun k q hk => h2 (k + 1) q (by simpa using hk))
        by_cases hki : k = i
        · subst hki
          have hlt : k < v.length := by
            have := (List.getElem?_eq_some_iff.mp hk).1
            simpa using this
          rw [List.getElem?_set_self hlt] at hk
          cases hk
          exact h2 0 _ rfl
        · rw [List.getElem?_set_ne (Ne.symm hki)] at hk
          refine h1 k q hk ?_
          intro hm
          rcases List.mem_cons.mp hm with h | h
          · exact hki h
          · exact hni h
  rw [← hw]
  exact gen is w1 ws hn hl rest hP1
theorem nwK {E : Env3} {s : State} (h : KB E s) {w : Cond} (i : Nat) (hi : nwL[i]? = some w) : va_Nw w s := (h.2 w (List.mem_of_getElem? hi)).2
theorem mk_met {l : Launch} {y : MethodName} {ws : List Cond} {rm : Room} {av : List Value} {E : Env3} {w0 : va_W} {Qc : Array Value → State → Outcome → State → Prop} {mc ms : Nat} {free : Addr → Prop} {cc : ByteArray} {maxL : Nat} {ret : Option FieldType}
    (hy : plainName y.cls = true) (hw : ws = Cond.code y cc maxL ret :: ALL) (hn : (lg_sl av).length ≤ maxL)
    (body : ∀ (p : Program) (e : Jvm.Env) (s : State) (m : MethodId) (args : Array Value) (below : List Frame) (meth : Method) (c : Code), p.tables.exec = Jvm.exec → c.code = cc → meth.sig.returnType = ret → c.maxLocals = maxL → (∀ w ∈ ALL, w.before args s = true) → s.vm.findClass y.cls = some m.cls → meth.locks = false → meth.name = y.name →
      va_P E.1 vwCl w0 s.heap → KB E s → ∀ ls : Array Slot, lv_has ls maxL (lv_args 0 av) →
      W p l e rm s m args below meth c s.heap [] 0 0 (MQ below Qc args s mc ms free) (F0 m 0 ls [])) : Met l y ws rm (pR av E w0) Qc mc ms free := by
  refine Met.ofW (cc := cc) (maxL := maxL) (ret := ret) hy hw ?_
  intro p e s m args below meth c s₁ B hml hv
  obtain ⟨rfl, hP, hK⟩ := hv
  rw [lg_entry_eq]
  have hts := atoms_spec (ws := ws) B.pre
  exact body p e s m _ below meth c B.exec B.bytes B.returns hml (fun w h => hts w (by rw [hw]; exact List.mem_cons_of_mem _ h)) (findClass_of_methodNamed B.named) B.notSynchronized (name_of_methodNamed B.named B.method).1 hP hK _ (lv_entry av hn)
theorem lv_lk {ls : Array Slot} {nL : Nat} {lv : List (Nat × Value)} (h : lv_has ls nL lv) {i : Nat} {v : Value} (hk : lv.find? (fun q => q.1 == i) = some (i, v)) : ls[i]? = some (.val v) := h.2.2 (i, v) (List.mem_of_find?_eq_some hk)
section IV
variable {p : Program} {l : Launch} {e : Jvm.Env} {R : Room} {s : State} {m : MethodId} {args : Array Value} {below : List Frame} {meth : Method} {c : Code} {H : Heap} {locs : List Loc} {cells slots : Nat} {Q : State → Prop}
variable {cc : ByteArray} {pc : Nat} {ls : Array Slot} {rest : List Value}
/-- the top number by another name -/
theorem iv_eq {a : Int} (b : Int) (h : a = b) (k : W p l e R s m args below meth c H locs cells slots Q (F0 m pc ls (.int (I b) :: rest))) : W p l e R s m args below meth c H locs cells slots Q (F0 m pc ls (.int (I a) :: rest)) := by rw [h]; exact k
theorem iv_iconst (hx : p.tables.exec = Jvm.exec) (hb : c.code = cc) {n : Int} (hdg : decode cc pc = .ok (.iconst n, 1)) (k : W p l e R s m args below meth c H locs cells slots Q (F0 m (pc + 1) ls (.int (I n) :: rest))) : W p l e R s m args below meth c H locs cells slots Q (F0 m pc ls rest) := lv_iconst hx hb hdg rfl k
theorem iv_bipush (hx : p.tables.exec = Jvm.exec) (hb : c.code = cc) {n : Int} (hdg : decode cc pc = .ok (.bipush n, 2)) (hv : (Int8.ofInt n).toInt32 = I n) (k : W p l e R s m args below meth c H locs cells slots Q (F0 m (pc + 2) ls (.int (I n) :: rest))) : W p l e R s m args below meth c H locs cells slots Q (F0 m pc ls rest) := lv_bipush hx hb hdg hv k
theorem iv_sipush (hx : p.tables.exec = Jvm.exec) (hb : c.code = cc) {n : Int} (hdg : decode cc pc = .ok (.sipush n, 3)) (hv : (Int16.ofInt n).toInt32 = I n) (k : W p l e R s m args below meth c H locs cells slots Q (F0 m (pc + 3) ls (.int (I n) :: rest))) : W p l e R s m args below meth c H locs cells slots Q (F0 m pc ls rest) := lv_sipush hx hb hdg hv k
theorem iv_iadd (hx : p.tables.exec = Jvm.exec) (hb : c.code = cc) {x y : Int} (hdg : decode cc pc = .ok (.iadd, 1)) (k : W p l e R s m args below meth c H locs cells slots Q (F0 m (pc + 1) ls (.int (I (x + y)) :: rest))) : W p l e R s m args below meth c H locs cells slots Q (F0 m pc ls (.int (I y) :: .int (I x) :: rest)) := lv_iadd hx hb hdg (by rw [I_add]; exact k)
theorem iv_isub (hx : p.tables.exec = Jvm.exec) (hb : c.code = cc) {x y : Int} (hdg : decode cc pc = .ok (.isub, 1)) (k : W p l e R s m args below meth c H locs cells slots Q (F0 m (pc + 1) ls (.int (I (x - y)) :: rest))) : W p l e R s m args below meth c H locs cells slots Q (F0 m pc ls (.int (I y) :: .int (I x) :: rest)) := lv_isub hx hb hdg (by rw [I_sub]; exact k)
theorem iv_imul (hx : p.tables.exec = Jvm.exec) (hb : c.code = cc) {x y : Int} (hdg : decode cc pc = .ok (.imul, 1)) (k : W p l e R s m args below meth c H locs cells slots Q (F0 m (pc + 1) ls (.int (I (x * y)) :: rest))) : W p l e R s m args below meth c H locs cells slots Q (F0 m pc ls (.int (I y) :: .int (I x) :: rest)) := lv_imul hx hb hdg (by rw [I_mul]; exact k)
theorem iv_idiv (hx : p.tables.exec = Jvm.exec) (hb : c.code = cc) {x y : Int} (hdg : decode cc pc = .ok (.idiv, 1)) (z : Int) (hz : I x / I y = I z) (hy : -2147483648 ≤ y ∧ y ≤ 2147483647 ∧ y ≠ 0) (k : W p l e R s m args below meth c H locs cells slots Q (F0 m (pc + 1) ls (.int (I z) :: rest))) : W p l e R s m args below meth c H locs cells slots Q (F0 m pc ls (.int (I y) :: .int (I x) :: rest)) :=
  lv_idiv hx hb hdg (by rw [← I_0, I_inj (by omega) (by omega)]; exact hy.2.2) (by rw [hz]; exact k)
theorem iv_iinc (hx : p.tables.exec = Jvm.exec) (hb : c.code = cc) {i nL k : Nat} {n x : Int} {lv : List (Nat × Value)} (hdg : decode cc pc = .ok (.iinc i n, 3)) (h : lv_has ls nL lv) (hk : lv[k]? = some (i, .int (I x))) (y : Int) (hy : x + n = y) (hn : i < nL) (lv' : List (Nat × Value)) (hl : (i, Value.int (I y)) :: lv.filter (fun q => !(q.1 == i) && !(q.1 + 1 == i && q.2.category == 2)) = lv')
    (kk : ∀ ls' : Array Slot, lv_has ls' nL lv' → W p l e R s m args below meth c H locs cells slots Q (F0 m (pc + 3) ls' rest)) : W p l e R s m args below meth c H locs cells slots Q (F0 m pc ls rest) :=
  lv_iinc (v := I y) (lv' := lv') hx hb hdg h hk (by rw [← hy, ← I_add]; rfl) hn hl kk
theorem iv_if_eq (hx : p.tables.exec = Jvm.exec) (hb : c.code = cc) {x : Int} {off : Int} {tgt : Nat} (hdg : decode cc pc = .ok (.ifCond .eq off, 3)) (ht : (pc : Int) + off = (tgt : Int)) (h1 : -2147483648 ≤ x ∧ x ≤ 2147483647)
    (kt : x = 0 → W p l e R s m args below meth c H locs cells slots Q (F0 m tgt ls rest)) (kf : ¬ x = 0 → W p l e R s m args below meth c H locs cells slots Q (F0 m (pc + 3) ls rest)) : W p l e R s m args below meth c H locs cells slots Q (F0 m pc ls (.int (I x) :: rest)) :=
  lv_if_eq hx hb hdg ht (fun h => kt ((I_inj (b := 0) h1 (by omega)).mp h)) (fun h => kf (fun q => h ((I_inj (b := 0) h1 (by omega)).mpr q)))
theorem iv_if_ne (hx : p.tables.exec = Jvm.exec) (hb : c.code = cc) {x : Int} {off : Int} {tgt : Nat} (hdg : decode cc pc = .ok (.ifCond .ne off, 3)) (ht : (pc : Int) + off = (tgt : Int)) (h1 : -2147483648 ≤ x ∧ x ≤ 2147483647)
    (kt : ¬ x = 0 → W p l e R s m args below meth c H locs cells slots Q (F0 m tgt ls rest)) (kf : x = 0 → W p l e R s m args below meth c H locs cells slots Q (F0 m (pc + 3) ls rest)) : W p l e R s m args below meth c H locs cells slots Q (F0 m pc ls (.int (I x) :: rest)) :=
  lv_if_ne hx hb hdg ht (fun h => kt (fun q => h ((I_inj (b := 0) h1 (by omega)).mpr q))) (fun h => kf ((I_inj (b := 0) h1 (by omega)).mp h))
theorem iv_if_lt (hx : p.tables.exec = Jvm.exec) (hb : c.code = cc) {x : Int} {off : Int} {tgt : Nat} (hdg : decode cc pc = .ok (.ifCond .lt off, 3)) (ht : (pc : Int) + off = (tgt : Int)) (h1 : -2147483648 ≤ x ∧ x ≤ 2147483647)
    (kt : x < 0 → W p l e R s m args below meth c H locs cells slots Q (F0 m tgt ls rest)) (kf : ¬ x < 0 → W p l e R s m args below meth c H locs cells slots Q (F0 m (pc + 3) ls rest)) : W p l e R s m args below meth c H locs cells slots Q (F0 m pc ls (.int (I x) :: rest)) :=
  lv_if_lt hx hb hdg ht (fun h => kt ((I_lt (b := 0) h1 (by omega)).mp h)) (fun h => kf (fun q => h ((I_lt (b := 0) h1 (by omega)).mpr q)))
theorem iv_if_ge (hx : p.tables.exec = Jvm.exec) (hb : c.code = cc) {x : Int} {off : Int} {tgt : Nat} (hdg : decode cc pc = .ok (.ifCond .ge off, 3)) (ht : (pc : Int) + off = (tgt : Int)) (h1 : -2147483648 ≤ x ∧ x ≤ 2147483647)
    (kt : 0 ≤ x → W p l e R s m args below meth c H locs cells slots Q (F0 m tgt ls rest)) (kf : ¬ 0 ≤ x → W p l e R s m args below meth c H locs cells slots Q (F0 m (pc + 3) ls rest)) : W p l e R s m args below meth c H locs cells slots Q (F0 m pc ls (.int (I x) :: rest)) :=
  lv_if_ge hx hb hdg ht (fun h => kt ((I_le (a := 0) (by omega) h1).mp h)) (fun h => kf (fun q => h ((I_le (a := 0) (by omega) h1).mpr q)))
theorem iv_if_gt (hx : p.tables.exec = Jvm.exec) (hb : c.code = cc) {x : Int} {off : Int} {tgt : Nat} (hdg : decode cc pc = .ok (.ifCond .gt off, 3)) (ht : (pc : Int) + off = (tgt : Int)) (h1 : -2147483648 ≤ x ∧ x ≤ 2147483647)
    (kt : 0 < x → W p l e R s m args below meth c H locs cells slots Q (F0 m tgt ls rest)) (kf : ¬ 0 < x → W p l e R s m args below meth c H locs cells slots Q (F0 m (pc + 3) ls rest)) : W p l e R s m args below meth c H locs cells slots Q (F0 m pc ls (.int (I x) :: rest)) :=
  lv_if_gt hx hb hdg ht (fun h => kt ((I_lt (a := 0) (by omega) h1).mp h)) (fun h => kf (fun q => h ((I_lt (a := 0) (by omega) h1).mpr q)))
theorem iv_if_le (hx : p.tables.exec = Jvm.exec) (hb : c.code = cc) {x : Int} {off : Int} {tgt : Nat} (hdg : decode cc pc = .ok (.ifCond .le off, 3)) (ht : (pc : Int) + off = (tgt : Int)) (h1 : -2147483648 ≤ x ∧ x ≤ 2147483647)
    (kt : x ≤ 0 → W p l e R s m args below meth c H locs cells slots Q (F0 m tgt ls rest)) (kf : ¬ x ≤ 0 → W p l e R s m args below meth c H locs cells slots Q (F0 m (pc + 3) ls rest)) : W p l e R s m args below meth c H locs cells slots Q (F0 m pc ls (.int (I x) :: rest)) :=
  lv_if_le hx hb hdg ht (fun h => kt ((I_le (b := 0) h1 (by omega)).mp h)) (fun h => kf (fun q => h ((I_le (b := 0) h1 (by omega)).mpr q)))
theorem iv_icmp_eq (hx : p.tables.exec = Jvm.exec) (hb : c.code = cc) {x y : Int} {off : Int} {tgt : Nat} (hdg : decode cc pc = .ok (.if_icmp .eq off, 3)) (ht : (pc : Int) + off = (tgt : Int)) (h1 : -2147483648 ≤ x ∧ x ≤ 2147483647) (h2 : -2147483648 ≤ y ∧ y ≤ 2147483647)
    (kt : x = y → W p l e R s m args below meth c H locs cells slots Q (F0 m tgt ls rest)) (kf : ¬ x = y → W p l e R s m args below meth c H locs cells slots Q (F0 m (pc + 3) ls rest)) : W p l e R s m args below meth c H locs cells slots Q (F0 m pc ls (.int (I y) :: .int (I x) :: rest)) :=
  lv_icmp_eq hx hb hdg ht (fun h => kt ((I_inj h1 h2).mp h)) (fun h => kf (fun q => h ((I_inj h1 h2).mpr q)))
theorem iv_icmp_ne (hx : p.tables.exec = Jvm.exec) (hb : c.code = cc) {x y : Int} {off : Int} {tgt : Nat} (hdg : decode cc pc = .ok (.if_icmp .ne off, 3)) (ht : (pc : Int) + off = (tgt : Int)) (h1 : -2147483648 ≤ x ∧ x ≤ 2147483647) (h2 : -2147483648 ≤ y ∧ y ≤ 2147483647)
    (kt : ¬ x = y → W p l e R s m args below meth c H locs cells slots Q (F0 m tgt ls rest)) (kf : x = y → W p l e R s m args below meth c H locs cells slots Q (F0 m (pc + 3) ls rest)) : W p l e R s m args below meth c H locs cells slots Q (F0 m pc ls (.int (I y) :: .int (I x) :: rest)) :=
  lv_icmp_ne hx hb hdg ht (fun h => kt (fun q => h ((I_inj h1 h2).mpr q))) (fun h => kf ((I_inj h1 h2).mp h))
theorem iv_icmp_lt (hx : p.tables.exec = Jvm.exec) (hb : c.code = cc) {x y : Int} {off : Int} {tgt : Nat} (hdg : decode cc pc = .ok (.if_icmp .lt off, 3)) (ht : (pc : Int) + off = (tgt : Int)) (h1 : -2147483648 ≤ x ∧ x ≤ 2147483647) (h2 : -2147483648 ≤ y ∧ y ≤ 2147483647)
    (kt : x < y → W p l e R s m args below meth c H locs cells slots Q (F0 m tgt ls rest)) (kf : ¬ x < y → W p l e R s m args below meth c H locs cells slots Q (F0 m (pc + 3) ls rest)) : W p l e R s m args below meth c H locs cells slots Q (F0 m pc ls (.int (I y) :: .int (I x) :: rest)) :=
  lv_icmp_lt hx hb hdg ht (fun h => kt ((I_lt h1 h2).mp h)) (fun h => kf (fun q => h ((I_lt h1 h2).mpr q)))
theorem iv_icmp_ge (hx : p.tables.exec = Jvm.exec) (hb : c.code = cc) {x y : Int} {off : Int} {tgt : Nat} (hdg : decode cc pc = .ok (.if_icmp .ge off, 3)) (ht : (pc : Int) + off = (tgt : Int)) (h1 : -2147483648 ≤ x ∧ x ≤ 2147483647) (h2 : -2147483648 ≤ y ∧ y ≤ 2147483647)
    (kt : y ≤ x → W p l e R s m args below meth c H locs cells slots Q (F0 m tgt ls rest)) (kf : ¬ y ≤ x → W p l e R s m args below meth c H locs cells slots Q (F0 m (pc + 3) ls rest)) : W p l e R s m args below meth c H locs cells slots Q (F0 m pc ls (.int (I y) :: .int (I x) :: rest)) :=
  lv_icmp_ge hx hb hdg ht (fun h => kt ((I_le h2 h1).mp h)) (fun h => kf (fun q => h ((I_le h2 h1).mpr q)))
theorem iv_icmp_gt (hx : p.tables.exec = Jvm.exec) (hb : c.code = cc) {x y : Int} {off : Int} {tgt : Nat} (hdg : decode cc pc = .ok (.if_icmp .gt off, 3)) (ht : (pc : Int) + off = (tgt : Int)) (h1 : -2147483648 ≤ x ∧ x ≤ 2147483647) (h2 : -2147483648 ≤ y ∧ y ≤ 2147483647)
    (kt : y < x → W p l e R s m args below meth c H locs cells slots Q (F0 m tgt ls rest)) (kf : ¬ y < x → W p l e R s m args below meth c H locs cells slots Q (F0 m (pc + 3) ls rest)) : W p l e R s m args below meth c H locs cells slots Q (F0 m pc ls (.int (I y) :: .int (I x) :: rest)) :=
  lv_icmp_gt hx hb hdg ht (fun h => kt ((I_lt h2 h1).mp h)) (fun h => kf (fun q => h ((I_lt h2 h1).mpr q)))
theorem iv_icmp_le (hx : p.tables.exec = Jvm.exec) (hb : c.code = cc) {x y : Int} {off : Int} {tgt : Nat} (hdg : decode cc pc = .ok (.if_icmp .le off, 3)) (ht : (pc : Int) + off = (tgt : Int)) (h1 : -2147483648 ≤ x ∧ x ≤ 2147483647) (h2 : -2147483648 ≤ y ∧ y ≤ 2147483647)
    (kt : x ≤ y → W p l e R s m args below meth c H locs cells slots Q (F0 m tgt ls rest)) (kf : ¬ x ≤ y → W p l e R s m args below meth c H locs cells slots Q (F0 m (pc + 3) ls rest)) : W p l e R s m args below meth c H locs cells slots Q (F0 m pc ls (.int (I y) :: .int (I x) :: rest)) :=
  lv_icmp_le hx hb hdg ht (fun h => kt ((I_le h1 h2).mp h)) (fun h => kf (fun q => h ((I_le h1 h2).mpr q)))
end IV
abbrev iA (E : Env3) (n : Nat) (g : Nat → Int) : va_E := .inl (E.2.1, n, .inl (fun i => I (g i)))
section IW
variable {p : Program} {l : Launch} {e : Jvm.Env} {R : Room} {s : State} {m : MethodId} {args : Array Value} {below : List Frame} {meth : Method} {c : Code} {H : Heap} {locs : List Loc} {cells slots : Nat} {Q : State → Prop}
variable {cc : ByteArray} {pc : Nat} {ls : Array Slot} {rest st0 : List Value} {E : Env3} {A : Nat → Prop} {H0 : Heap} {a : Nat} {ws : va_W}
theorem iv_iald (hx : p.tables.exec = Jvm.exec) (hb : c.code = cc) (hK : KB E s) (hP : va_P E.1 vwCl ws H) (q0 : Nat) {n : Nat} {g : Nat → Int} (ha : ws[q0]? = some (a, iA E n g)) {i : Int} (k : Nat) (hk : i = (k : Int)) (hkn : k < n ∧ n ≤ 2147483647) (hdg : decode cc pc = .ok (.iaload, 1))
    (kk : W p l e R s m args below meth c H locs cells slots Q (F0 m (pc + 1) ls (.int (I (g k)) :: rest))) : W p l e R s m args below meth c H locs cells slots Q (F0 m pc ls (.int (I i) :: .ref a :: rest)) := by
  subst hk
  refine va_iald hx hb hK.1 hP q0 0 ha rfl (I_in hkn.1 hkn.2) hdg ?_
  rw [I_nat (by omega)]
  exact kk
theorem iv_iast (hx : p.tables.exec = Jvm.exec) (hb : c.code = cc) (hK : KB E s) (hP : va_P E.1 vwCl ws H) (hD : va_D A ws) (hS : va_S A H0 H locs) (q0 : Nat) {n : Nat} {g : Nat → Int} (ha : ws[q0]? = some (a, iA E n g)) {i v : Int} (k : Nat) (hk : i = (k : Int)) (hkn : k < n ∧ n ≤ 2147483647) (hdg : decode cc pc = .ok (.iastore, 1)) (ws' : va_W) (hw : ws.set q0 (a, iA E n (up g k v)) = ws')
    (kk : ∀ (H1 : Heap) (locs1 : List Loc), va_P E.1 vwCl ws' H1 → va_S A H0 H1 locs1 → W p l e R s m args below meth c H1 locs1 cells slots Q (F0 m (pc + 1) ls rest)) : W p l e R s m args below meth c H locs cells slots Q (F0 m pc ls (.int (I v) :: .int (I i) :: .ref a :: rest)) := by
  subst hk
  refine va_iast hx hb hK.1 hP hD hS q0 0 ha rfl (I_in hkn.1 hkn.2) hdg ?_
  intro H1 locs1 hP1 _ hS1
  refine kk H1 locs1 ?_ hS1
  rw [I_nat (by omega), upd_I] at hP1
  rw [← hw]
  exact hP1
/-- a call that writes nothing -/
theorem call_S {v : Option Value} {aa : Array Value} {free : Addr → Prop} (hr : va_Run p l e R s m args below meth c H locs cells slots 0 0 (F0 m pc ls st0) rest (qS v aa) free) (hf : ∀ q, ¬ free q) (hS : va_S A H0 H locs) {st1 : List Value} (h1 : v.toList ++ rest = st1)
    (kk : ∀ locs1 : List Loc, va_S A H0 H locs1 → W p l e R s m args below meth c H locs1 cells slots Q (F0 m (pc + 3) ls st1)) : W p l e R s m args below meth c H locs cells slots Q (F0 m pc ls st0) := by
  intro T hT X
  obtain ⟨v', st₀, t, T', L, h0, X', hL, e1, e2, ⟨hv, hh⟩, st⟩ := hr T hT X
  cases hv
  subst h1
  obtain ⟨t2, a1, b1⟩ := kk (locs ++ L) ⟨hS.1, hS.2.1, fun q hq => by
      rcases List.mem_append.mp hq with h | h
      · exact hS.2.2 q h
      · exact absurd (hL q h) (hf _)⟩ T' (by rw [e1, hh, h0]) X'
  exact ⟨t2, st t2 a1, b1⟩
/-- a call that writes at some places of the world -/
theorem call_W {v : Option Value} {aa : Array Value} {wc w1 : va_W} (hr : va_Run p l e R s m args below meth c H locs cells slots 0 0 (F0 m pc ls st0) rest (qW v E wc w1 aa) (adIn wc)) (hP : va_P E.1 vwCl ws H) (hD : va_D A ws) (hS : va_S A H0 H locs) (is : List Nat) (hC : is.map (fun i => ws[i]?) = wc.map some) (hn : va_nd is = true) (hl : is.length = w1.length)
    (ws' : va_W) (hw : setAll ws is w1 = ws') {st1 : List Value} (h1 : v.toList ++ rest = st1)
    (kk : ∀ (H1 : Heap) (locs1 : List Loc), va_P E.1 vwCl ws' H1 → va_S A H0 H1 locs1 → W p l e R s m args below meth c H1 locs1 cells slots Q (F0 m (pc + 3) ls st1)) : W p l e R s m args below meth c H locs cells slots Q (F0 m pc ls st0) := by
  intro T hT X
  obtain ⟨v', st₀, t, T', L, h0, X', hL, e1, e2, ⟨hv, hP1, hz, hk⟩, st⟩ := hr T hT X
  cases hv
  subst h1
  have hA : ∀ q, adIn wc q → A q := by
    intro q hq
    obtain ⟨j, e', hj⟩ := hq
    have h9 : (is.map (fun i => ws[i]?))[j]? = some (some (q, e')) := by rw [hC, List.getElem?_map, hj]; rfl
    rw [List.getElem?_map] at h9
    cases hi : is[j]? with
    | none => rw [hi] at h9; cases h9
    | some i => rw [hi] at h9; exact hD.2 i (q, e') (Option.some.inj h9)
  rw [h0] at hz hk
  rw [← e1] at hP1 hz hk
  obtain ⟨t2, a1, b1⟩ := kk T'.heap (locs ++ L) (mj_P is hP hD hC hk hP1 hw hn hl)
    ⟨Nat.le_trans hS.1 hz, fun q h1 h2 => by rw [hk q (Nat.lt_of_lt_of_le h1 hS.1) (fun z => h2 (hA q z))]; exact hS.2.1 q h1 h2, fun q hq => by
      rcases List.mem_append.mp hq with h | h
      · exact hS.2.2 q h
      · exact hA _ (hL q h)⟩ T' rfl X'
  exact ⟨t2, st t2 a1, b1⟩
/-- the same, where the callee's world is the whole -/
theorem call_F {v : Option Value} {aa : Array Value} {w1 : va_W} (hr : va_Run p l e R s m args below meth c H locs cells slots 0 0 (F0 m pc ls st0) rest (qW v E ws w1 aa) (adIn ws)) (hD : va_D A ws) (hS : va_S A H0 H locs) {st1 : List Value} (h1 : v.toList ++ rest = st1)
    (kk : ∀ (H1 : Heap) (locs1 : List Loc), va_P E.1 vwCl w1 H1 → va_S A H0 H1 locs1 → W p l e R s m args below meth c H1 locs1 cells slots Q (F0 m (pc + 3) ls st1)) : W p l e R s m args below meth c H locs cells slots Q (F0 m pc ls st0) := by
  intro T hT X
  obtain ⟨v', st₀, t, T', L, h0, X', hL, e1, e2, ⟨hv, hP1, hz, hk⟩, st⟩ := hr T hT X
  cases hv
  subst h1
  have hA : ∀ q, adIn ws q → A q := fun q hq => by obtain ⟨j, e', hj⟩ := hq; exact hD.2 j _ hj
  rw [h0] at hz hk
  rw [← e1] at hP1 hz hk
  obtain ⟨t2, a1, b1⟩ := kk T'.heap (locs ++ L) hP1
    ⟨Nat.le_trans hS.1 hz, fun q h1 h2 => by rw [hk q (Nat.lt_of_lt_of_le h1 hS.1) (fun z => h2 (hA q z))]; exact hS.2.1 q h1 h2, fun q hq => by
      rcases List.mem_append.mp hq with h | h
      · exact hS.2.2 q h
      · exact hA _ (hL q h)⟩ T' rfl X'
  exact ⟨t2, st t2 a1, b1⟩
end IW
theorem bool_nar {c : Prop} [Decidable c] : narrow .boolean (.int (I (if c then 1 else 0))) = .int (I (if c then 1 else 0)) := by split <;> rfl
end
section
/-! the pure pictures -/
abbrev S : Type := Nat → Int
def layN (g : S) (f : Nat) (h : S) (t n : Nat) : S := fun j => if t ≤ j ∧ j < t + n then g (f + (j - t)) else h j
theorem layN_0 (g : S) (f : Nat) (h : S) (t : Nat) : layN g f h t 0 = h := by
  funext j; unfold layN; rw [if_neg (by omega)]
theorem layN_s (g : S) (f : Nat) (h : S) (t n : Nat) : up (layN g f h t n) (t + n) (g (f + n)) = layN g f h t (n + 1) := by
  funext j; unfold layN up
  by_cases h1 : j = t + n
  · subst h1; rw [if_pos rfl, if_pos (by omega)]; congr 1; omega
  · rw [if_neg h1]
    by_cases h2 : t ≤ j ∧ j < t + n <;> dsimp only
    · rw [if_pos h2, if_pos (by omega)]
    · rw [if_neg h2, if_neg (by omega)]
abbrev lay (g : S) (f : Nat) (h : S) (t : Nat) : S := layN g f h t 252
/-- the reference's cells -/
abbrev refW (E : Env3) (ρ : Nat → Nat) (th rc tl pa kd nm : Int) (st hi ke tx wy : S) : va_W :=
  [(ρ 0, .inr (6, [.int (I th), .ref (ρ 1), .ref (ρ 2), .int (I rc), .ref (ρ 3), .ref (ρ 4), .int (I tl), .ref (ρ 5), .int (I pa), .int (I kd), .int (I nm)])),
   (ρ 1, iA E 252 st), (ρ 2, iA E 1512 hi), (ρ 3, iA E 252 ke), (ρ 4, iA E 60 tx), (ρ 5, iA E 6 wy)]
def dR (ρ : Nat → Nat) (n : Nat) : Prop := ∀ i j, i < n → j < n → ρ i = ρ j → i = j
theorem D_of_dR {ρ : Nat → Nat} {n : Nat} {ws : va_W} (h : dR ρ n) (e : ws.map (·.1) = (List.range n).map ρ) : va_D (adIn ws) ws := by
  refine dself ⟨fun i j p q hp hq hpq => ?_, fun _ _ _ => trivial⟩
  have get : ∀ (i : Nat) (p : Nat × va_E), ws[i]? = some p → i < n ∧ p.1 = ρ i := by
    intro i p hp
    have h1 : (ws.map (·.1))[i]? = some p.1 := by rw [List.getElem?_map, hp]; rfl
    rw [e, List.getElem?_map] at h1
    by_cases hi : i < n
    · rw [List.getElem?_range hi] at h1
      exact ⟨hi, (Option.some.inj h1).symm⟩
    · rw [List.getElem?_eq_none (by simpa using hi)] at h1
      cases h1
  obtain ⟨a1, a2⟩ := get i p hp
  obtain ⟨b1, b2⟩ := get j q hq
  exact h i j a1 b1 (by rw [← a2, ← b2, hpq])
theorem D_2 {a b : Nat} {e1 e2 : va_E} (h : a ≠ b) : va_D (adIn [(a, e1), (b, e2)]) [(a, e1), (b, e2)] := by
  refine dself ⟨fun i j p q hp hq hpq => ?_, fun _ _ _ => trivial⟩
  match i, j, hp, hq with
  | 0, 0, _, _ => rfl
  | 1, 1, _, _ => rfl
  | 0, 1, hp, hq => cases hp; cases hq; exact absurd hpq h
  | 1, 0, hp, hq => cases hp; cases hq; exact absurd hpq.symm h
  | i + 2, _, hp, _ => simp at hp
  | 0, j + 2, _, hq => simp at hq
  | 1, j + 2, _, hq => simp at hq
theorem D_1 {a : Nat} {e1 : va_E} : va_D (adIn [(a, e1)]) [(a, e1)] := by
  refine dself ⟨fun i j p q hp hq hpq => ?_, fun _ _ _ => trivial⟩
  match i, j, hp, hq with
  | 0, 0, _, _ => rfl
  | i + 1, _, hp, _ => simp at hp
  | 0, j + 1, _, hq => simp at hq
/-! what the state's numbers say: 0 time, 1 solved, 2 questions, 3 hits, 4 came, 5 went; 6 + 5 z + k of a zone; 36 + 6 r + k of a riddle -/
def par (st : S) (z : Nat) : Nat := (st (6 + 5 * z)).toNat
def costs (st : S) (z : Nat) : S := up (up st 2 (st 2 + 1)) (6 + 5 * z + 4) (up st 2 (st 2 + 1) (6 + 5 * z + 4) + 1)
/-- the way to z is asked of p -/
def way2 (st : S) (p z : Nat) : S := up (up (costs st p) (6 + 5 * z + 3) (costs st p 0 + costs st p (6 + 5 * p + 1))) 4 (up (costs st p) (6 + 5 * z + 3) (costs st p 0 + costs st p (6 + 5 * p + 1)) 4 + 1)
def come : Nat → S → Nat → S
  | 0, st, _ => st
  | n + 1, st, z => if z = 0 ∨ st (6 + 5 * z + 3) ≠ 0 then st else way2 (come n st (par st z)) (par st z) z
def hold1 (st : S) (r : Nat) : S := up st (36 + 6 * r + 3) (if st (36 + 6 * r) = 0 then 3 else st (36 + 6 * r))
def hold2 (st : S) (r : Nat) : S := up (hold1 st r) (36 + 6 * r + 4) (hold1 st r (36 + 6 * r + 1))
def hold3 (st : S) (r z : Nat) : S := up (hold2 st r) (36 + 6 * r + 5) (hold2 st r 0 + (if st (36 + 6 * r) = 0 then hold2 st r (6 + 5 * z + 2) else hold2 st r (36 + 6 * r + 2)))
def hold (st : S) (r z : Nat) : S := up (hold3 st r z) 4 (hold3 st r z 4 + 1)
def asks (st : S) (r : Nat) : S := hold (costs (come 6 st (r / 6)) (r / 6)) r (r / 6)
def take (st : S) (r : Nat) : S := if st (36 + 6 * r + 3) = 0 then asks st r else up st 3 (st 3 + 1)
def solvesF : Nat → S → Nat → S × Int
  | 0, st, _ => (st, -2)
  | n + 1, st, r => if take st r (36 + 6 * r + 3) = 2 then solvesF n (take st r) (take st r (36 + 6 * r + 4)).toNat else (take st r, if take st r (36 + 6 * r + 3) = 1 then take st r (36 + 6 * r + 4) else -1)
def solve1 (st : S) (r : Nat) : S × Int := solvesF 7 (up st 1 (st 1 + 1)) r
def forg3 (st : S) (r : Nat) : S := up (up (up st (36 + 6 * r + 3) 0) (36 + 6 * r + 4) 0) (36 + 6 * r + 5) 0
def forg (st : S) (r : Nat) : S := up (forg3 st r) 5 (forg3 st r 5 + 1)
def iter (f : S → Nat → S) : Nat → S → S
  | 0, s => s
  | n + 1, s => f (iter f n s) n
def passZ (st : S) (z : Nat) : S := if 0 < st (6 + 5 * z + 3) ∧ st (6 + 5 * z + 3) ≤ st 0 then up (up st (6 + 5 * z + 3) 0) 5 (up st (6 + 5 * z + 3) 0 5 + 1) else st
def passR (st : S) (r : Nat) : S := if st (36 + 6 * r + 3) ≠ 0 ∧ st (36 + 6 * r + 5) ≤ st 0 then forg st r else st
def passes (st : S) (t : Int) : S := iter passR 36 (iter passZ 6 (up st 0 (st 0 + t)))
def truthF : Nat → S → Nat → Int
  | 0, _, _ => -2
  | n + 1, st, r => if st (36 + 6 * r) = 2 then truthF n st (st (36 + 6 * r + 1)).toNat else st (36 + 6 * r + 1)
def depthF : Nat → S → Nat → Int
  | 0, _, _ => 0
  | n + 1, st, z => if z = 0 then 0 else 1 + depthF n st (par st z)
def left (st : S) (e : Int) : Int := if e = 0 then -1 else e - st 0
def sumN (f : Nat → Int) : Nat → Int
  | 0 => 0
  | n + 1 => sumN f n + f n
def memo (st : S) : Int := sumN (fun z => if 0 < st (6 + 5 * z + 3) then 1 else 0) 6 + sumN (fun r => if 0 < st (36 + 6 * r + 5) then 1 else 0) 36
def sooner (a b : Int) : Int := if a = -1 ∨ (b ≠ -1 ∧ b < a) then b else a
def foldN (g : Int → Nat → Int) : Nat → Int → Int
  | 0, a => a
  | n + 1, a => g (foldN g n a) n
def untl (st : S) : Int := foldN (fun a r => sooner a (left st (st (36 + 6 * r + 5)))) 36 (foldN (fun a z => sooner a (left st (st (6 + 5 * z + 3)))) 6 (-1))
def isOld (st : S) (r : Nat) : Prop := st (36 + 6 * r + 3) ≠ 0 ∧ ¬ (if st (36 + 6 * r + 3) = 3 then st (36 + 6 * r) = 0 else st (36 + 6 * r + 3) = st (36 + 6 * r) ∧ st (36 + 6 * r + 4) = st (36 + 6 * r + 1))
def would (st : S) (r : Nat) : Int := (solvesF 7 st r).2
def cost (st : S) (r : Nat) : Int := (solvesF 7 st r).1 2 - st 2
def wouldIn (st : S) (r : Nat) (t : Int) : Int := (solvesF 7 (passes st t) r).2
def waitF : Nat → S → Nat → Nat → Nat
  | 0, _, _, k => k
  | n + 1, st, r, k => if wouldIn st r k = truthF 7 st r then k else waitF n st r (k + 1)
/-! the ranges -/
def triT (k v a : Int) : Prop := (k = 0 ∧ v = -1 ∧ a = 0) ∨ (k = 1 ∧ 0 ≤ v ∧ v ≤ 99 ∧ 1 ≤ a ∧ a ≤ 99) ∨ (k = 2 ∧ 0 ≤ v ∧ v < 36 ∧ 1 ≤ a ∧ a ≤ 99)
def triM (T k v e : Int) : Prop := (k = 0 ∧ v = 0 ∧ e = 0) ∨ (k = 1 ∧ 0 ≤ v ∧ v ≤ 99 ∧ 1 ≤ e ∧ e ≤ T + 99) ∨ (k = 2 ∧ 0 ≤ v ∧ v < 36 ∧ 1 ≤ e ∧ e ≤ T + 99) ∨ (k = 3 ∧ v = -1 ∧ 1 ≤ e ∧ e ≤ T + 99)
def zoneB (T : Int) (st : S) (z : Nat) : Prop := (1 ≤ z → 0 ≤ st (6 + 5 * z) ∧ st (6 + 5 * z) < z) ∧ 1 ≤ st (6 + 5 * z + 1) ∧ st (6 + 5 * z + 1) ≤ 99 ∧ 1 ≤ st (6 + 5 * z + 2) ∧ st (6 + 5 * z + 2) ≤ 99 ∧ 0 ≤ st (6 + 5 * z + 3) ∧ st (6 + 5 * z + 3) ≤ T + 99
def IB (T : Int) (st : S) : Prop := (0 ≤ st 0 ∧ st 0 ≤ T ∧ T ≤ 100000) ∧ (st 6 = -1 ∧ st 9 = 0) ∧ (∀ z, z < 6 → zoneB T st z) ∧ ∀ r, r < 36 → triT (st (36 + 6 * r)) (st (36 + 6 * r + 1)) (st (36 + 6 * r + 2)) ∧ triM T (st (36 + 6 * r + 3)) (st (36 + 6 * r + 4)) (st (36 + 6 * r + 5))
/-- what is remembered ends later than now, and not too late -/
def IT (st : S) : Prop := (∀ z, z < 6 → st (6 + 5 * z + 3) = 0 ∨ (st 0 < st (6 + 5 * z + 3) ∧ st (6 + 5 * z + 3) ≤ st 0 + 99)) ∧ ∀ r, r < 36 → st (36 + 6 * r + 3) = 0 ∨ (st 0 < st (36 + 6 * r + 5) ∧ st (36 + 6 * r + 5) ≤ st 0 + 99)
theorem triT_up {st : S} {i : Nat} {v : Int} {r : Nat} (h : triT (st (36 + 6 * r)) (st (36 + 6 * r + 1)) (st (36 + 6 * r + 2))) (h1 : i ≠ 36 + 6 * r) (h2 : i ≠ 36 + 6 * r + 1) (h3 : i ≠ 36 + 6 * r + 2) : triT (up st i v (36 + 6 * r)) (up st i v (36 + 6 * r + 1)) (up st i v (36 + 6 * r + 2)) := by
  rw [up_ne _ _ (Ne.symm h1), up_ne _ _ (Ne.symm h2), up_ne _ _ (Ne.symm h3)]; exact h
/-- a place that no range speaks of -/
theorem IB_free {T : Int} {st : S} (h : IB T st) (i : Nat) (v : Int) (hi : (1 ≤ i ∧ i < 6) ∨ ∃ z, z < 6 ∧ i = 6 + 5 * z + 4) : IB T (up st i v) := by
  obtain ⟨h0, h1, h2, h3⟩ := h
  have hi' : (1 ≤ i ∧ i < 6) ∨ (i % 5 = 0 ∧ 10 ≤ i ∧ i < 36) := by rcases hi with hi | ⟨z, hz, hi⟩ <;> omega
  have e : ∀ j, (j < 1 ∨ (6 ≤ j ∧ j % 5 ≠ 0) ∨ 36 ≤ j) → up st i v j = st j := fun j hj => up_ne _ _ (by omega)
  refine ⟨by rw [e 0 (by omega)]; exact h0, by rw [e 6 (by omega), e 9 (by omega)]; exact h1, fun z hz => ?_, fun r hr => ?_⟩
  · unfold zoneB
    rw [e (6 + 5 * z) (by omega), e (6 + 5 * z + 1) (by omega), e (6 + 5 * z + 2) (by omega), e (6 + 5 * z + 3) (by omega)]
    exact h2 z hz
  · rw [e (36 + 6 * r) (by omega), e (36 + 6 * r + 1) (by omega), e (36 + 6 * r + 2) (by omega), e (36 + 6 * r + 3) (by omega), e (36 + 6 * r + 4) (by omega), e (36 + 6 * r + 5) (by omega)]
    exact h3 r hr
theorem IB_ends {T : Int} {st : S} (h : IB T st) (z : Nat) (v : Int) (hz : 1 ≤ z ∧ z < 6) (hv : 0 ≤ v ∧ v ≤ T + 99) : IB T (up st (6 + 5 * z + 3) v) := by
  obtain ⟨h0, h1, h2, h3⟩ := h
  have e : ∀ j, j ≠ 6 + 5 * z + 3 → up st (6 + 5 * z + 3) v j = st j := fun j hj => up_ne _ _ hj
  refine ⟨by rw [e 0 (by omega)]; exact h0, by rw [e 6 (by omega), e 9 (by omega)]; exact h1, fun y hy => ?_, fun r hr => ?_⟩
  · have hb := h2 y hy
    unfold zoneB at hb ⊢
    rw [e (6 + 5 * y) (by omega), e (6 + 5 * y + 1) (by omega), e (6 + 5 * y + 2) (by omega)]
    by_cases hyz : y = z
    · subst hyz; rw [up_eq]; omega
    · rw [e (6 + 5 * y + 3) (by omega)]; exact hb
  · rw [e (36 + 6 * r) (by omega), e (36 + 6 * r + 1) (by omega), e (36 + 6 * r + 2) (by omega), e (36 + 6 * r + 3) (by omega), e (36 + 6 * r + 4) (by omega), e (36 + 6 * r + 5) (by omega)]
    exact h3 r hr
theorem IB_saved {T : Int} {st : S} (h : IB T st) (r : Nat) (k v e' : Int) (hr : r < 36) (hv : triM T k v e') : IB T (up (up (up st (36 + 6 * r + 3) k) (36 + 6 * r + 4) v) (36 + 6 * r + 5) e') := by
  obtain ⟨h0, h1, h2, h3⟩ := h
  have e : ∀ j, j ≠ 36 + 6 * r + 3 → j ≠ 36 + 6 * r + 4 → j ≠ 36 + 6 * r + 5 → up (up (up st (36 + 6 * r + 3) k) (36 + 6 * r + 4) v) (36 + 6 * r + 5) e' j = st j := fun j h1 h2 h3 => by rw [up_ne _ _ h3, up_ne _ _ h2, up_ne _ _ h1]
  refine ⟨by rw [e 0 (by omega) (by omega) (by omega)]; exact h0, by rw [e 6 (by omega) (by omega) (by omega), e 9 (by omega) (by omega) (by omega)]; exact h1, fun y hy => ?_, fun q hq => ?_⟩
  · unfold zoneB
    rw [e (6 + 5 * y) (by omega) (by omega) (by omega), e (6 + 5 * y + 1) (by omega) (by omega) (by omega), e (6 + 5 * y + 2) (by omega) (by omega) (by omega), e (6 + 5 * y + 3) (by omega) (by omega) (by omega)]
    exact h2 y hy
  · rw [e (36 + 6 * q) (by omega) (by omega) (by omega), e (36 + 6 * q + 1) (by omega) (by omega) (by omega), e (36 + 6 * q + 2) (by omega) (by omega) (by omega)]
    refine ⟨(h3 q hq).1, ?_⟩
    by_cases hqr : q = r
    · subst hqr
      have e3 : ∀ x y z : Int, up (up (up st (36 + 6 * q + 3) x) (36 + 6 * q + 4) y) (36 + 6 * q + 5) z (36 + 6 * q + 3) = x := fun x y z => by rw [up_ne _ _ (by omega), up_ne _ _ (by omega), up_eq]
      have e4 : ∀ x y z : Int, up (up (up st (36 + 6 * q + 3) x) (36 + 6 * q + 4) y) (36 + 6 * q + 5) z (36 + 6 * q + 4) = y := fun x y z => by rw [up_ne _ _ (by omega), up_eq]
      rw [e3, e4, up_eq]
      exact hv
    · rw [e (36 + 6 * q + 3) (by omega) (by omega) (by omega), e (36 + 6 * q + 4) (by omega) (by omega) (by omega), e (36 + 6 * q + 5) (by omega) (by omega) (by omega)]
      exact (h3 q hq).2
theorem IB_par {T : Int} {st : S} (h : IB T st) {z : Nat} (h1 : 1 ≤ z) (hz : z < 6) : st (6 + 5 * z) = (par st z : Int) ∧ par st z < z := by
  have := (h.2.2.1 z hz).1 h1
  unfold par
  omega
theorem IB_mono {T U : Int} {st : S} (h : IB T st) (hTU : T ≤ U) (hU : U ≤ 100000) : IB U st := by
  obtain ⟨h0, h1, h2, h3⟩ := h
  refine ⟨by omega, h1, fun z hz => ?_, fun r hr => ⟨(h3 r hr).1, ?_⟩⟩
  · have := h2 z hz; unfold zoneB at this ⊢; omega
  · have := (h3 r hr).2; unfold triM at this ⊢; omega
theorem IB_costs {T : Int} {st : S} (h : IB T st) {z : Nat} (hz : z < 6) : IB T (costs st z) := IB_free (IB_free h 2 _ (by omega)) _ _ (Or.inr ⟨z, hz, rfl⟩)
theorem costs_ne {st : S} {z j : Nat} (h : j ≠ 2) (h2 : j ≠ 6 + 5 * z + 4) : costs st z j = st j := by unfold costs; rw [up_ne _ _ h2, up_ne _ _ h]
theorem IB_way2 {T : Int} {st : S} (h : IB T st) {p z : Nat} (hp : p < 6) (hz : 1 ≤ z ∧ z < 6) : IB T (way2 st p z) := by
  refine IB_free (IB_ends (IB_costs h hp) z _ hz ?_) 4 _ (by omega)
  rw [costs_ne (by omega) (by omega), costs_ne (by omega) (by omega)]
  have h2 := h.2.2.1 p hp
  have h0 := h.1
  unfold zoneB at h2
  omega
theorem way2_ne {st : S} {p z j : Nat} (h2 : j ≠ 2) (h4 : j ≠ 4) (ha : j ≠ 6 + 5 * p + 4) (he : j ≠ 6 + 5 * z + 3) : way2 st p z j = st j := by
  unfold way2; rw [up_ne _ _ h4, up_ne _ _ he, costs_ne h2 ha]
theorem come_all {T : Int} : ∀ (n : Nat) {st : S} (_ : IB T st) {z : Nat} (_ : z < 6), IB T (come n st z) ∧ ∀ j, j ≠ 2 → j ≠ 4 → (∀ p, p < 6 → j ≠ 6 + 5 * p + 4 ∧ j ≠ 6 + 5 * p + 3) → come n st z j = st j
  | 0, st, h, z, hz => ⟨h, fun _ _ _ _ => rfl⟩
  | n + 1, st, h, z, hz => by
    unfold come
    split
    · exact ⟨h, fun _ _ _ _ => rfl⟩
    · rename_i hc
      have hp := IB_par h (z := z) (by omega) hz
      obtain ⟨a, b⟩ := come_all n h (z := par st z) (by omega)
      refine ⟨IB_way2 a (by omega) (by omega), fun j h2 h4 hj => ?_⟩
      rw [way2_ne h2 h4 (hj (par st z) (by omega)).1 (hj z hz).2, b j h2 h4 hj]
theorem IB_come {T : Int} {n : Nat} {st : S} (h : IB T st) {z : Nat} (hz : z < 6) : IB T (come n st z) := (come_all n h hz).1
theorem hold_eq (st : S) (r z : Nat) (hr : r < 36) (hz : z < 6) : hold st r z = up (up (up (up st (36 + 6 * r + 3) (if st (36 + 6 * r) = 0 then 3 else st (36 + 6 * r))) (36 + 6 * r + 4) (st (36 + 6 * r + 1))) (36 + 6 * r + 5) (st 0 + (if st (36 + 6 * r) = 0 then st (6 + 5 * z + 2) else st (36 + 6 * r + 2)))) 4 (st 4 + 1) := by
  unfold hold hold3 hold2 hold1
  simp only [up_ne _ _ (show 36 + 6 * r + 1 ≠ 36 + 6 * r + 3 by omega), up_ne _ _ (show 0 ≠ 36 + 6 * r + 4 by omega), up_ne _ _ (show 0 ≠ 36 + 6 * r + 3 by omega), up_ne _ _ (show 6 + 5 * z + 2 ≠ 36 + 6 * r + 4 by omega), up_ne _ _ (show 6 + 5 * z + 2 ≠ 36 + 6 * r + 3 by omega), up_ne _ _ (show 36 + 6 * r + 2 ≠ 36 + 6 * r + 4 by omega), up_ne _ _ (show 36 + 6 * r + 2 ≠ 36 + 6 * r + 3 by omega), up_ne _ _ (show 4 ≠ 36 + 6 * r + 5 by omega), up_ne _ _ (show 4 ≠ 36 + 6 * r + 4 by omega), up_ne _ _ (show 4 ≠ 36 + 6 * r + 3 by omega)]
theorem IB_hold {T : Int} {st : S} (h : IB T st) {r z : Nat} (hr : r < 36) (hz : z < 6) : IB T (hold st r z) := by
  rw [hold_eq st r z hr hz]
  refine IB_free (IB_saved h r _ _ _ hr ?_) 4 _ (by omega)
  have h3 := (h.2.2.2 r hr).1
  have h2 := h.2.2.1 z hz
  have h0 := h.1
  unfold triT at h3; unfold zoneB at h2; unfold triM
  split <;> omega
theorem IB_asks {T : Int} {st : S} (h : IB T st) {r : Nat} (hr : r < 36) : IB T (asks st r) := IB_hold (IB_costs (IB_come h (by omega)) (by omega)) hr (by omega)
theorem IB_take {T : Int} {st : S} (h : IB T st) {r : Nat} (hr : r < 36) : IB T (take st r) := by
  unfold take; split
  · exact IB_asks h hr
  · exact IB_free h 3 _ (by omega)
theorem IB_next {T : Int} {st : S} (h : IB T st) {r : Nat} (hr : r < 36) (hk : st (36 + 6 * r + 3) = 2) : st (36 + 6 * r + 4) = ((st (36 + 6 * r + 4)).toNat : Int) ∧ (st (36 + 6 * r + 4)).toNat < 36 := by
  have := (h.2.2.2 r hr).2
  unfold triM at this; omega
theorem IB_nextT {T : Int} {st : S} (h : IB T st) {r : Nat} (hr : r < 36) (hk : st (36 + 6 * r) = 2) : st (36 + 6 * r + 1) = ((st (36 + 6 * r + 1)).toNat : Int) ∧ (st (36 + 6 * r + 1)).toNat < 36 := by
  have := (h.2.2.2 r hr).1
  unfold triT at this; omega
theorem IB_solvesF {T : Int} : ∀ (n : Nat) {st : S} (_ : IB T st) {r : Nat} (_ : r < 36), IB T (solvesF n st r).1
  | 0, _, h, _, _ => h
  | n + 1, st, h, r, hr => by
    unfold solvesF
    split
    · rename_i hk
      exact IB_solvesF n (IB_take h hr) (IB_next (IB_take h hr) hr hk).2
    · exact IB_take h hr
theorem IB_forg {T : Int} {st : S} (h : IB T st) {r : Nat} (hr : r < 36) : IB T (forg st r) := IB_free (IB_saved h r 0 0 0 hr (Or.inl ⟨rfl, rfl, rfl⟩)) 5 _ (by omega)
theorem IB_passZ {T : Int} {st : S} (h : IB T st) {z : Nat} (hz : z < 6) : IB T (passZ st z) := by
  unfold passZ; split
  · rename_i hc
    have : z ≠ 0 := by rintro rfl; have h9 : st (6 + 5 * 0 + 3) = 0 := h.2.1.2; omega
    have h0 := h.1
    exact IB_free (IB_ends h z 0 (by omega) (by omega)) 5 _ (by omega)
  · exact h
theorem IB_passR {T : Int} {st : S} (h : IB T st) {r : Nat} (hr : r < 36) : IB T (passR st r) := by
  unfold passR; split
  · exact IB_forg h hr
  · exact h
theorem iter_IB {T : Int} {f : S → Nat → S} {N : Nat} (hf : ∀ st n, n < N → IB T st → IB T (f st n)) : ∀ n, n ≤ N → ∀ st, IB T st → IB T (iter f n st)
  | 0, _, _, h => h
  | n + 1, hn, st, h => hf _ n (by omega) (iter_IB hf n (by omega) st h)
theorem IB_time {T : Int} {st : S} (h : IB T st) (v : Int) (hv : 0 ≤ v) (U : Int) (hU : T ≤ U ∧ v ≤ U ∧ U ≤ 100000) : IB U (up st 0 v) := by
  obtain ⟨h0, h1, h2, h3⟩ := IB_mono h hU.1 hU.2.2
  have e : ∀ j, 0 < j → up st 0 v j = st j := fun j hj => up_ne _ _ (by omega)
  refine ⟨by rw [up_eq]; omega, by rw [e 6 (by omega), e 9 (by omega)]; exact h1, fun z hz => ?_, fun r hr => ?_⟩
  · unfold zoneB
    rw [e (6 + 5 * z) (by omega), e (6 + 5 * z + 1) (by omega), e (6 + 5 * z + 2) (by omega), e (6 + 5 * z + 3) (by omega)]
    exact h2 z hz
  · rw [e (36 + 6 * r) (by omega), e (36 + 6 * r + 1) (by omega), e (36 + 6 * r + 2) (by omega), e (36 + 6 * r + 3) (by omega), e (36 + 6 * r + 4) (by omega), e (36 + 6 * r + 5) (by omega)]
    exact h3 r hr
theorem IB_passes {T : Int} {st : S} (h : IB T st) (t : Int) (ht : 0 ≤ t) (U : Int) (hU : T + t ≤ U ∧ U ≤ 100000) : IB U (passes st t) := by
  have h0 := h.1
  have h1 : IB U (up st 0 (st 0 + t)) := IB_time h _ (by omega) U (by omega)
  exact iter_IB (N := 36) (fun st n hn h => IB_passR h hn) 36 (Nat.le_refl _) _ (iter_IB (N := 6) (fun st n hn h => IB_passZ h hn) 6 (Nat.le_refl _) _ h1)
end
